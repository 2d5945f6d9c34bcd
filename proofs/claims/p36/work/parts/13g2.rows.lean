/-! X12_gainOf -/
theorem d161_0 : decode prog_14_method_36_code 0 = .ok (.aload_n 0, 1) := by decide +kernel
theorem d161_1 : decode prog_14_method_36_code 1 = .ok (.iload_n 1, 1) := by decide +kernel
theorem d161_2 : decode prog_14_method_36_code 2 = .ok (.invokevirtual 177, 3) := by decide +kernel
theorem d161_5 : decode prog_14_method_36_code 5 = .ok (.aload_n 0, 1) := by decide +kernel
theorem d161_6 : decode prog_14_method_36_code 6 = .ok (.iload_n 1, 1) := by decide +kernel
theorem d161_7 : decode prog_14_method_36_code 7 = .ok (.invokevirtual 180, 3) := by decide +kernel
theorem d161_10 : decode prog_14_method_36_code 10 = .ok (.iadd, 1) := by decide +kernel
theorem d161_11 : decode prog_14_method_36_code 11 = .ok (.aload_n 0, 1) := by decide +kernel
theorem d161_12 : decode prog_14_method_36_code 12 = .ok (.iconst 5, 1) := by decide +kernel
theorem d161_13 : decode prog_14_method_36_code 13 = .ok (.invokevirtual 254, 3) := by decide +kernel
theorem d161_16 : decode prog_14_method_36_code 16 = .ok (.iadd, 1) := by decide +kernel
theorem d161_17 : decode prog_14_method_36_code 17 = .ok (.aload_n 0, 1) := by decide +kernel
theorem d161_18 : decode prog_14_method_36_code 18 = .ok (.getfield 36, 3) := by decide +kernel
theorem d161_21 : decode prog_14_method_36_code 21 = .ok (.isub, 1) := by decide +kernel
theorem d161_22 : decode prog_14_method_36_code 22 = .ok (.ireturn, 1) := by decide +kernel
theorem b161_0 {d : Nat} {S : mm_S} {a0 : Nat} {x1 : Int32} (h0 : mm_rk S a0 = 12) : mm_ex (d + 1) 161 0 [.ref a0, .int x1] [] S =
    mm_bd (mm_cl d 156 [.ref a0, .int x1] S) (fun v S2 => mm_ex (d + 1) 161 5 [.ref a0, .int x1] (v.toList ++ []) S2) :=
  Eq.trans (mx_aload_n t161 d161_0 (x := a0) rfl) <|
  Eq.trans (mx_iload_n t161 d161_1 (x := x1) rfl) <|
  (mx_virt (st := []) (k := 12) t161 [.int x1] d161_2 vt12_177 rfl rfl (Nat.le_of_ble_eq_true rfl) (Nat.le_of_ble_eq_true rfl) h0)
theorem b161_5 {d : Nat} {S : mm_S} {a0 : Nat} {x1 : Int32} {p0 : Int32} (h0 : mm_rk S a0 = 12) : mm_ex (d + 1) 161 5 [.ref a0, .int x1] [.int p0] S =
    mm_bd (mm_cl d 157 [.ref a0, .int x1] S) (fun v S2 => mm_ex (d + 1) 161 10 [.ref a0, .int x1] (v.toList ++ [.int p0]) S2) :=
  Eq.trans (mx_aload_n t161 d161_5 (x := a0) rfl) <|
  Eq.trans (mx_iload_n t161 d161_6 (x := x1) rfl) <|
  (mx_virt (st := [.int p0]) (k := 12) t161 [.int x1] d161_7 vt12_180 rfl rfl (Nat.le_of_ble_eq_true rfl) (Nat.le_of_ble_eq_true rfl) h0)
theorem b161_10 {d : Nat} {S : mm_S} {a0 : Nat} {x1 : Int32} {p0 : Int32} {p1 : Int32} (h0 : mm_rk S a0 = 12) : mm_ex (d + 1) 161 10 [.ref a0, .int x1] [.int p0, .int p1] S =
    mm_bd (mm_cl d 158 [.ref a0, .int (nI 5)] S) (fun v S2 => mm_ex (d + 1) 161 16 [.ref a0, .int x1] (v.toList ++ [.int (p1 + p0)]) S2) :=
  Eq.trans (mx_iadd t161 d161_10) <|
  Eq.trans (mx_aload_n t161 d161_11 (x := a0) rfl) <|
  Eq.trans (mx_iconst t161 d161_12 (v := nI 5) rfl) <|
  (mx_virt (st := [.int (p1 + p0)]) (k := 12) t161 [.int (nI 5)] d161_13 vt12_254 rfl rfl (Nat.le_of_ble_eq_true rfl) (Nat.le_of_ble_eq_true rfl) h0)
theorem b161_16 {d : Nat} {S : mm_S} {a0 : Nat} {x1 : Int32} {p0 : Int32} {p1 : Int32} (h0 : mm_obj S a0 12 = true) : mm_ex d 161 16 [.ref a0, .int x1] [.int p0, .int p1] S =
    some (some (.int ((p1 + p0) - (mm_M S a0 10))), S) :=
  Eq.trans (mx_iadd t161 d161_16) <|
  Eq.trans (mx_aload_n t161 d161_17 (x := a0) rfl) <|
  Eq.trans (mx_geti t161 d161_18 rfl fl12_36 h0) <|
  Eq.trans (mx_isub t161 d161_21) <|
  (mx_iret t161 d161_22 (ty := .int) rfl rfl (fun h => nomatch h))
theorem e161 {d : Nat} {S : mm_S} {a0 : Nat} {x1 : Int32} : mm_cl d 161 [.ref a0, .int x1] S = mm_ex d 161 0 [.ref a0, .int x1] [] S := mm_cl_eq t161 (Nat.le_of_ble_eq_true rfl) rfl
/-! X12_asBuyer -/
theorem d162_0 : decode prog_14_method_37_code 0 = .ok (.aload_n 0, 1) := by decide +kernel
theorem d162_1 : decode prog_14_method_37_code 1 = .ok (.iload_n 1, 1) := by decide +kernel
theorem d162_2 : decode prog_14_method_37_code 2 = .ok (.invokevirtual 263, 3) := by decide +kernel
theorem d162_5 : decode prog_14_method_37_code 5 = .ok (.ifCond .lt 7, 3) := by decide +kernel
theorem d162_8 : decode prog_14_method_37_code 8 = .ok (.iconst 1, 1) := by decide +kernel
theorem d162_9 : decode prog_14_method_37_code 9 = .ok (.goto 4, 3) := by decide +kernel
theorem d162_12 : decode prog_14_method_37_code 12 = .ok (.iconst 2, 1) := by decide +kernel
theorem d162_13 : decode prog_14_method_37_code 13 = .ok (.ireturn, 1) := by decide +kernel
theorem b162_0 {d : Nat} {S : mm_S} {a0 : Nat} {x1 : Int32} (h0 : mm_rk S a0 = 12) : mm_ex (d + 1) 162 0 [.ref a0, .int x1] [] S =
    mm_bd (mm_cl d 161 [.ref a0, .int x1] S) (fun v S2 => mm_ex (d + 1) 162 5 [.ref a0, .int x1] (v.toList ++ []) S2) :=
  Eq.trans (mx_aload_n t162 d162_0 (x := a0) rfl) <|
  Eq.trans (mx_iload_n t162 d162_1 (x := x1) rfl) <|
  (mx_virt (st := []) (k := 12) t162 [.int x1] d162_2 vt12_263 rfl rfl (Nat.le_of_ble_eq_true rfl) (Nat.le_of_ble_eq_true rfl) h0)
theorem b162_5 {d : Nat} {S : mm_S} {a0 : Nat} {x1 : Int32} {p0 : Int32} : mm_ex d 162 5 [.ref a0, .int x1] [.int p0] S =
    if p0 < nI 0 then mm_ex d 162 12 [.ref a0, .int x1] [] S else mm_ex d 162 8 [.ref a0, .int x1] [] S :=
  (mx_ilt t162 d162_5 (tgt := 12) (by decide))
theorem b162_8 {d : Nat} {S : mm_S} {a0 : Nat} {x1 : Int32} : mm_ex d 162 8 [.ref a0, .int x1] [] S =
    some (some (.int (nI 1)), S) :=
  Eq.trans (mx_iconst t162 d162_8 (v := nI 1) rfl) <|
  Eq.trans (mx_goto t162 d162_9 (tgt := 13) (by decide)) <|
  (mx_iret t162 d162_13 (ty := .int) rfl rfl (fun h => nomatch h))
theorem b162_12 {d : Nat} {S : mm_S} {a0 : Nat} {x1 : Int32} : mm_ex d 162 12 [.ref a0, .int x1] [] S =
    some (some (.int (nI 2)), S) :=
  Eq.trans (mx_iconst t162 d162_12 (v := nI 2) rfl) <|
  (mx_iret t162 d162_13 (ty := .int) rfl rfl (fun h => nomatch h))
theorem e162 {d : Nat} {S : mm_S} {a0 : Nat} {x1 : Int32} : mm_cl d 162 [.ref a0, .int x1] S = mm_ex d 162 0 [.ref a0, .int x1] [] S := mm_cl_eq t162 (Nat.le_of_ble_eq_true rfl) rfl
/-! X12_asWaiting -/
theorem d163_0 : decode prog_14_method_38_code 0 = .ok (.aload_n 0, 1) := by decide +kernel
theorem d163_1 : decode prog_14_method_38_code 1 = .ok (.iload_n 1, 1) := by decide +kernel
theorem d163_2 : decode prog_14_method_38_code 2 = .ok (.invokevirtual 177, 3) := by decide +kernel
theorem d163_5 : decode prog_14_method_38_code 5 = .ok (.aload_n 0, 1) := by decide +kernel
theorem d163_6 : decode prog_14_method_38_code 6 = .ok (.getfield 36, 3) := by decide +kernel
theorem d163_9 : decode prog_14_method_38_code 9 = .ok (.if_icmp .ge 15, 3) := by decide +kernel
theorem d163_12 : decode prog_14_method_38_code 12 = .ok (.aload_n 0, 1) := by decide +kernel
theorem d163_13 : decode prog_14_method_38_code 13 = .ok (.iload_n 1, 1) := by decide +kernel
theorem d163_14 : decode prog_14_method_38_code 14 = .ok (.invokevirtual 266, 3) := by decide +kernel
theorem d163_17 : decode prog_14_method_38_code 17 = .ok (.ifCond .eq 7, 3) := by decide +kernel
theorem d163_20 : decode prog_14_method_38_code 20 = .ok (.iconst 3, 1) := by decide +kernel
theorem d163_21 : decode prog_14_method_38_code 21 = .ok (.goto 8, 3) := by decide +kernel
theorem d163_24 : decode prog_14_method_38_code 24 = .ok (.aload_n 0, 1) := by decide +kernel
theorem d163_25 : decode prog_14_method_38_code 25 = .ok (.iload_n 1, 1) := by decide +kernel
theorem d163_26 : decode prog_14_method_38_code 26 = .ok (.invokevirtual 269, 3) := by decide +kernel
theorem d163_29 : decode prog_14_method_38_code 29 = .ok (.ireturn, 1) := by decide +kernel
theorem b163_0 {d : Nat} {S : mm_S} {a0 : Nat} {x1 : Int32} (h0 : mm_rk S a0 = 12) : mm_ex (d + 1) 163 0 [.ref a0, .int x1] [] S =
    mm_bd (mm_cl d 156 [.ref a0, .int x1] S) (fun v S2 => mm_ex (d + 1) 163 5 [.ref a0, .int x1] (v.toList ++ []) S2) :=
  Eq.trans (mx_aload_n t163 d163_0 (x := a0) rfl) <|
  Eq.trans (mx_iload_n t163 d163_1 (x := x1) rfl) <|
  (mx_virt (st := []) (k := 12) t163 [.int x1] d163_2 vt12_177 rfl rfl (Nat.le_of_ble_eq_true rfl) (Nat.le_of_ble_eq_true rfl) h0)
theorem b163_5 {d : Nat} {S : mm_S} {a0 : Nat} {x1 : Int32} {p0 : Int32} (h0 : mm_obj S a0 12 = true) : mm_ex d 163 5 [.ref a0, .int x1] [.int p0] S =
    if (mm_M S a0 10) ≤ p0 then mm_ex d 163 24 [.ref a0, .int x1] [] S else mm_ex d 163 12 [.ref a0, .int x1] [] S :=
  Eq.trans (mx_aload_n t163 d163_5 (x := a0) rfl) <|
  Eq.trans (mx_geti t163 d163_6 rfl fl12_36 h0) <|
  (mx_cge t163 d163_9 (tgt := 24) (by decide))
theorem b163_12 {d : Nat} {S : mm_S} {a0 : Nat} {x1 : Int32} (h0 : mm_rk S a0 = 12) : mm_ex (d + 1) 163 12 [.ref a0, .int x1] [] S =
    mm_bd (mm_cl d 160 [.ref a0, .int x1] S) (fun v S2 => mm_ex (d + 1) 163 17 [.ref a0, .int x1] (v.toList ++ []) S2) :=
  Eq.trans (mx_aload_n t163 d163_12 (x := a0) rfl) <|
  Eq.trans (mx_iload_n t163 d163_13 (x := x1) rfl) <|
  (mx_virt (st := []) (k := 12) t163 [.int x1] d163_14 vt12_266 rfl rfl (Nat.le_of_ble_eq_true rfl) (Nat.le_of_ble_eq_true rfl) h0)
theorem b163_17 {d : Nat} {S : mm_S} {a0 : Nat} {x1 : Int32} {p0 : Int32} : mm_ex d 163 17 [.ref a0, .int x1] [.int p0] S =
    if p0 = nI 0 then mm_ex d 163 24 [.ref a0, .int x1] [] S else mm_ex d 163 20 [.ref a0, .int x1] [] S :=
  (mx_ieq t163 d163_17 (tgt := 24) (by decide))
theorem b163_20 {d : Nat} {S : mm_S} {a0 : Nat} {x1 : Int32} : mm_ex d 163 20 [.ref a0, .int x1] [] S =
    some (some (.int (nI 3)), S) :=
  Eq.trans (mx_iconst t163 d163_20 (v := nI 3) rfl) <|
  Eq.trans (mx_goto t163 d163_21 (tgt := 29) (by decide)) <|
  (mx_iret t163 d163_29 (ty := .int) rfl rfl (fun h => nomatch h))
theorem b163_24 {d : Nat} {S : mm_S} {a0 : Nat} {x1 : Int32} (h0 : mm_rk S a0 = 12) : mm_ex (d + 1) 163 24 [.ref a0, .int x1] [] S =
    mm_bd (mm_cl d 162 [.ref a0, .int x1] S) (fun v S2 => mm_ex (d + 1) 163 29 [.ref a0, .int x1] (v.toList ++ []) S2) :=
  Eq.trans (mx_aload_n t163 d163_24 (x := a0) rfl) <|
  Eq.trans (mx_iload_n t163 d163_25 (x := x1) rfl) <|
  (mx_virt (st := []) (k := 12) t163 [.int x1] d163_26 vt12_269 rfl rfl (Nat.le_of_ble_eq_true rfl) (Nat.le_of_ble_eq_true rfl) h0)
theorem b163_29 {d : Nat} {S : mm_S} {a0 : Nat} {x1 : Int32} {p0 : Int32} : mm_ex d 163 29 [.ref a0, .int x1] [.int p0] S =
    some (some (.int p0), S) :=
  (mx_iret t163 d163_29 (ty := .int) rfl rfl (fun h => nomatch h))
theorem e163 {d : Nat} {S : mm_S} {a0 : Nat} {x1 : Int32} : mm_cl d 163 [.ref a0, .int x1] S = mm_ex d 163 0 [.ref a0, .int x1] [] S := mm_cl_eq t163 (Nat.le_of_ble_eq_true rfl) rfl
/-! X12_asFalling -/
theorem dd164_0 : (decode prog_14_method_39_code 0 = .ok (.aload_n 0, 1)) ∧ (decode prog_14_method_39_code 1 = .ok (.getfield 36, 3)) ∧ (decode prog_14_method_39_code 4 = .ok (.aload_n 0, 1)) ∧ (decode prog_14_method_39_code 5 = .ok (.getfield 15, 3)) ∧ (decode prog_14_method_39_code 8 = .ok (.iload_n 1, 1)) ∧ (decode prog_14_method_39_code 9 = .ok (.iaload, 1)) ∧ (decode prog_14_method_39_code 10 = .ok (.if_icmp .le 33, 3)) ∧ (decode prog_14_method_39_code 13 = .ok (.aload_n 0, 1)) ∧ (decode prog_14_method_39_code 14 = .ok (.getfield 21, 3)) ∧ (decode prog_14_method_39_code 17 = .ok (.iload_n 1, 1)) ∧ (decode prog_14_method_39_code 18 = .ok (.iaload, 1)) ∧ (decode prog_14_method_39_code 19 = .ok (.bipush (-5), 2)) ∧ (decode prog_14_method_39_code 21 = .ok (.if_icmp .eq 22, 3)) ∧ (decode prog_14_method_39_code 24 = .ok (.aload_n 0, 1)) ∧ (decode prog_14_method_39_code 25 = .ok (.aload_n 0, 1)) ∧ (decode prog_14_method_39_code 26 = .ok (.getfield 21, 3)) := by decide +kernel
theorem d164_0 : decode prog_14_method_39_code 0 = .ok (.aload_n 0, 1) := dd164_0.1
theorem d164_1 : decode prog_14_method_39_code 1 = .ok (.getfield 36, 3) := dd164_0.2.1
theorem d164_4 : decode prog_14_method_39_code 4 = .ok (.aload_n 0, 1) := dd164_0.2.2.1
theorem d164_5 : decode prog_14_method_39_code 5 = .ok (.getfield 15, 3) := dd164_0.2.2.2.1
theorem d164_8 : decode prog_14_method_39_code 8 = .ok (.iload_n 1, 1) := dd164_0.2.2.2.2.1
theorem d164_9 : decode prog_14_method_39_code 9 = .ok (.iaload, 1) := dd164_0.2.2.2.2.2.1
theorem d164_10 : decode prog_14_method_39_code 10 = .ok (.if_icmp .le 33, 3) := dd164_0.2.2.2.2.2.2.1
theorem d164_13 : decode prog_14_method_39_code 13 = .ok (.aload_n 0, 1) := dd164_0.2.2.2.2.2.2.2.1
theorem d164_14 : decode prog_14_method_39_code 14 = .ok (.getfield 21, 3) := dd164_0.2.2.2.2.2.2.2.2.1
theorem d164_17 : decode prog_14_method_39_code 17 = .ok (.iload_n 1, 1) := dd164_0.2.2.2.2.2.2.2.2.2.1
theorem d164_18 : decode prog_14_method_39_code 18 = .ok (.iaload, 1) := dd164_0.2.2.2.2.2.2.2.2.2.2.1
theorem d164_19 : decode prog_14_method_39_code 19 = .ok (.bipush (-5), 2) := dd164_0.2.2.2.2.2.2.2.2.2.2.2.1
theorem d164_21 : decode prog_14_method_39_code 21 = .ok (.if_icmp .eq 22, 3) := dd164_0.2.2.2.2.2.2.2.2.2.2.2.2.1
theorem d164_24 : decode prog_14_method_39_code 24 = .ok (.aload_n 0, 1) := dd164_0.2.2.2.2.2.2.2.2.2.2.2.2.2.1
theorem d164_25 : decode prog_14_method_39_code 25 = .ok (.aload_n 0, 1) := dd164_0.2.2.2.2.2.2.2.2.2.2.2.2.2.2.1
theorem d164_26 : decode prog_14_method_39_code 26 = .ok (.getfield 21, 3) := dd164_0.2.2.2.2.2.2.2.2.2.2.2.2.2.2.2
theorem dd164_29 : (decode prog_14_method_39_code 29 = .ok (.iload_n 1, 1)) ∧ (decode prog_14_method_39_code 30 = .ok (.iaload, 1)) ∧ (decode prog_14_method_39_code 31 = .ok (.invokevirtual 173, 3)) ∧ (decode prog_14_method_39_code 34 = .ok (.bipush (-5), 2)) ∧ (decode prog_14_method_39_code 36 = .ok (.if_icmp .eq 7, 3)) ∧ (decode prog_14_method_39_code 39 = .ok (.iconst 1, 1)) ∧ (decode prog_14_method_39_code 40 = .ok (.goto 4, 3)) ∧ (decode prog_14_method_39_code 43 = .ok (.iconst 0, 1)) ∧ (decode prog_14_method_39_code 44 = .ok (.istore_n 2, 1)) ∧ (decode prog_14_method_39_code 45 = .ok (.iload_n 2, 1)) ∧ (decode prog_14_method_39_code 46 = .ok (.ifCond .eq 7, 3)) ∧ (decode prog_14_method_39_code 49 = .ok (.iconst 2, 1)) ∧ (decode prog_14_method_39_code 50 = .ok (.goto 8, 3)) ∧ (decode prog_14_method_39_code 53 = .ok (.aload_n 0, 1)) ∧ (decode prog_14_method_39_code 54 = .ok (.iload_n 1, 1)) ∧ (decode prog_14_method_39_code 55 = .ok (.invokevirtual 269, 3)) := by decide +kernel
theorem d164_29 : decode prog_14_method_39_code 29 = .ok (.iload_n 1, 1) := dd164_29.1
theorem d164_30 : decode prog_14_method_39_code 30 = .ok (.iaload, 1) := dd164_29.2.1
theorem d164_31 : decode prog_14_method_39_code 31 = .ok (.invokevirtual 173, 3) := dd164_29.2.2.1
theorem d164_34 : decode prog_14_method_39_code 34 = .ok (.bipush (-5), 2) := dd164_29.2.2.2.1
theorem d164_36 : decode prog_14_method_39_code 36 = .ok (.if_icmp .eq 7, 3) := dd164_29.2.2.2.2.1
theorem d164_39 : decode prog_14_method_39_code 39 = .ok (.iconst 1, 1) := dd164_29.2.2.2.2.2.1
theorem d164_40 : decode prog_14_method_39_code 40 = .ok (.goto 4, 3) := dd164_29.2.2.2.2.2.2.1
theorem d164_43 : decode prog_14_method_39_code 43 = .ok (.iconst 0, 1) := dd164_29.2.2.2.2.2.2.2.1
theorem d164_44 : decode prog_14_method_39_code 44 = .ok (.istore_n 2, 1) := dd164_29.2.2.2.2.2.2.2.2.1
theorem d164_45 : decode prog_14_method_39_code 45 = .ok (.iload_n 2, 1) := dd164_29.2.2.2.2.2.2.2.2.2.1
theorem d164_46 : decode prog_14_method_39_code 46 = .ok (.ifCond .eq 7, 3) := dd164_29.2.2.2.2.2.2.2.2.2.2.1
theorem d164_49 : decode prog_14_method_39_code 49 = .ok (.iconst 2, 1) := dd164_29.2.2.2.2.2.2.2.2.2.2.2.1
theorem d164_50 : decode prog_14_method_39_code 50 = .ok (.goto 8, 3) := dd164_29.2.2.2.2.2.2.2.2.2.2.2.2.1
theorem d164_53 : decode prog_14_method_39_code 53 = .ok (.aload_n 0, 1) := dd164_29.2.2.2.2.2.2.2.2.2.2.2.2.2.1
theorem d164_54 : decode prog_14_method_39_code 54 = .ok (.iload_n 1, 1) := dd164_29.2.2.2.2.2.2.2.2.2.2.2.2.2.2.1
theorem d164_55 : decode prog_14_method_39_code 55 = .ok (.invokevirtual 269, 3) := dd164_29.2.2.2.2.2.2.2.2.2.2.2.2.2.2.2
theorem d164_58 : decode prog_14_method_39_code 58 = .ok (.ireturn, 1) := by decide +kernel
theorem b164_0 {d : Nat} {S : mm_S} {a0 : Nat} {x1 : Int32} (h0 : mm_obj S a0 12 = true) (h1 : (mm_R S a0 2).isSome = true) (h2 : mm_inb x1 (mm_N S (mm_rg S a0 2)) = true) (h3 : mm_arr S (mm_rg S a0 2) 13 = true) : mm_ex d 164 0 [.ref a0, .int x1, .null] [] S =
    if (mm_M S a0 10) ≤ (mm_M S (mm_rg S a0 2) (x1).toNatClampNeg) then mm_ex d 164 43 [.ref a0, .int x1, .null] [] S else mm_ex d 164 13 [.ref a0, .int x1, .null] [] S :=
  Eq.trans (mx_aload_n t164 d164_0 (x := a0) rfl) <|
  Eq.trans (mx_geti t164 d164_1 rfl fl12_36 h0) <|
  Eq.trans (mx_aload_n t164 d164_4 (x := a0) rfl) <|
  Eq.trans (mx_getR t164 d164_5 rfl fl12_15 h0 h1) <|
  Eq.trans (mx_iload_n t164 d164_8 (x := x1) rfl) <|
  Eq.trans (mx_iald t164 d164_9 h3 h2) <|
  (mx_cle t164 d164_10 (tgt := 43) (by decide))
theorem b164_13 {d : Nat} {S : mm_S} {a0 : Nat} {x1 : Int32} (h0 : mm_obj S a0 12 = true) (h1 : (mm_R S a0 4).isSome = true) (h2 : mm_inb x1 (mm_N S (mm_rg S a0 4)) = true) (h3 : mm_arr S (mm_rg S a0 4) 13 = true) : mm_ex d 164 13 [.ref a0, .int x1, .null] [] S =
    if (mm_M S (mm_rg S a0 4) (x1).toNatClampNeg) = (-5) then mm_ex d 164 43 [.ref a0, .int x1, .null] [] S else mm_ex d 164 24 [.ref a0, .int x1, .null] [] S :=
  Eq.trans (mx_aload_n t164 d164_13 (x := a0) rfl) <|
  Eq.trans (mx_getR t164 d164_14 rfl fl12_21 h0 h1) <|
  Eq.trans (mx_iload_n t164 d164_17 (x := x1) rfl) <|
  Eq.trans (mx_iald t164 d164_18 h3 h2) <|
  Eq.trans (mx_bipush t164 d164_19 (v := -5) rfl) <|
  (mx_ceq t164 d164_21 (tgt := 43) (by decide))
theorem b164_24 {d : Nat} {S : mm_S} {a0 : Nat} {x1 : Int32} (h0 : mm_obj S a0 12 = true) (h1 : (mm_R S a0 4).isSome = true) (h2 : mm_inb x1 (mm_N S (mm_rg S a0 4)) = true) (h3 : mm_arr S (mm_rg S a0 4) 13 = true) (h4 : mm_rk S a0 = 12) : mm_ex (d + 1) 164 24 [.ref a0, .int x1, .null] [] S =
    mm_bd (mm_cl d 130 [.ref a0, .int (mm_M S (mm_rg S a0 4) (x1).toNatClampNeg)] S) (fun v S2 => mm_ex (d + 1) 164 34 [.ref a0, .int x1, .null] (v.toList ++ []) S2) :=
  Eq.trans (mx_aload_n t164 d164_24 (x := a0) rfl) <|
  Eq.trans (mx_aload_n t164 d164_25 (x := a0) rfl) <|
  Eq.trans (mx_getR t164 d164_26 rfl fl12_21 h0 h1) <|
  Eq.trans (mx_iload_n t164 d164_29 (x := x1) rfl) <|
  Eq.trans (mx_iald t164 d164_30 h3 h2) <|
  (mx_virt (st := []) (k := 12) t164 [.int (mm_M S (mm_rg S a0 4) (x1).toNatClampNeg)] d164_31 vt12_173 rfl rfl (Nat.le_of_ble_eq_true rfl) (Nat.le_of_ble_eq_true rfl) h4)
theorem b164_34 {d : Nat} {S : mm_S} {a0 : Nat} {x1 : Int32} {p0 : Int32} : mm_ex d 164 34 [.ref a0, .int x1, .null] [.int p0] S =
    if p0 = (-5) then mm_ex d 164 43 [.ref a0, .int x1, .null] [] S else mm_ex d 164 39 [.ref a0, .int x1, .null] [] S :=
  Eq.trans (mx_bipush t164 d164_34 (v := -5) rfl) <|
  (mx_ceq t164 d164_36 (tgt := 43) (by decide))
theorem b164_39 {d : Nat} {S : mm_S} {a0 : Nat} {x1 : Int32} : mm_ex d 164 39 [.ref a0, .int x1, .null] [] S =
    if (nI 1) = nI 0 then mm_ex d 164 53 [.ref a0, .int x1, .int (nI 1)] [] S else mm_ex d 164 49 [.ref a0, .int x1, .int (nI 1)] [] S :=
  Eq.trans (mx_iconst t164 d164_39 (v := nI 1) rfl) <|
  Eq.trans (mx_goto t164 d164_40 (tgt := 44) (by decide)) <|
  Eq.trans (mx_istore_n t164 d164_44 (ls' := [.ref a0, .int x1, .int (nI 1)]) rfl rfl) <|
  Eq.trans (mx_iload_n t164 d164_45 (x := nI 1) rfl) <|
  (mx_ieq t164 d164_46 (tgt := 53) (by decide))
theorem b164_43 {d : Nat} {S : mm_S} {a0 : Nat} {x1 : Int32} : mm_ex d 164 43 [.ref a0, .int x1, .null] [] S =
    if (nI 0) = nI 0 then mm_ex d 164 53 [.ref a0, .int x1, .int (nI 0)] [] S else mm_ex d 164 49 [.ref a0, .int x1, .int (nI 0)] [] S :=
  Eq.trans (mx_iconst t164 d164_43 (v := nI 0) rfl) <|
  Eq.trans (mx_istore_n t164 d164_44 (ls' := [.ref a0, .int x1, .int (nI 0)]) rfl rfl) <|
  Eq.trans (mx_iload_n t164 d164_45 (x := nI 0) rfl) <|
  (mx_ieq t164 d164_46 (tgt := 53) (by decide))
theorem b164_49 {d : Nat} {S : mm_S} {a0 : Nat} {x1 : Int32} {x2 : Int32} : mm_ex d 164 49 [.ref a0, .int x1, .int x2] [] S =
    some (some (.int (nI 2)), S) :=
  Eq.trans (mx_iconst t164 d164_49 (v := nI 2) rfl) <|
  Eq.trans (mx_goto t164 d164_50 (tgt := 58) (by decide)) <|
  (mx_iret t164 d164_58 (ty := .int) rfl rfl (fun h => nomatch h))
theorem b164_53 {d : Nat} {S : mm_S} {a0 : Nat} {x1 : Int32} {x2 : Int32} (h0 : mm_rk S a0 = 12) : mm_ex (d + 1) 164 53 [.ref a0, .int x1, .int x2] [] S =
    mm_bd (mm_cl d 162 [.ref a0, .int x1] S) (fun v S2 => mm_ex (d + 1) 164 58 [.ref a0, .int x1, .int x2] (v.toList ++ []) S2) :=
  Eq.trans (mx_aload_n t164 d164_53 (x := a0) rfl) <|
  Eq.trans (mx_iload_n t164 d164_54 (x := x1) rfl) <|
  (mx_virt (st := []) (k := 12) t164 [.int x1] d164_55 vt12_269 rfl rfl (Nat.le_of_ble_eq_true rfl) (Nat.le_of_ble_eq_true rfl) h0)
theorem b164_58 {d : Nat} {S : mm_S} {a0 : Nat} {x1 : Int32} {x2 : Int32} {p0 : Int32} : mm_ex d 164 58 [.ref a0, .int x1, .int x2] [.int p0] S =
    some (some (.int p0), S) :=
  (mx_iret t164 d164_58 (ty := .int) rfl rfl (fun h => nomatch h))
theorem e164 {d : Nat} {S : mm_S} {a0 : Nat} {x1 : Int32} : mm_cl d 164 [.ref a0, .int x1] S = mm_ex d 164 0 [.ref a0, .int x1, .null] [] S := mm_cl_eq t164 (Nat.le_of_ble_eq_true rfl) rfl
/-! X12_asPlain -/
theorem d165_0 : decode prog_14_method_40_code 0 = .ok (.aload_n 0, 1) := by decide +kernel
theorem d165_1 : decode prog_14_method_40_code 1 = .ok (.iload_n 1, 1) := by decide +kernel
theorem d165_2 : decode prog_14_method_40_code 2 = .ok (.invokevirtual 263, 3) := by decide +kernel
theorem d165_5 : decode prog_14_method_40_code 5 = .ok (.aload_n 0, 1) := by decide +kernel
theorem d165_6 : decode prog_14_method_40_code 6 = .ok (.getfield 15, 3) := by decide +kernel
theorem d165_9 : decode prog_14_method_40_code 9 = .ok (.iload_n 1, 1) := by decide +kernel
theorem d165_10 : decode prog_14_method_40_code 10 = .ok (.iaload, 1) := by decide +kernel
theorem d165_11 : decode prog_14_method_40_code 11 = .ok (.if_icmp .lt 7, 3) := by decide +kernel
theorem d165_14 : decode prog_14_method_40_code 14 = .ok (.iconst 1, 1) := by decide +kernel
theorem d165_15 : decode prog_14_method_40_code 15 = .ok (.goto 4, 3) := by decide +kernel
theorem d165_18 : decode prog_14_method_40_code 18 = .ok (.iconst 2, 1) := by decide +kernel
theorem d165_19 : decode prog_14_method_40_code 19 = .ok (.ireturn, 1) := by decide +kernel
theorem b165_0 {d : Nat} {S : mm_S} {a0 : Nat} {x1 : Int32} (h0 : mm_rk S a0 = 12) : mm_ex (d + 1) 165 0 [.ref a0, .int x1] [] S =
    mm_bd (mm_cl d 161 [.ref a0, .int x1] S) (fun v S2 => mm_ex (d + 1) 165 5 [.ref a0, .int x1] (v.toList ++ []) S2) :=
  Eq.trans (mx_aload_n t165 d165_0 (x := a0) rfl) <|
  Eq.trans (mx_iload_n t165 d165_1 (x := x1) rfl) <|
  (mx_virt (st := []) (k := 12) t165 [.int x1] d165_2 vt12_263 rfl rfl (Nat.le_of_ble_eq_true rfl) (Nat.le_of_ble_eq_true rfl) h0)
theorem b165_5 {d : Nat} {S : mm_S} {a0 : Nat} {x1 : Int32} {p0 : Int32} (h0 : mm_obj S a0 12 = true) (h1 : (mm_R S a0 2).isSome = true) (h2 : mm_inb x1 (mm_N S (mm_rg S a0 2)) = true) (h3 : mm_arr S (mm_rg S a0 2) 13 = true) : mm_ex d 165 5 [.ref a0, .int x1] [.int p0] S =
    if p0 < (mm_M S (mm_rg S a0 2) (x1).toNatClampNeg) then mm_ex d 165 18 [.ref a0, .int x1] [] S else mm_ex d 165 14 [.ref a0, .int x1] [] S :=
  Eq.trans (mx_aload_n t165 d165_5 (x := a0) rfl) <|
  Eq.trans (mx_getR t165 d165_6 rfl fl12_15 h0 h1) <|
  Eq.trans (mx_iload_n t165 d165_9 (x := x1) rfl) <|
  Eq.trans (mx_iald t165 d165_10 h3 h2) <|
  (mx_clt t165 d165_11 (tgt := 18) (by decide))
theorem b165_14 {d : Nat} {S : mm_S} {a0 : Nat} {x1 : Int32} : mm_ex d 165 14 [.ref a0, .int x1] [] S =
    some (some (.int (nI 1)), S) :=
  Eq.trans (mx_iconst t165 d165_14 (v := nI 1) rfl) <|
  Eq.trans (mx_goto t165 d165_15 (tgt := 19) (by decide)) <|
  (mx_iret t165 d165_19 (ty := .int) rfl rfl (fun h => nomatch h))
theorem b165_18 {d : Nat} {S : mm_S} {a0 : Nat} {x1 : Int32} : mm_ex d 165 18 [.ref a0, .int x1] [] S =
    some (some (.int (nI 2)), S) :=
  Eq.trans (mx_iconst t165 d165_18 (v := nI 2) rfl) <|
  (mx_iret t165 d165_19 (ty := .int) rfl rfl (fun h => nomatch h))
theorem e165 {d : Nat} {S : mm_S} {a0 : Nat} {x1 : Int32} : mm_cl d 165 [.ref a0, .int x1] S = mm_ex d 165 0 [.ref a0, .int x1] [] S := mm_cl_eq t165 (Nat.le_of_ble_eq_true rfl) rfl
/-! X12_wouldBe -/
theorem dd166_0 : (decode prog_14_method_41_code 0 = .ok (.aload_n 0, 1)) ∧ (decode prog_14_method_41_code 1 = .ok (.getfield 166, 3)) ∧ (decode prog_14_method_41_code 4 = .ok (.aload_n 0, 1)) ∧ (decode prog_14_method_41_code 5 = .ok (.iload_n 1, 1)) ∧ (decode prog_14_method_41_code 6 = .ok (.invokevirtual 173, 3)) ∧ (decode prog_14_method_41_code 9 = .ok (.bipush (-5), 2)) ∧ (decode prog_14_method_41_code 11 = .ok (.if_icmp .ne 7, 3)) ∧ (decode prog_14_method_41_code 14 = .ok (.iconst 0, 1)) ∧ (decode prog_14_method_41_code 15 = .ok (.goto 4, 3)) ∧ (decode prog_14_method_41_code 18 = .ok (.iconst 1, 1)) ∧ (decode prog_14_method_41_code 19 = .ok (.isub, 1)) ∧ (decode prog_14_method_41_code 20 = .ok (.istore_n 2, 1)) ∧ (decode prog_14_method_41_code 21 = .ok (.aload_n 0, 1)) ∧ (decode prog_14_method_41_code 22 = .ok (.getfield 30, 3)) ∧ (decode prog_14_method_41_code 25 = .ok (.iconst 3, 1)) ∧ (decode prog_14_method_41_code 26 = .ok (.iload_n 1, 1)) := by decide +kernel
theorem d166_0 : decode prog_14_method_41_code 0 = .ok (.aload_n 0, 1) := dd166_0.1
theorem d166_1 : decode prog_14_method_41_code 1 = .ok (.getfield 166, 3) := dd166_0.2.1
theorem d166_4 : decode prog_14_method_41_code 4 = .ok (.aload_n 0, 1) := dd166_0.2.2.1
theorem d166_5 : decode prog_14_method_41_code 5 = .ok (.iload_n 1, 1) := dd166_0.2.2.2.1
theorem d166_6 : decode prog_14_method_41_code 6 = .ok (.invokevirtual 173, 3) := dd166_0.2.2.2.2.1
theorem d166_9 : decode prog_14_method_41_code 9 = .ok (.bipush (-5), 2) := dd166_0.2.2.2.2.2.1
theorem d166_11 : decode prog_14_method_41_code 11 = .ok (.if_icmp .ne 7, 3) := dd166_0.2.2.2.2.2.2.1
theorem d166_14 : decode prog_14_method_41_code 14 = .ok (.iconst 0, 1) := dd166_0.2.2.2.2.2.2.2.1
theorem d166_15 : decode prog_14_method_41_code 15 = .ok (.goto 4, 3) := dd166_0.2.2.2.2.2.2.2.2.1
theorem d166_18 : decode prog_14_method_41_code 18 = .ok (.iconst 1, 1) := dd166_0.2.2.2.2.2.2.2.2.2.1
theorem d166_19 : decode prog_14_method_41_code 19 = .ok (.isub, 1) := dd166_0.2.2.2.2.2.2.2.2.2.2.1
theorem d166_20 : decode prog_14_method_41_code 20 = .ok (.istore_n 2, 1) := dd166_0.2.2.2.2.2.2.2.2.2.2.2.1
theorem d166_21 : decode prog_14_method_41_code 21 = .ok (.aload_n 0, 1) := dd166_0.2.2.2.2.2.2.2.2.2.2.2.2.1
theorem d166_22 : decode prog_14_method_41_code 22 = .ok (.getfield 30, 3) := dd166_0.2.2.2.2.2.2.2.2.2.2.2.2.2.1
theorem d166_25 : decode prog_14_method_41_code 25 = .ok (.iconst 3, 1) := dd166_0.2.2.2.2.2.2.2.2.2.2.2.2.2.2.1
theorem d166_26 : decode prog_14_method_41_code 26 = .ok (.iload_n 1, 1) := dd166_0.2.2.2.2.2.2.2.2.2.2.2.2.2.2.2
theorem dd166_27 : (decode prog_14_method_41_code 27 = .ok (.imul, 1)) ∧ (decode prog_14_method_41_code 28 = .ok (.aload_n 0, 1)) ∧ (decode prog_14_method_41_code 29 = .ok (.getfield 36, 3)) ∧ (decode prog_14_method_41_code 32 = .ok (.iconst 3, 1)) ∧ (decode prog_14_method_41_code 33 = .ok (.irem, 1)) ∧ (decode prog_14_method_41_code 34 = .ok (.iadd, 1)) ∧ (decode prog_14_method_41_code 35 = .ok (.iaload, 1)) ∧ (decode prog_14_method_41_code 36 = .ok (.istore_n 3, 1)) ∧ (decode prog_14_method_41_code 37 = .ok (.aload_n 0, 1)) ∧ (decode prog_14_method_41_code 38 = .ok (.getfield 9, 3)) ∧ (decode prog_14_method_41_code 41 = .ok (.iload_n 1, 1)) ∧ (decode prog_14_method_41_code 42 = .ok (.iaload, 1)) ∧ (decode prog_14_method_41_code 43 = .ok (.tableswitch 133 1 6 #[37, 43, 49, 55, 78, 106], 37)) ∧ (decode prog_14_method_41_code 80 = .ok (.aload_n 0, 1)) ∧ (decode prog_14_method_41_code 81 = .ok (.iload_n 1, 1)) ∧ (decode prog_14_method_41_code 82 = .ok (.invokevirtual 272, 3)) := by decide +kernel
theorem d166_27 : decode prog_14_method_41_code 27 = .ok (.imul, 1) := dd166_27.1
theorem d166_28 : decode prog_14_method_41_code 28 = .ok (.aload_n 0, 1) := dd166_27.2.1
theorem d166_29 : decode prog_14_method_41_code 29 = .ok (.getfield 36, 3) := dd166_27.2.2.1
theorem d166_32 : decode prog_14_method_41_code 32 = .ok (.iconst 3, 1) := dd166_27.2.2.2.1
theorem d166_33 : decode prog_14_method_41_code 33 = .ok (.irem, 1) := dd166_27.2.2.2.2.1
theorem d166_34 : decode prog_14_method_41_code 34 = .ok (.iadd, 1) := dd166_27.2.2.2.2.2.1
theorem d166_35 : decode prog_14_method_41_code 35 = .ok (.iaload, 1) := dd166_27.2.2.2.2.2.2.1
theorem d166_36 : decode prog_14_method_41_code 36 = .ok (.istore_n 3, 1) := dd166_27.2.2.2.2.2.2.2.1
theorem d166_37 : decode prog_14_method_41_code 37 = .ok (.aload_n 0, 1) := dd166_27.2.2.2.2.2.2.2.2.1
theorem d166_38 : decode prog_14_method_41_code 38 = .ok (.getfield 9, 3) := dd166_27.2.2.2.2.2.2.2.2.2.1
theorem d166_41 : decode prog_14_method_41_code 41 = .ok (.iload_n 1, 1) := dd166_27.2.2.2.2.2.2.2.2.2.2.1
theorem d166_42 : decode prog_14_method_41_code 42 = .ok (.iaload, 1) := dd166_27.2.2.2.2.2.2.2.2.2.2.2.1
theorem d166_43 : decode prog_14_method_41_code 43 = .ok (.tableswitch 133 1 6 #[37, 43, 49, 55, 78, 106], 37) := dd166_27.2.2.2.2.2.2.2.2.2.2.2.2.1
theorem d166_80 : decode prog_14_method_41_code 80 = .ok (.aload_n 0, 1) := dd166_27.2.2.2.2.2.2.2.2.2.2.2.2.2.1
theorem d166_81 : decode prog_14_method_41_code 81 = .ok (.iload_n 1, 1) := dd166_27.2.2.2.2.2.2.2.2.2.2.2.2.2.2.1
theorem d166_82 : decode prog_14_method_41_code 82 = .ok (.invokevirtual 272, 3) := dd166_27.2.2.2.2.2.2.2.2.2.2.2.2.2.2.2
theorem dd166_85 : (decode prog_14_method_41_code 85 = .ok (.ireturn, 1)) ∧ (decode prog_14_method_41_code 86 = .ok (.aload_n 0, 1)) ∧ (decode prog_14_method_41_code 87 = .ok (.iload_n 1, 1)) ∧ (decode prog_14_method_41_code 88 = .ok (.invokevirtual 275, 3)) ∧ (decode prog_14_method_41_code 91 = .ok (.ireturn, 1)) ∧ (decode prog_14_method_41_code 92 = .ok (.aload_n 0, 1)) ∧ (decode prog_14_method_41_code 93 = .ok (.iload_n 1, 1)) ∧ (decode prog_14_method_41_code 94 = .ok (.invokevirtual 278, 3)) ∧ (decode prog_14_method_41_code 97 = .ok (.ireturn, 1)) ∧ (decode prog_14_method_41_code 98 = .ok (.aload_n 0, 1)) ∧ (decode prog_14_method_41_code 99 = .ok (.getfield 40, 3)) ∧ (decode prog_14_method_41_code 102 = .ok (.aload_n 0, 1)) ∧ (decode prog_14_method_41_code 103 = .ok (.getfield 15, 3)) ∧ (decode prog_14_method_41_code 106 = .ok (.iload_n 1, 1)) ∧ (decode prog_14_method_41_code 107 = .ok (.iaload, 1)) ∧ (decode prog_14_method_41_code 108 = .ok (.if_icmp .gt 7, 3)) := by decide +kernel
theorem d166_85 : decode prog_14_method_41_code 85 = .ok (.ireturn, 1) := dd166_85.1
theorem d166_86 : decode prog_14_method_41_code 86 = .ok (.aload_n 0, 1) := dd166_85.2.1
theorem d166_87 : decode prog_14_method_41_code 87 = .ok (.iload_n 1, 1) := dd166_85.2.2.1
theorem d166_88 : decode prog_14_method_41_code 88 = .ok (.invokevirtual 275, 3) := dd166_85.2.2.2.1
theorem d166_91 : decode prog_14_method_41_code 91 = .ok (.ireturn, 1) := dd166_85.2.2.2.2.1
theorem d166_92 : decode prog_14_method_41_code 92 = .ok (.aload_n 0, 1) := dd166_85.2.2.2.2.2.1
theorem d166_93 : decode prog_14_method_41_code 93 = .ok (.iload_n 1, 1) := dd166_85.2.2.2.2.2.2.1
theorem d166_94 : decode prog_14_method_41_code 94 = .ok (.invokevirtual 278, 3) := dd166_85.2.2.2.2.2.2.2.1
theorem d166_97 : decode prog_14_method_41_code 97 = .ok (.ireturn, 1) := dd166_85.2.2.2.2.2.2.2.2.1
theorem d166_98 : decode prog_14_method_41_code 98 = .ok (.aload_n 0, 1) := dd166_85.2.2.2.2.2.2.2.2.2.1
theorem d166_99 : decode prog_14_method_41_code 99 = .ok (.getfield 40, 3) := dd166_85.2.2.2.2.2.2.2.2.2.2.1
theorem d166_102 : decode prog_14_method_41_code 102 = .ok (.aload_n 0, 1) := dd166_85.2.2.2.2.2.2.2.2.2.2.2.1
theorem d166_103 : decode prog_14_method_41_code 103 = .ok (.getfield 15, 3) := dd166_85.2.2.2.2.2.2.2.2.2.2.2.2.1
theorem d166_106 : decode prog_14_method_41_code 106 = .ok (.iload_n 1, 1) := dd166_85.2.2.2.2.2.2.2.2.2.2.2.2.2.1
theorem d166_107 : decode prog_14_method_41_code 107 = .ok (.iaload, 1) := dd166_85.2.2.2.2.2.2.2.2.2.2.2.2.2.2.1
theorem d166_108 : decode prog_14_method_41_code 108 = .ok (.if_icmp .gt 7, 3) := dd166_85.2.2.2.2.2.2.2.2.2.2.2.2.2.2.2
theorem dd166_111 : (decode prog_14_method_41_code 111 = .ok (.iconst 1, 1)) ∧ (decode prog_14_method_41_code 112 = .ok (.goto 8, 3)) ∧ (decode prog_14_method_41_code 115 = .ok (.aload_n 0, 1)) ∧ (decode prog_14_method_41_code 116 = .ok (.iload_n 1, 1)) ∧ (decode prog_14_method_41_code 117 = .ok (.invokevirtual 272, 3)) ∧ (decode prog_14_method_41_code 120 = .ok (.ireturn, 1)) ∧ (decode prog_14_method_41_code 121 = .ok (.iload_n 2, 1)) ∧ (decode prog_14_method_41_code 122 = .ok (.aload_n 0, 1)) ∧ (decode prog_14_method_41_code 123 = .ok (.getfield 15, 3)) ∧ (decode prog_14_method_41_code 126 = .ok (.iload_n 1, 1)) ∧ (decode prog_14_method_41_code 127 = .ok (.iaload, 1)) ∧ (decode prog_14_method_41_code 128 = .ok (.if_icmp .lt 15, 3)) ∧ (decode prog_14_method_41_code 131 = .ok (.aload_n 0, 1)) ∧ (decode prog_14_method_41_code 132 = .ok (.iload_n 1, 1)) ∧ (decode prog_14_method_41_code 133 = .ok (.invokevirtual 266, 3)) ∧ (decode prog_14_method_41_code 136 = .ok (.ifCond .eq 7, 3)) := by decide +kernel
theorem d166_111 : decode prog_14_method_41_code 111 = .ok (.iconst 1, 1) := dd166_111.1
theorem d166_112 : decode prog_14_method_41_code 112 = .ok (.goto 8, 3) := dd166_111.2.1
theorem d166_115 : decode prog_14_method_41_code 115 = .ok (.aload_n 0, 1) := dd166_111.2.2.1
theorem d166_116 : decode prog_14_method_41_code 116 = .ok (.iload_n 1, 1) := dd166_111.2.2.2.1
theorem d166_117 : decode prog_14_method_41_code 117 = .ok (.invokevirtual 272, 3) := dd166_111.2.2.2.2.1
theorem d166_120 : decode prog_14_method_41_code 120 = .ok (.ireturn, 1) := dd166_111.2.2.2.2.2.1
theorem d166_121 : decode prog_14_method_41_code 121 = .ok (.iload_n 2, 1) := dd166_111.2.2.2.2.2.2.1
theorem d166_122 : decode prog_14_method_41_code 122 = .ok (.aload_n 0, 1) := dd166_111.2.2.2.2.2.2.2.1
theorem d166_123 : decode prog_14_method_41_code 123 = .ok (.getfield 15, 3) := dd166_111.2.2.2.2.2.2.2.2.1
theorem d166_126 : decode prog_14_method_41_code 126 = .ok (.iload_n 1, 1) := dd166_111.2.2.2.2.2.2.2.2.2.1
theorem d166_127 : decode prog_14_method_41_code 127 = .ok (.iaload, 1) := dd166_111.2.2.2.2.2.2.2.2.2.2.1
theorem d166_128 : decode prog_14_method_41_code 128 = .ok (.if_icmp .lt 15, 3) := dd166_111.2.2.2.2.2.2.2.2.2.2.2.1
theorem d166_131 : decode prog_14_method_41_code 131 = .ok (.aload_n 0, 1) := dd166_111.2.2.2.2.2.2.2.2.2.2.2.2.1
theorem d166_132 : decode prog_14_method_41_code 132 = .ok (.iload_n 1, 1) := dd166_111.2.2.2.2.2.2.2.2.2.2.2.2.2.1
theorem d166_133 : decode prog_14_method_41_code 133 = .ok (.invokevirtual 266, 3) := dd166_111.2.2.2.2.2.2.2.2.2.2.2.2.2.2.1
theorem d166_136 : decode prog_14_method_41_code 136 = .ok (.ifCond .eq 7, 3) := dd166_111.2.2.2.2.2.2.2.2.2.2.2.2.2.2.2
theorem dd166_139 : (decode prog_14_method_41_code 139 = .ok (.iconst 3, 1)) ∧ (decode prog_14_method_41_code 140 = .ok (.goto 8, 3)) ∧ (decode prog_14_method_41_code 143 = .ok (.aload_n 0, 1)) ∧ (decode prog_14_method_41_code 144 = .ok (.iload_n 1, 1)) ∧ (decode prog_14_method_41_code 145 = .ok (.invokevirtual 275, 3)) ∧ (decode prog_14_method_41_code 148 = .ok (.ireturn, 1)) ∧ (decode prog_14_method_41_code 149 = .ok (.iload_n 3, 1)) ∧ (decode prog_14_method_41_code 150 = .ok (.ifCond .eq 16, 3)) ∧ (decode prog_14_method_41_code 153 = .ok (.iload_n 3, 1)) ∧ (decode prog_14_method_41_code 154 = .ok (.iconst 3, 1)) ∧ (decode prog_14_method_41_code 155 = .ok (.if_icmp .ne 19, 3)) ∧ (decode prog_14_method_41_code 158 = .ok (.aload_n 0, 1)) ∧ (decode prog_14_method_41_code 159 = .ok (.iload_n 1, 1)) ∧ (decode prog_14_method_41_code 160 = .ok (.invokevirtual 266, 3)) ∧ (decode prog_14_method_41_code 163 = .ok (.ifCond .ne 11, 3)) ∧ (decode prog_14_method_41_code 166 = .ok (.aload_n 0, 1)) := by decide +kernel
theorem d166_139 : decode prog_14_method_41_code 139 = .ok (.iconst 3, 1) := dd166_139.1
theorem d166_140 : decode prog_14_method_41_code 140 = .ok (.goto 8, 3) := dd166_139.2.1
theorem d166_143 : decode prog_14_method_41_code 143 = .ok (.aload_n 0, 1) := dd166_139.2.2.1
theorem d166_144 : decode prog_14_method_41_code 144 = .ok (.iload_n 1, 1) := dd166_139.2.2.2.1
theorem d166_145 : decode prog_14_method_41_code 145 = .ok (.invokevirtual 275, 3) := dd166_139.2.2.2.2.1
theorem d166_148 : decode prog_14_method_41_code 148 = .ok (.ireturn, 1) := dd166_139.2.2.2.2.2.1
theorem d166_149 : decode prog_14_method_41_code 149 = .ok (.iload_n 3, 1) := dd166_139.2.2.2.2.2.2.1
theorem d166_150 : decode prog_14_method_41_code 150 = .ok (.ifCond .eq 16, 3) := dd166_139.2.2.2.2.2.2.2.1
theorem d166_153 : decode prog_14_method_41_code 153 = .ok (.iload_n 3, 1) := dd166_139.2.2.2.2.2.2.2.2.1
theorem d166_154 : decode prog_14_method_41_code 154 = .ok (.iconst 3, 1) := dd166_139.2.2.2.2.2.2.2.2.2.1
theorem d166_155 : decode prog_14_method_41_code 155 = .ok (.if_icmp .ne 19, 3) := dd166_139.2.2.2.2.2.2.2.2.2.2.1
theorem d166_158 : decode prog_14_method_41_code 158 = .ok (.aload_n 0, 1) := dd166_139.2.2.2.2.2.2.2.2.2.2.2.1
theorem d166_159 : decode prog_14_method_41_code 159 = .ok (.iload_n 1, 1) := dd166_139.2.2.2.2.2.2.2.2.2.2.2.2.1
theorem d166_160 : decode prog_14_method_41_code 160 = .ok (.invokevirtual 266, 3) := dd166_139.2.2.2.2.2.2.2.2.2.2.2.2.2.1
theorem d166_163 : decode prog_14_method_41_code 163 = .ok (.ifCond .ne 11, 3) := dd166_139.2.2.2.2.2.2.2.2.2.2.2.2.2.2.1
theorem d166_166 : decode prog_14_method_41_code 166 = .ok (.aload_n 0, 1) := dd166_139.2.2.2.2.2.2.2.2.2.2.2.2.2.2.2
theorem dd166_167 : (decode prog_14_method_41_code 167 = .ok (.iload_n 1, 1)) ∧ (decode prog_14_method_41_code 168 = .ok (.invokevirtual 278, 3)) ∧ (decode prog_14_method_41_code 171 = .ok (.goto 4, 3)) ∧ (decode prog_14_method_41_code 174 = .ok (.iload_n 3, 1)) ∧ (decode prog_14_method_41_code 175 = .ok (.ireturn, 1)) ∧ (decode prog_14_method_41_code 176 = .ok (.aload_n 0, 1)) ∧ (decode prog_14_method_41_code 177 = .ok (.iload_n 1, 1)) ∧ (decode prog_14_method_41_code 178 = .ok (.invokevirtual 269, 3)) ∧ (decode prog_14_method_41_code 181 = .ok (.ireturn, 1)) := by decide +kernel
theorem d166_167 : decode prog_14_method_41_code 167 = .ok (.iload_n 1, 1) := dd166_167.1
theorem d166_168 : decode prog_14_method_41_code 168 = .ok (.invokevirtual 278, 3) := dd166_167.2.1
theorem d166_171 : decode prog_14_method_41_code 171 = .ok (.goto 4, 3) := dd166_167.2.2.1
theorem d166_174 : decode prog_14_method_41_code 174 = .ok (.iload_n 3, 1) := dd166_167.2.2.2.1
theorem d166_175 : decode prog_14_method_41_code 175 = .ok (.ireturn, 1) := dd166_167.2.2.2.2.1
theorem d166_176 : decode prog_14_method_41_code 176 = .ok (.aload_n 0, 1) := dd166_167.2.2.2.2.2.1
theorem d166_177 : decode prog_14_method_41_code 177 = .ok (.iload_n 1, 1) := dd166_167.2.2.2.2.2.2.1
theorem d166_178 : decode prog_14_method_41_code 178 = .ok (.invokevirtual 269, 3) := dd166_167.2.2.2.2.2.2.2.1
theorem d166_181 : decode prog_14_method_41_code 181 = .ok (.ireturn, 1) := dd166_167.2.2.2.2.2.2.2.2
theorem b166_0 {d : Nat} {S : mm_S} {a0 : Nat} {x1 : Int32} (h0 : mm_obj S a0 12 = true) (h1 : mm_rk S a0 = 12) : mm_ex (d + 1) 166 0 [.ref a0, .int x1, .null, .null] [] S =
    mm_bd (mm_cl d 130 [.ref a0, .int x1] S) (fun v S2 => mm_ex (d + 1) 166 9 [.ref a0, .int x1, .null, .null] (v.toList ++ [.int (mm_M S a0 8)]) S2) :=
  Eq.trans (mx_aload_n t166 d166_0 (x := a0) rfl) <|
  Eq.trans (mx_geti t166 d166_1 rfl fl12_166 h0) <|
  Eq.trans (mx_aload_n t166 d166_4 (x := a0) rfl) <|
  Eq.trans (mx_iload_n t166 d166_5 (x := x1) rfl) <|
  (mx_virt (st := [.int (mm_M S a0 8)]) (k := 12) t166 [.int x1] d166_6 vt12_173 rfl rfl (Nat.le_of_ble_eq_true rfl) (Nat.le_of_ble_eq_true rfl) h1)
theorem b166_9 {d : Nat} {S : mm_S} {a0 : Nat} {x1 : Int32} {p0 : Int32} {p1 : Int32} : mm_ex d 166 9 [.ref a0, .int x1, .null, .null] [.int p0, .int p1] S =
    if p0 = (-5) then mm_ex d 166 14 [.ref a0, .int x1, .null, .null] [.int p1] S else mm_ex d 166 18 [.ref a0, .int x1, .null, .null] [.int p1] S :=
  Eq.trans (mx_bipush t166 d166_9 (v := -5) rfl) <|
  (mx_cne t166 d166_11 (tgt := 18) (by decide))
theorem b166_14 {d : Nat} {S : mm_S} {a0 : Nat} {x1 : Int32} {p0 : Int32} (h0 : mm_obj S a0 12 = true) (h1 : (mm_R S a0 7).isSome = true) (h2 : mm_inb (((nI 3) * x1) + ((mm_M S a0 10) - (mm_M S a0 10) / (nI 3) * (nI 3))) (mm_N S (mm_rg S a0 7)) = true) (h3 : mm_arr S (mm_rg S a0 7) 13 = true) (h4 : (mm_R S a0 1).isSome = true) (h5 : mm_inb x1 (mm_N S (mm_rg S a0 1)) = true) (h6 : mm_arr S (mm_rg S a0 1) 13 = true) : mm_ex d 166 14 [.ref a0, .int x1, .null, .null] [.int p0] S =
    mm_ex d 166 43 [.ref a0, .int x1, .int (p0 - (nI 0)), .int (mm_M S (mm_rg S a0 7) (((nI 3) * x1) + ((mm_M S a0 10) - (mm_M S a0 10) / (nI 3) * (nI 3))).toNatClampNeg)] [.int (mm_M S (mm_rg S a0 1) (x1).toNatClampNeg)] S :=
  Eq.trans (mx_iconst t166 d166_14 (v := nI 0) rfl) <|
  Eq.trans (mx_goto t166 d166_15 (tgt := 19) (by decide)) <|
  Eq.trans (mx_isub t166 d166_19) <|
  Eq.trans (mx_istore_n t166 d166_20 (ls' := [.ref a0, .int x1, .int (p0 - (nI 0)), .null]) rfl rfl) <|
  Eq.trans (mx_aload_n t166 d166_21 (x := a0) rfl) <|
  Eq.trans (mx_getR t166 d166_22 rfl fl12_30 h0 h1) <|
  Eq.trans (mx_iconst t166 d166_25 (v := nI 3) rfl) <|
  Eq.trans (mx_iload_n t166 d166_26 (x := x1) rfl) <|
  Eq.trans (mx_imul t166 d166_27) <|
  Eq.trans (mx_aload_n t166 d166_28 (x := a0) rfl) <|
  Eq.trans (mx_geti t166 d166_29 rfl fl12_36 h0) <|
  Eq.trans (mx_iconst t166 d166_32 (v := nI 3) rfl) <|
  Eq.trans (mx_irem t166 d166_33 (by decide)) <|
  Eq.trans (mx_iadd t166 d166_34) <|
  Eq.trans (mx_iald t166 d166_35 h3 h2) <|
  Eq.trans (mx_istore_n t166 d166_36 (ls' := [.ref a0, .int x1, .int (p0 - (nI 0)), .int (mm_M S (mm_rg S a0 7) (((nI 3) * x1) + ((mm_M S a0 10) - (mm_M S a0 10) / (nI 3) * (nI 3))).toNatClampNeg)]) rfl rfl) <|
  Eq.trans (mx_aload_n t166 d166_37 (x := a0) rfl) <|
  Eq.trans (mx_getR t166 d166_38 rfl fl12_9 h0 h4) <|
  Eq.trans (mx_iload_n t166 d166_41 (x := x1) rfl) <|
  (mx_iald t166 d166_42 h6 h5)
theorem b166_18 {d : Nat} {S : mm_S} {a0 : Nat} {x1 : Int32} {p0 : Int32} (h0 : mm_obj S a0 12 = true) (h1 : (mm_R S a0 7).isSome = true) (h2 : mm_inb (((nI 3) * x1) + ((mm_M S a0 10) - (mm_M S a0 10) / (nI 3) * (nI 3))) (mm_N S (mm_rg S a0 7)) = true) (h3 : mm_arr S (mm_rg S a0 7) 13 = true) (h4 : (mm_R S a0 1).isSome = true) (h5 : mm_inb x1 (mm_N S (mm_rg S a0 1)) = true) (h6 : mm_arr S (mm_rg S a0 1) 13 = true) : mm_ex d 166 18 [.ref a0, .int x1, .null, .null] [.int p0] S =
    mm_ex d 166 43 [.ref a0, .int x1, .int (p0 - (nI 1)), .int (mm_M S (mm_rg S a0 7) (((nI 3) * x1) + ((mm_M S a0 10) - (mm_M S a0 10) / (nI 3) * (nI 3))).toNatClampNeg)] [.int (mm_M S (mm_rg S a0 1) (x1).toNatClampNeg)] S :=
  Eq.trans (mx_iconst t166 d166_18 (v := nI 1) rfl) <|
  Eq.trans (mx_isub t166 d166_19) <|
  Eq.trans (mx_istore_n t166 d166_20 (ls' := [.ref a0, .int x1, .int (p0 - (nI 1)), .null]) rfl rfl) <|
  Eq.trans (mx_aload_n t166 d166_21 (x := a0) rfl) <|
  Eq.trans (mx_getR t166 d166_22 rfl fl12_30 h0 h1) <|
  Eq.trans (mx_iconst t166 d166_25 (v := nI 3) rfl) <|
  Eq.trans (mx_iload_n t166 d166_26 (x := x1) rfl) <|
  Eq.trans (mx_imul t166 d166_27) <|
  Eq.trans (mx_aload_n t166 d166_28 (x := a0) rfl) <|
  Eq.trans (mx_geti t166 d166_29 rfl fl12_36 h0) <|
  Eq.trans (mx_iconst t166 d166_32 (v := nI 3) rfl) <|
  Eq.trans (mx_irem t166 d166_33 (by decide)) <|
  Eq.trans (mx_iadd t166 d166_34) <|
  Eq.trans (mx_iald t166 d166_35 h3 h2) <|
  Eq.trans (mx_istore_n t166 d166_36 (ls' := [.ref a0, .int x1, .int (p0 - (nI 1)), .int (mm_M S (mm_rg S a0 7) (((nI 3) * x1) + ((mm_M S a0 10) - (mm_M S a0 10) / (nI 3) * (nI 3))).toNatClampNeg)]) rfl rfl) <|
  Eq.trans (mx_aload_n t166 d166_37 (x := a0) rfl) <|
  Eq.trans (mx_getR t166 d166_38 rfl fl12_9 h0 h4) <|
  Eq.trans (mx_iload_n t166 d166_41 (x := x1) rfl) <|
  (mx_iald t166 d166_42 h6 h5)
theorem b166_43 {d : Nat} {S : mm_S} {a0 : Nat} {x1 : Int32} {x2 : Int32} {x3 : Int32} {p0 : Int32} : mm_ex d 166 43 [.ref a0, .int x1, .int x2, .int x3] [.int p0] S =
    if p0 = nI 1 then mm_ex d 166 80 [.ref a0, .int x1, .int x2, .int x3] [] S else if p0 = nI 2 then mm_ex d 166 86 [.ref a0, .int x1, .int x2, .int x3] [] S else if p0 = nI 3 then mm_ex d 166 92 [.ref a0, .int x1, .int x2, .int x3] [] S else if p0 = nI 4 then mm_ex d 166 98 [.ref a0, .int x1, .int x2, .int x3] [] S else if p0 = nI 5 then mm_ex d 166 121 [.ref a0, .int x1, .int x2, .int x3] [] S else if p0 = nI 6 then mm_ex d 166 149 [.ref a0, .int x1, .int x2, .int x3] [] S else mm_ex d 166 176 [.ref a0, .int x1, .int x2, .int x3] [] S := by
  by_cases e0 : p0 = nI 1
  · subst e0
    rw [if_pos rfl]
    exact mx_tswI t166 d166_43 (by decide) (off := 37) (by decide) (by decide)
  by_cases e1 : p0 = nI 2
  · subst e1
    rw [if_neg (by decide), if_pos rfl]
    exact mx_tswI t166 d166_43 (by decide) (off := 43) (by decide) (by decide)
  by_cases e2 : p0 = nI 3
  · subst e2
    rw [if_neg (by decide), if_neg (by decide), if_pos rfl]
    exact mx_tswI t166 d166_43 (by decide) (off := 49) (by decide) (by decide)
  by_cases e3 : p0 = nI 4
  · subst e3
    rw [if_neg (by decide), if_neg (by decide), if_neg (by decide), if_pos rfl]
    exact mx_tswI t166 d166_43 (by decide) (off := 55) (by decide) (by decide)
  by_cases e4 : p0 = nI 5
  · subst e4
    rw [if_neg (by decide), if_neg (by decide), if_neg (by decide), if_neg (by decide), if_pos rfl]
    exact mx_tswI t166 d166_43 (by decide) (off := 78) (by decide) (by decide)
  by_cases e5 : p0 = nI 6
  · subst e5
    rw [if_neg (by decide), if_neg (by decide), if_neg (by decide), if_neg (by decide), if_neg (by decide), if_pos rfl]
    exact mx_tswI t166 d166_43 (by decide) (off := 106) (by decide) (by decide)
  rw [if_neg e0, if_neg e1, if_neg e2, if_neg e3, if_neg e4, if_neg e5]
  have g0 := mm_ni32 e0
  have g1 := mm_ni32 e1
  have g2 := mm_ni32 e2
  have g3 := mm_ni32 e3
  have g4 := mm_ni32 e4
  have g5 := mm_ni32 e5
  rw [show (nI 1 : Int32).toInt = 1 by decide] at g0
  rw [show (nI 2 : Int32).toInt = 2 by decide] at g1
  rw [show (nI 3 : Int32).toInt = 3 by decide] at g2
  rw [show (nI 4 : Int32).toInt = 4 by decide] at g3
  rw [show (nI 5 : Int32).toInt = 5 by decide] at g4
  rw [show (nI 6 : Int32).toInt = 6 by decide] at g5
  exact mx_tswD t166 d166_43 (by omega) (by decide)
theorem b166_80 {d : Nat} {S : mm_S} {a0 : Nat} {x1 : Int32} {x2 : Int32} {x3 : Int32} (h0 : mm_rk S a0 = 12) : mm_ex (d + 1) 166 80 [.ref a0, .int x1, .int x2, .int x3] [] S =
    mm_bd (mm_cl d 165 [.ref a0, .int x1] S) (fun v S2 => mm_ex (d + 1) 166 85 [.ref a0, .int x1, .int x2, .int x3] (v.toList ++ []) S2) :=
  Eq.trans (mx_aload_n t166 d166_80 (x := a0) rfl) <|
  Eq.trans (mx_iload_n t166 d166_81 (x := x1) rfl) <|
  (mx_virt (st := []) (k := 12) t166 [.int x1] d166_82 vt12_272 rfl rfl (Nat.le_of_ble_eq_true rfl) (Nat.le_of_ble_eq_true rfl) h0)
theorem b166_85 {d : Nat} {S : mm_S} {a0 : Nat} {x1 : Int32} {x2 : Int32} {x3 : Int32} {p0 : Int32} : mm_ex d 166 85 [.ref a0, .int x1, .int x2, .int x3] [.int p0] S =
    some (some (.int p0), S) :=
  (mx_iret t166 d166_85 (ty := .int) rfl rfl (fun h => nomatch h))
theorem b166_86 {d : Nat} {S : mm_S} {a0 : Nat} {x1 : Int32} {x2 : Int32} {x3 : Int32} (h0 : mm_rk S a0 = 12) : mm_ex (d + 1) 166 86 [.ref a0, .int x1, .int x2, .int x3] [] S =
    mm_bd (mm_cl d 163 [.ref a0, .int x1] S) (fun v S2 => mm_ex (d + 1) 166 91 [.ref a0, .int x1, .int x2, .int x3] (v.toList ++ []) S2) :=
  Eq.trans (mx_aload_n t166 d166_86 (x := a0) rfl) <|
  Eq.trans (mx_iload_n t166 d166_87 (x := x1) rfl) <|
  (mx_virt (st := []) (k := 12) t166 [.int x1] d166_88 vt12_275 rfl rfl (Nat.le_of_ble_eq_true rfl) (Nat.le_of_ble_eq_true rfl) h0)
theorem b166_91 {d : Nat} {S : mm_S} {a0 : Nat} {x1 : Int32} {x2 : Int32} {x3 : Int32} {p0 : Int32} : mm_ex d 166 91 [.ref a0, .int x1, .int x2, .int x3] [.int p0] S =
    some (some (.int p0), S) :=
  (mx_iret t166 d166_91 (ty := .int) rfl rfl (fun h => nomatch h))
theorem b166_92 {d : Nat} {S : mm_S} {a0 : Nat} {x1 : Int32} {x2 : Int32} {x3 : Int32} (h0 : mm_rk S a0 = 12) : mm_ex (d + 1) 166 92 [.ref a0, .int x1, .int x2, .int x3] [] S =
    mm_bd (mm_cl d 164 [.ref a0, .int x1] S) (fun v S2 => mm_ex (d + 1) 166 97 [.ref a0, .int x1, .int x2, .int x3] (v.toList ++ []) S2) :=
  Eq.trans (mx_aload_n t166 d166_92 (x := a0) rfl) <|
  Eq.trans (mx_iload_n t166 d166_93 (x := x1) rfl) <|
  (mx_virt (st := []) (k := 12) t166 [.int x1] d166_94 vt12_278 rfl rfl (Nat.le_of_ble_eq_true rfl) (Nat.le_of_ble_eq_true rfl) h0)
theorem b166_97 {d : Nat} {S : mm_S} {a0 : Nat} {x1 : Int32} {x2 : Int32} {x3 : Int32} {p0 : Int32} : mm_ex d 166 97 [.ref a0, .int x1, .int x2, .int x3] [.int p0] S =
    some (some (.int p0), S) :=
  (mx_iret t166 d166_97 (ty := .int) rfl rfl (fun h => nomatch h))
theorem b166_98 {d : Nat} {S : mm_S} {a0 : Nat} {x1 : Int32} {x2 : Int32} {x3 : Int32} (h0 : mm_obj S a0 12 = true) (h1 : (mm_R S a0 2).isSome = true) (h2 : mm_inb x1 (mm_N S (mm_rg S a0 2)) = true) (h3 : mm_arr S (mm_rg S a0 2) 13 = true) : mm_ex d 166 98 [.ref a0, .int x1, .int x2, .int x3] [] S =
    if (mm_M S (mm_rg S a0 2) (x1).toNatClampNeg) < (mm_M S a0 11) then mm_ex d 166 115 [.ref a0, .int x1, .int x2, .int x3] [] S else mm_ex d 166 111 [.ref a0, .int x1, .int x2, .int x3] [] S :=
  Eq.trans (mx_aload_n t166 d166_98 (x := a0) rfl) <|
  Eq.trans (mx_geti t166 d166_99 rfl fl12_40 h0) <|
  Eq.trans (mx_aload_n t166 d166_102 (x := a0) rfl) <|
  Eq.trans (mx_getR t166 d166_103 rfl fl12_15 h0 h1) <|
  Eq.trans (mx_iload_n t166 d166_106 (x := x1) rfl) <|
  Eq.trans (mx_iald t166 d166_107 h3 h2) <|
  (mx_cgt t166 d166_108 (tgt := 115) (by decide))
theorem b166_111 {d : Nat} {S : mm_S} {a0 : Nat} {x1 : Int32} {x2 : Int32} {x3 : Int32} : mm_ex d 166 111 [.ref a0, .int x1, .int x2, .int x3] [] S =
    some (some (.int (nI 1)), S) :=
  Eq.trans (mx_iconst t166 d166_111 (v := nI 1) rfl) <|
  Eq.trans (mx_goto t166 d166_112 (tgt := 120) (by decide)) <|
  (mx_iret t166 d166_120 (ty := .int) rfl rfl (fun h => nomatch h))
theorem b166_115 {d : Nat} {S : mm_S} {a0 : Nat} {x1 : Int32} {x2 : Int32} {x3 : Int32} (h0 : mm_rk S a0 = 12) : mm_ex (d + 1) 166 115 [.ref a0, .int x1, .int x2, .int x3] [] S =
    mm_bd (mm_cl d 165 [.ref a0, .int x1] S) (fun v S2 => mm_ex (d + 1) 166 120 [.ref a0, .int x1, .int x2, .int x3] (v.toList ++ []) S2) :=
  Eq.trans (mx_aload_n t166 d166_115 (x := a0) rfl) <|
  Eq.trans (mx_iload_n t166 d166_116 (x := x1) rfl) <|
  (mx_virt (st := []) (k := 12) t166 [.int x1] d166_117 vt12_272 rfl rfl (Nat.le_of_ble_eq_true rfl) (Nat.le_of_ble_eq_true rfl) h0)
theorem b166_120 {d : Nat} {S : mm_S} {a0 : Nat} {x1 : Int32} {x2 : Int32} {x3 : Int32} {p0 : Int32} : mm_ex d 166 120 [.ref a0, .int x1, .int x2, .int x3] [.int p0] S =
    some (some (.int p0), S) :=
  (mx_iret t166 d166_120 (ty := .int) rfl rfl (fun h => nomatch h))
theorem b166_121 {d : Nat} {S : mm_S} {a0 : Nat} {x1 : Int32} {x2 : Int32} {x3 : Int32} (h0 : mm_obj S a0 12 = true) (h1 : (mm_R S a0 2).isSome = true) (h2 : mm_inb x1 (mm_N S (mm_rg S a0 2)) = true) (h3 : mm_arr S (mm_rg S a0 2) 13 = true) : mm_ex d 166 121 [.ref a0, .int x1, .int x2, .int x3] [] S =
    if x2 < (mm_M S (mm_rg S a0 2) (x1).toNatClampNeg) then mm_ex d 166 143 [.ref a0, .int x1, .int x2, .int x3] [] S else mm_ex d 166 131 [.ref a0, .int x1, .int x2, .int x3] [] S :=
  Eq.trans (mx_iload_n t166 d166_121 (x := x2) rfl) <|
  Eq.trans (mx_aload_n t166 d166_122 (x := a0) rfl) <|
  Eq.trans (mx_getR t166 d166_123 rfl fl12_15 h0 h1) <|
  Eq.trans (mx_iload_n t166 d166_126 (x := x1) rfl) <|
  Eq.trans (mx_iald t166 d166_127 h3 h2) <|
  (mx_clt t166 d166_128 (tgt := 143) (by decide))
theorem b166_131 {d : Nat} {S : mm_S} {a0 : Nat} {x1 : Int32} {x2 : Int32} {x3 : Int32} (h0 : mm_rk S a0 = 12) : mm_ex (d + 1) 166 131 [.ref a0, .int x1, .int x2, .int x3] [] S =
    mm_bd (mm_cl d 160 [.ref a0, .int x1] S) (fun v S2 => mm_ex (d + 1) 166 136 [.ref a0, .int x1, .int x2, .int x3] (v.toList ++ []) S2) :=
  Eq.trans (mx_aload_n t166 d166_131 (x := a0) rfl) <|
  Eq.trans (mx_iload_n t166 d166_132 (x := x1) rfl) <|
  (mx_virt (st := []) (k := 12) t166 [.int x1] d166_133 vt12_266 rfl rfl (Nat.le_of_ble_eq_true rfl) (Nat.le_of_ble_eq_true rfl) h0)
theorem b166_136 {d : Nat} {S : mm_S} {a0 : Nat} {x1 : Int32} {x2 : Int32} {x3 : Int32} {p0 : Int32} : mm_ex d 166 136 [.ref a0, .int x1, .int x2, .int x3] [.int p0] S =
    if p0 = nI 0 then mm_ex d 166 143 [.ref a0, .int x1, .int x2, .int x3] [] S else mm_ex d 166 139 [.ref a0, .int x1, .int x2, .int x3] [] S :=
  (mx_ieq t166 d166_136 (tgt := 143) (by decide))
theorem b166_139 {d : Nat} {S : mm_S} {a0 : Nat} {x1 : Int32} {x2 : Int32} {x3 : Int32} : mm_ex d 166 139 [.ref a0, .int x1, .int x2, .int x3] [] S =
    some (some (.int (nI 3)), S) :=
  Eq.trans (mx_iconst t166 d166_139 (v := nI 3) rfl) <|
  Eq.trans (mx_goto t166 d166_140 (tgt := 148) (by decide)) <|
  (mx_iret t166 d166_148 (ty := .int) rfl rfl (fun h => nomatch h))
theorem b166_143 {d : Nat} {S : mm_S} {a0 : Nat} {x1 : Int32} {x2 : Int32} {x3 : Int32} (h0 : mm_rk S a0 = 12) : mm_ex (d + 1) 166 143 [.ref a0, .int x1, .int x2, .int x3] [] S =
    mm_bd (mm_cl d 163 [.ref a0, .int x1] S) (fun v S2 => mm_ex (d + 1) 166 148 [.ref a0, .int x1, .int x2, .int x3] (v.toList ++ []) S2) :=
  Eq.trans (mx_aload_n t166 d166_143 (x := a0) rfl) <|
  Eq.trans (mx_iload_n t166 d166_144 (x := x1) rfl) <|
  (mx_virt (st := []) (k := 12) t166 [.int x1] d166_145 vt12_275 rfl rfl (Nat.le_of_ble_eq_true rfl) (Nat.le_of_ble_eq_true rfl) h0)
theorem b166_148 {d : Nat} {S : mm_S} {a0 : Nat} {x1 : Int32} {x2 : Int32} {x3 : Int32} {p0 : Int32} : mm_ex d 166 148 [.ref a0, .int x1, .int x2, .int x3] [.int p0] S =
    some (some (.int p0), S) :=
  (mx_iret t166 d166_148 (ty := .int) rfl rfl (fun h => nomatch h))
theorem b166_149 {d : Nat} {S : mm_S} {a0 : Nat} {x1 : Int32} {x2 : Int32} {x3 : Int32} : mm_ex d 166 149 [.ref a0, .int x1, .int x2, .int x3] [] S =
    if x3 = nI 0 then mm_ex d 166 166 [.ref a0, .int x1, .int x2, .int x3] [] S else mm_ex d 166 153 [.ref a0, .int x1, .int x2, .int x3] [] S :=
  Eq.trans (mx_iload_n t166 d166_149 (x := x3) rfl) <|
  (mx_ieq t166 d166_150 (tgt := 166) (by decide))
theorem b166_153 {d : Nat} {S : mm_S} {a0 : Nat} {x1 : Int32} {x2 : Int32} {x3 : Int32} : mm_ex d 166 153 [.ref a0, .int x1, .int x2, .int x3] [] S =
    if x3 = (nI 3) then mm_ex d 166 158 [.ref a0, .int x1, .int x2, .int x3] [] S else mm_ex d 166 174 [.ref a0, .int x1, .int x2, .int x3] [] S :=
  Eq.trans (mx_iload_n t166 d166_153 (x := x3) rfl) <|
  Eq.trans (mx_iconst t166 d166_154 (v := nI 3) rfl) <|
  (mx_cne t166 d166_155 (tgt := 174) (by decide))
theorem b166_158 {d : Nat} {S : mm_S} {a0 : Nat} {x1 : Int32} {x2 : Int32} {x3 : Int32} (h0 : mm_rk S a0 = 12) : mm_ex (d + 1) 166 158 [.ref a0, .int x1, .int x2, .int x3] [] S =
    mm_bd (mm_cl d 160 [.ref a0, .int x1] S) (fun v S2 => mm_ex (d + 1) 166 163 [.ref a0, .int x1, .int x2, .int x3] (v.toList ++ []) S2) :=
  Eq.trans (mx_aload_n t166 d166_158 (x := a0) rfl) <|
  Eq.trans (mx_iload_n t166 d166_159 (x := x1) rfl) <|
  (mx_virt (st := []) (k := 12) t166 [.int x1] d166_160 vt12_266 rfl rfl (Nat.le_of_ble_eq_true rfl) (Nat.le_of_ble_eq_true rfl) h0)
theorem b166_163 {d : Nat} {S : mm_S} {a0 : Nat} {x1 : Int32} {x2 : Int32} {x3 : Int32} {p0 : Int32} : mm_ex d 166 163 [.ref a0, .int x1, .int x2, .int x3] [.int p0] S =
    if p0 = nI 0 then mm_ex d 166 166 [.ref a0, .int x1, .int x2, .int x3] [] S else mm_ex d 166 174 [.ref a0, .int x1, .int x2, .int x3] [] S :=
  (mx_ine t166 d166_163 (tgt := 174) (by decide))
theorem b166_166 {d : Nat} {S : mm_S} {a0 : Nat} {x1 : Int32} {x2 : Int32} {x3 : Int32} (h0 : mm_rk S a0 = 12) : mm_ex (d + 1) 166 166 [.ref a0, .int x1, .int x2, .int x3] [] S =
    mm_bd (mm_cl d 164 [.ref a0, .int x1] S) (fun v S2 => mm_ex (d + 1) 166 171 [.ref a0, .int x1, .int x2, .int x3] (v.toList ++ []) S2) :=
  Eq.trans (mx_aload_n t166 d166_166 (x := a0) rfl) <|
  Eq.trans (mx_iload_n t166 d166_167 (x := x1) rfl) <|
  (mx_virt (st := []) (k := 12) t166 [.int x1] d166_168 vt12_278 rfl rfl (Nat.le_of_ble_eq_true rfl) (Nat.le_of_ble_eq_true rfl) h0)
theorem b166_171 {d : Nat} {S : mm_S} {a0 : Nat} {x1 : Int32} {x2 : Int32} {x3 : Int32} {p0 : Int32} : mm_ex d 166 171 [.ref a0, .int x1, .int x2, .int x3] [.int p0] S =
    some (some (.int p0), S) :=
  Eq.trans (mx_goto t166 d166_171 (tgt := 175) (by decide)) <|
  (mx_iret t166 d166_175 (ty := .int) rfl rfl (fun h => nomatch h))
theorem b166_174 {d : Nat} {S : mm_S} {a0 : Nat} {x1 : Int32} {x2 : Int32} {x3 : Int32} : mm_ex d 166 174 [.ref a0, .int x1, .int x2, .int x3] [] S =
    some (some (.int x3), S) :=
  Eq.trans (mx_iload_n t166 d166_174 (x := x3) rfl) <|
  (mx_iret t166 d166_175 (ty := .int) rfl rfl (fun h => nomatch h))
theorem b166_176 {d : Nat} {S : mm_S} {a0 : Nat} {x1 : Int32} {x2 : Int32} {x3 : Int32} (h0 : mm_rk S a0 = 12) : mm_ex (d + 1) 166 176 [.ref a0, .int x1, .int x2, .int x3] [] S =
    mm_bd (mm_cl d 162 [.ref a0, .int x1] S) (fun v S2 => mm_ex (d + 1) 166 181 [.ref a0, .int x1, .int x2, .int x3] (v.toList ++ []) S2) :=
  Eq.trans (mx_aload_n t166 d166_176 (x := a0) rfl) <|
  Eq.trans (mx_iload_n t166 d166_177 (x := x1) rfl) <|
  (mx_virt (st := []) (k := 12) t166 [.int x1] d166_178 vt12_269 rfl rfl (Nat.le_of_ble_eq_true rfl) (Nat.le_of_ble_eq_true rfl) h0)
theorem b166_181 {d : Nat} {S : mm_S} {a0 : Nat} {x1 : Int32} {x2 : Int32} {x3 : Int32} {p0 : Int32} : mm_ex d 166 181 [.ref a0, .int x1, .int x2, .int x3] [.int p0] S =
    some (some (.int p0), S) :=
  (mx_iret t166 d166_181 (ty := .int) rfl rfl (fun h => nomatch h))
theorem e166 {d : Nat} {S : mm_S} {a0 : Nat} {x1 : Int32} : mm_cl d 166 [.ref a0, .int x1] S = mm_ex d 166 0 [.ref a0, .int x1, .null, .null] [] S := mm_cl_eq t166 (Nat.le_of_ble_eq_true rfl) rfl
/-! X12_would -/
theorem d167_0 : decode prog_14_method_42_code 0 = .ok (.aload_n 0, 1) := by decide +kernel
theorem d167_1 : decode prog_14_method_42_code 1 = .ok (.iload_n 1, 1) := by decide +kernel
theorem d167_2 : decode prog_14_method_42_code 2 = .ok (.invokevirtual 169, 3) := by decide +kernel
theorem d167_5 : decode prog_14_method_42_code 5 = .ok (.ifCond .eq 11, 3) := by decide +kernel
theorem d167_8 : decode prog_14_method_42_code 8 = .ok (.aload_n 0, 1) := by decide +kernel
theorem d167_9 : decode prog_14_method_42_code 9 = .ok (.iload_n 1, 1) := by decide +kernel
theorem d167_10 : decode prog_14_method_42_code 10 = .ok (.invokevirtual 281, 3) := by decide +kernel
theorem d167_13 : decode prog_14_method_42_code 13 = .ok (.goto 4, 3) := by decide +kernel
theorem d167_16 : decode prog_14_method_42_code 16 = .ok (.iconst (-1), 1) := by decide +kernel
theorem d167_17 : decode prog_14_method_42_code 17 = .ok (.ireturn, 1) := by decide +kernel
theorem b167_0 {d : Nat} {S : mm_S} {a0 : Nat} {x1 : Int32} (h0 : mm_rk S a0 = 12) : mm_ex (d + 1) 167 0 [.ref a0, .int x1] [] S =
    mm_bd (mm_cl d 129 [.ref a0, .int x1] S) (fun v S2 => mm_ex (d + 1) 167 5 [.ref a0, .int x1] (v.toList ++ []) S2) :=
  Eq.trans (mx_aload_n t167 d167_0 (x := a0) rfl) <|
  Eq.trans (mx_iload_n t167 d167_1 (x := x1) rfl) <|
  (mx_virt (st := []) (k := 12) t167 [.int x1] d167_2 vt12_169 rfl rfl (Nat.le_of_ble_eq_true rfl) (Nat.le_of_ble_eq_true rfl) h0)
theorem b167_5 {d : Nat} {S : mm_S} {a0 : Nat} {x1 : Int32} {p0 : Int32} : mm_ex d 167 5 [.ref a0, .int x1] [.int p0] S =
    if p0 = nI 0 then mm_ex d 167 16 [.ref a0, .int x1] [] S else mm_ex d 167 8 [.ref a0, .int x1] [] S :=
  (mx_ieq t167 d167_5 (tgt := 16) (by decide))
theorem b167_8 {d : Nat} {S : mm_S} {a0 : Nat} {x1 : Int32} (h0 : mm_rk S a0 = 12) : mm_ex (d + 1) 167 8 [.ref a0, .int x1] [] S =
    mm_bd (mm_cl d 166 [.ref a0, .int x1] S) (fun v S2 => mm_ex (d + 1) 167 13 [.ref a0, .int x1] (v.toList ++ []) S2) :=
  Eq.trans (mx_aload_n t167 d167_8 (x := a0) rfl) <|
  Eq.trans (mx_iload_n t167 d167_9 (x := x1) rfl) <|
  (mx_virt (st := []) (k := 12) t167 [.int x1] d167_10 vt12_281 rfl rfl (Nat.le_of_ble_eq_true rfl) (Nat.le_of_ble_eq_true rfl) h0)
theorem b167_13 {d : Nat} {S : mm_S} {a0 : Nat} {x1 : Int32} {p0 : Int32} : mm_ex d 167 13 [.ref a0, .int x1] [.int p0] S =
    some (some (.int p0), S) :=
  Eq.trans (mx_goto t167 d167_13 (tgt := 17) (by decide)) <|
  (mx_iret t167 d167_17 (ty := .int) rfl rfl (fun h => nomatch h))
theorem b167_16 {d : Nat} {S : mm_S} {a0 : Nat} {x1 : Int32} : mm_ex d 167 16 [.ref a0, .int x1] [] S =
    some (some (.int (-1)), S) :=
  Eq.trans (mx_iconst t167 d167_16 (v := -1) rfl) <|
  (mx_iret t167 d167_17 (ty := .int) rfl rfl (fun h => nomatch h))
theorem e167 {d : Nat} {S : mm_S} {a0 : Nat} {x1 : Int32} : mm_cl d 167 [.ref a0, .int x1] S = mm_ex d 167 0 [.ref a0, .int x1] [] S := mm_cl_eq t167 (Nat.le_of_ble_eq_true rfl) rfl
/-! X12_comes -/
theorem d168_0 : decode prog_14_method_43_code 0 = .ok (.aload_n 0, 1) := by decide +kernel
theorem d168_1 : decode prog_14_method_43_code 1 = .ok (.getfield 166, 3) := by decide +kernel
theorem d168_4 : decode prog_14_method_43_code 4 = .ok (.ifCond .le 14, 3) := by decide +kernel
theorem d168_7 : decode prog_14_method_43_code 7 = .ok (.aload_n 0, 1) := by decide +kernel
theorem d168_8 : decode prog_14_method_43_code 8 = .ok (.getfield 40, 3) := by decide +kernel
theorem d168_11 : decode prog_14_method_43_code 11 = .ok (.ifCond .le 7, 3) := by decide +kernel
theorem d168_14 : decode prog_14_method_43_code 14 = .ok (.iconst 1, 1) := by decide +kernel
theorem d168_15 : decode prog_14_method_43_code 15 = .ok (.goto 4, 3) := by decide +kernel
theorem d168_18 : decode prog_14_method_43_code 18 = .ok (.iconst 0, 1) := by decide +kernel
theorem d168_19 : decode prog_14_method_43_code 19 = .ok (.ireturn, 1) := by decide +kernel
theorem b168_0 {d : Nat} {S : mm_S} {a0 : Nat} (h0 : mm_obj S a0 12 = true) : mm_ex d 168 0 [.ref a0] [] S =
    if (mm_M S a0 8) ≤ nI 0 then mm_ex d 168 18 [.ref a0] [] S else mm_ex d 168 7 [.ref a0] [] S :=
  Eq.trans (mx_aload_n t168 d168_0 (x := a0) rfl) <|
  Eq.trans (mx_geti t168 d168_1 rfl fl12_166 h0) <|
  (mx_ile t168 d168_4 (tgt := 18) (by decide))
theorem b168_7 {d : Nat} {S : mm_S} {a0 : Nat} (h0 : mm_obj S a0 12 = true) : mm_ex d 168 7 [.ref a0] [] S =
    if (mm_M S a0 11) ≤ nI 0 then mm_ex d 168 18 [.ref a0] [] S else mm_ex d 168 14 [.ref a0] [] S :=
  Eq.trans (mx_aload_n t168 d168_7 (x := a0) rfl) <|
  Eq.trans (mx_geti t168 d168_8 rfl fl12_40 h0) <|
  (mx_ile t168 d168_11 (tgt := 18) (by decide))
theorem b168_14 {d : Nat} {S : mm_S} {a0 : Nat} : mm_ex d 168 14 [.ref a0] [] S =
    some (some (.int (nI 1)), S) :=
  Eq.trans (mx_iconst t168 d168_14 (v := nI 1) rfl) <|
  Eq.trans (mx_goto t168 d168_15 (tgt := 19) (by decide)) <|
  (mx_iret t168 d168_19 (ty := .boolean) rfl rfl (fun h => nomatch h))
theorem b168_18 {d : Nat} {S : mm_S} {a0 : Nat} : mm_ex d 168 18 [.ref a0] [] S =
    some (some (.int (nI 0)), S) :=
  Eq.trans (mx_iconst t168 d168_18 (v := nI 0) rfl) <|
  (mx_iret t168 d168_19 (ty := .boolean) rfl rfl (fun h => nomatch h))
theorem e168 {d : Nat} {S : mm_S} {a0 : Nat} : mm_cl d 168 [.ref a0] S = mm_ex d 168 0 [.ref a0] [] S := mm_cl_eq t168 (Nat.le_of_ble_eq_true rfl) rfl
/-! X12_does -/
theorem dd169_0 : (decode prog_14_method_44_code 0 = .ok (.aload_n 0, 1)) ∧ (decode prog_14_method_44_code 1 = .ok (.getfield 33, 3)) ∧ (decode prog_14_method_44_code 4 = .ok (.iconst 0, 1)) ∧ (decode prog_14_method_44_code 5 = .ok (.iaload, 1)) ∧ (decode prog_14_method_44_code 6 = .ok (.istore_n 2, 1)) ∧ (decode prog_14_method_44_code 7 = .ok (.aload_n 0, 1)) ∧ (decode prog_14_method_44_code 8 = .ok (.iload_n 2, 1)) ∧ (decode prog_14_method_44_code 9 = .ok (.invokevirtual 177, 3)) ∧ (decode prog_14_method_44_code 12 = .ok (.istore_n 3, 1)) ∧ (decode prog_14_method_44_code 13 = .ok (.aload_n 0, 1)) ∧ (decode prog_14_method_44_code 14 = .ok (.iload_n 2, 1)) ∧ (decode prog_14_method_44_code 15 = .ok (.invokevirtual 180, 3)) ∧ (decode prog_14_method_44_code 18 = .ok (.istore 4, 2)) ∧ (decode prog_14_method_44_code 20 = .ok (.aload_n 0, 1)) ∧ (decode prog_14_method_44_code 21 = .ok (.iconst 5, 1)) ∧ (decode prog_14_method_44_code 22 = .ok (.invokevirtual 254, 3)) := by decide +kernel
theorem d169_0 : decode prog_14_method_44_code 0 = .ok (.aload_n 0, 1) := dd169_0.1
theorem d169_1 : decode prog_14_method_44_code 1 = .ok (.getfield 33, 3) := dd169_0.2.1
theorem d169_4 : decode prog_14_method_44_code 4 = .ok (.iconst 0, 1) := dd169_0.2.2.1
theorem d169_5 : decode prog_14_method_44_code 5 = .ok (.iaload, 1) := dd169_0.2.2.2.1
theorem d169_6 : decode prog_14_method_44_code 6 = .ok (.istore_n 2, 1) := dd169_0.2.2.2.2.1
theorem d169_7 : decode prog_14_method_44_code 7 = .ok (.aload_n 0, 1) := dd169_0.2.2.2.2.2.1
theorem d169_8 : decode prog_14_method_44_code 8 = .ok (.iload_n 2, 1) := dd169_0.2.2.2.2.2.2.1
theorem d169_9 : decode prog_14_method_44_code 9 = .ok (.invokevirtual 177, 3) := dd169_0.2.2.2.2.2.2.2.1
theorem d169_12 : decode prog_14_method_44_code 12 = .ok (.istore_n 3, 1) := dd169_0.2.2.2.2.2.2.2.2.1
theorem d169_13 : decode prog_14_method_44_code 13 = .ok (.aload_n 0, 1) := dd169_0.2.2.2.2.2.2.2.2.2.1
theorem d169_14 : decode prog_14_method_44_code 14 = .ok (.iload_n 2, 1) := dd169_0.2.2.2.2.2.2.2.2.2.2.1
theorem d169_15 : decode prog_14_method_44_code 15 = .ok (.invokevirtual 180, 3) := dd169_0.2.2.2.2.2.2.2.2.2.2.2.1
theorem d169_18 : decode prog_14_method_44_code 18 = .ok (.istore 4, 2) := dd169_0.2.2.2.2.2.2.2.2.2.2.2.2.1
theorem d169_20 : decode prog_14_method_44_code 20 = .ok (.aload_n 0, 1) := dd169_0.2.2.2.2.2.2.2.2.2.2.2.2.2.1
theorem d169_21 : decode prog_14_method_44_code 21 = .ok (.iconst 5, 1) := dd169_0.2.2.2.2.2.2.2.2.2.2.2.2.2.2.1
theorem d169_22 : decode prog_14_method_44_code 22 = .ok (.invokevirtual 254, 3) := dd169_0.2.2.2.2.2.2.2.2.2.2.2.2.2.2.2
theorem dd169_25 : (decode prog_14_method_44_code 25 = .ok (.istore 5, 2)) ∧ (decode prog_14_method_44_code 27 = .ok (.aload_n 0, 1)) ∧ (decode prog_14_method_44_code 28 = .ok (.iconst 2, 1)) ∧ (decode prog_14_method_44_code 29 = .ok (.invokevirtual 254, 3)) ∧ (decode prog_14_method_44_code 32 = .ok (.istore 6, 2)) ∧ (decode prog_14_method_44_code 34 = .ok (.aload_n 0, 1)) ∧ (decode prog_14_method_44_code 35 = .ok (.iconst 3, 1)) ∧ (decode prog_14_method_44_code 36 = .ok (.invokevirtual 254, 3)) ∧ (decode prog_14_method_44_code 39 = .ok (.istore 7, 2)) ∧ (decode prog_14_method_44_code 41 = .ok (.iconst 1, 1)) ∧ (decode prog_14_method_44_code 42 = .ok (.istore 8, 2)) ∧ (decode prog_14_method_44_code 44 = .ok (.iload 8, 2)) ∧ (decode prog_14_method_44_code 46 = .ok (.aload_n 0, 1)) ∧ (decode prog_14_method_44_code 47 = .ok (.getfield 166, 3)) ∧ (decode prog_14_method_44_code 50 = .ok (.if_icmp .ge 25, 3)) ∧ (decode prog_14_method_44_code 53 = .ok (.aload_n 0, 1)) := by decide +kernel
theorem d169_25 : decode prog_14_method_44_code 25 = .ok (.istore 5, 2) := dd169_25.1
theorem d169_27 : decode prog_14_method_44_code 27 = .ok (.aload_n 0, 1) := dd169_25.2.1
theorem d169_28 : decode prog_14_method_44_code 28 = .ok (.iconst 2, 1) := dd169_25.2.2.1
theorem d169_29 : decode prog_14_method_44_code 29 = .ok (.invokevirtual 254, 3) := dd169_25.2.2.2.1
theorem d169_32 : decode prog_14_method_44_code 32 = .ok (.istore 6, 2) := dd169_25.2.2.2.2.1
theorem d169_34 : decode prog_14_method_44_code 34 = .ok (.aload_n 0, 1) := dd169_25.2.2.2.2.2.1
theorem d169_35 : decode prog_14_method_44_code 35 = .ok (.iconst 3, 1) := dd169_25.2.2.2.2.2.2.1
theorem d169_36 : decode prog_14_method_44_code 36 = .ok (.invokevirtual 254, 3) := dd169_25.2.2.2.2.2.2.2.1
theorem d169_39 : decode prog_14_method_44_code 39 = .ok (.istore 7, 2) := dd169_25.2.2.2.2.2.2.2.2.1
theorem d169_41 : decode prog_14_method_44_code 41 = .ok (.iconst 1, 1) := dd169_25.2.2.2.2.2.2.2.2.2.1
theorem d169_42 : decode prog_14_method_44_code 42 = .ok (.istore 8, 2) := dd169_25.2.2.2.2.2.2.2.2.2.2.1
theorem d169_44 : decode prog_14_method_44_code 44 = .ok (.iload 8, 2) := dd169_25.2.2.2.2.2.2.2.2.2.2.2.1
theorem d169_46 : decode prog_14_method_44_code 46 = .ok (.aload_n 0, 1) := dd169_25.2.2.2.2.2.2.2.2.2.2.2.2.1
theorem d169_47 : decode prog_14_method_44_code 47 = .ok (.getfield 166, 3) := dd169_25.2.2.2.2.2.2.2.2.2.2.2.2.2.1
theorem d169_50 : decode prog_14_method_44_code 50 = .ok (.if_icmp .ge 25, 3) := dd169_25.2.2.2.2.2.2.2.2.2.2.2.2.2.2.1
theorem d169_53 : decode prog_14_method_44_code 53 = .ok (.aload_n 0, 1) := dd169_25.2.2.2.2.2.2.2.2.2.2.2.2.2.2.2
theorem dd169_54 : (decode prog_14_method_44_code 54 = .ok (.getfield 33, 3)) ∧ (decode prog_14_method_44_code 57 = .ok (.iload 8, 2)) ∧ (decode prog_14_method_44_code 59 = .ok (.iconst 1, 1)) ∧ (decode prog_14_method_44_code 60 = .ok (.isub, 1)) ∧ (decode prog_14_method_44_code 61 = .ok (.aload_n 0, 1)) ∧ (decode prog_14_method_44_code 62 = .ok (.getfield 33, 3)) ∧ (decode prog_14_method_44_code 65 = .ok (.iload 8, 2)) ∧ (decode prog_14_method_44_code 67 = .ok (.iaload, 1)) ∧ (decode prog_14_method_44_code 68 = .ok (.iastore, 1)) ∧ (decode prog_14_method_44_code 69 = .ok (.iinc 8 1, 3)) ∧ (decode prog_14_method_44_code 72 = .ok (.goto (-28), 3)) ∧ (decode prog_14_method_44_code 75 = .ok (.aload_n 0, 1)) ∧ (decode prog_14_method_44_code 76 = .ok (.dup, 1)) ∧ (decode prog_14_method_44_code 77 = .ok (.getfield 166, 3)) ∧ (decode prog_14_method_44_code 80 = .ok (.iconst 1, 1)) ∧ (decode prog_14_method_44_code 81 = .ok (.isub, 1)) := by decide +kernel
theorem d169_54 : decode prog_14_method_44_code 54 = .ok (.getfield 33, 3) := dd169_54.1
theorem d169_57 : decode prog_14_method_44_code 57 = .ok (.iload 8, 2) := dd169_54.2.1
theorem d169_59 : decode prog_14_method_44_code 59 = .ok (.iconst 1, 1) := dd169_54.2.2.1
theorem d169_60 : decode prog_14_method_44_code 60 = .ok (.isub, 1) := dd169_54.2.2.2.1
theorem d169_61 : decode prog_14_method_44_code 61 = .ok (.aload_n 0, 1) := dd169_54.2.2.2.2.1
theorem d169_62 : decode prog_14_method_44_code 62 = .ok (.getfield 33, 3) := dd169_54.2.2.2.2.2.1
theorem d169_65 : decode prog_14_method_44_code 65 = .ok (.iload 8, 2) := dd169_54.2.2.2.2.2.2.1
theorem d169_67 : decode prog_14_method_44_code 67 = .ok (.iaload, 1) := dd169_54.2.2.2.2.2.2.2.1
theorem d169_68 : decode prog_14_method_44_code 68 = .ok (.iastore, 1) := dd169_54.2.2.2.2.2.2.2.2.1
theorem d169_69 : decode prog_14_method_44_code 69 = .ok (.iinc 8 1, 3) := dd169_54.2.2.2.2.2.2.2.2.2.1
theorem d169_72 : decode prog_14_method_44_code 72 = .ok (.goto (-28), 3) := dd169_54.2.2.2.2.2.2.2.2.2.2.1
theorem d169_75 : decode prog_14_method_44_code 75 = .ok (.aload_n 0, 1) := dd169_54.2.2.2.2.2.2.2.2.2.2.2.1
theorem d169_76 : decode prog_14_method_44_code 76 = .ok (.dup, 1) := dd169_54.2.2.2.2.2.2.2.2.2.2.2.2.1
theorem d169_77 : decode prog_14_method_44_code 77 = .ok (.getfield 166, 3) := dd169_54.2.2.2.2.2.2.2.2.2.2.2.2.2.1
theorem d169_80 : decode prog_14_method_44_code 80 = .ok (.iconst 1, 1) := dd169_54.2.2.2.2.2.2.2.2.2.2.2.2.2.2.1
theorem d169_81 : decode prog_14_method_44_code 81 = .ok (.isub, 1) := dd169_54.2.2.2.2.2.2.2.2.2.2.2.2.2.2.2
theorem dd169_82 : (decode prog_14_method_44_code 82 = .ok (.putfield 166, 3)) ∧ (decode prog_14_method_44_code 85 = .ok (.aload_n 0, 1)) ∧ (decode prog_14_method_44_code 86 = .ok (.dup, 1)) ∧ (decode prog_14_method_44_code 87 = .ok (.getfield 260, 3)) ∧ (decode prog_14_method_44_code 90 = .ok (.iconst 1, 1)) ∧ (decode prog_14_method_44_code 91 = .ok (.iadd, 1)) ∧ (decode prog_14_method_44_code 92 = .ok (.putfield 260, 3)) ∧ (decode prog_14_method_44_code 95 = .ok (.iload_n 1, 1)) ∧ (decode prog_14_method_44_code 96 = .ok (.iconst 3, 1)) ∧ (decode prog_14_method_44_code 97 = .ok (.if_icmp .ne 36, 3)) ∧ (decode prog_14_method_44_code 100 = .ok (.aload_n 0, 1)) ∧ (decode prog_14_method_44_code 101 = .ok (.getfield 33, 3)) ∧ (decode prog_14_method_44_code 104 = .ok (.aload_n 0, 1)) ∧ (decode prog_14_method_44_code 105 = .ok (.getfield 166, 3)) ∧ (decode prog_14_method_44_code 108 = .ok (.iload_n 2, 1)) ∧ (decode prog_14_method_44_code 109 = .ok (.iastore, 1)) := by decide +kernel
theorem d169_82 : decode prog_14_method_44_code 82 = .ok (.putfield 166, 3) := dd169_82.1
theorem d169_85 : decode prog_14_method_44_code 85 = .ok (.aload_n 0, 1) := dd169_82.2.1
theorem d169_86 : decode prog_14_method_44_code 86 = .ok (.dup, 1) := dd169_82.2.2.1
theorem d169_87 : decode prog_14_method_44_code 87 = .ok (.getfield 260, 3) := dd169_82.2.2.2.1
theorem d169_90 : decode prog_14_method_44_code 90 = .ok (.iconst 1, 1) := dd169_82.2.2.2.2.1
theorem d169_91 : decode prog_14_method_44_code 91 = .ok (.iadd, 1) := dd169_82.2.2.2.2.2.1
theorem d169_92 : decode prog_14_method_44_code 92 = .ok (.putfield 260, 3) := dd169_82.2.2.2.2.2.2.1
theorem d169_95 : decode prog_14_method_44_code 95 = .ok (.iload_n 1, 1) := dd169_82.2.2.2.2.2.2.2.1
theorem d169_96 : decode prog_14_method_44_code 96 = .ok (.iconst 3, 1) := dd169_82.2.2.2.2.2.2.2.2.1
theorem d169_97 : decode prog_14_method_44_code 97 = .ok (.if_icmp .ne 36, 3) := dd169_82.2.2.2.2.2.2.2.2.2.1
theorem d169_100 : decode prog_14_method_44_code 100 = .ok (.aload_n 0, 1) := dd169_82.2.2.2.2.2.2.2.2.2.2.1
theorem d169_101 : decode prog_14_method_44_code 101 = .ok (.getfield 33, 3) := dd169_82.2.2.2.2.2.2.2.2.2.2.2.1
theorem d169_104 : decode prog_14_method_44_code 104 = .ok (.aload_n 0, 1) := dd169_82.2.2.2.2.2.2.2.2.2.2.2.2.1
theorem d169_105 : decode prog_14_method_44_code 105 = .ok (.getfield 166, 3) := dd169_82.2.2.2.2.2.2.2.2.2.2.2.2.2.1
theorem d169_108 : decode prog_14_method_44_code 108 = .ok (.iload_n 2, 1) := dd169_82.2.2.2.2.2.2.2.2.2.2.2.2.2.2.1
theorem d169_109 : decode prog_14_method_44_code 109 = .ok (.iastore, 1) := dd169_82.2.2.2.2.2.2.2.2.2.2.2.2.2.2.2
theorem dd169_110 : (decode prog_14_method_44_code 110 = .ok (.aload_n 0, 1)) ∧ (decode prog_14_method_44_code 111 = .ok (.dup, 1)) ∧ (decode prog_14_method_44_code 112 = .ok (.getfield 166, 3)) ∧ (decode prog_14_method_44_code 115 = .ok (.iconst 1, 1)) ∧ (decode prog_14_method_44_code 116 = .ok (.iadd, 1)) ∧ (decode prog_14_method_44_code 117 = .ok (.putfield 166, 3)) ∧ (decode prog_14_method_44_code 120 = .ok (.aload_n 0, 1)) ∧ (decode prog_14_method_44_code 121 = .ok (.getfield 24, 3)) ∧ (decode prog_14_method_44_code 124 = .ok (.iload_n 2, 1)) ∧ (decode prog_14_method_44_code 125 = .ok (.dup2, 1)) ∧ (decode prog_14_method_44_code 126 = .ok (.iaload, 1)) ∧ (decode prog_14_method_44_code 127 = .ok (.iconst 1, 1)) ∧ (decode prog_14_method_44_code 128 = .ok (.iadd, 1)) ∧ (decode prog_14_method_44_code 129 = .ok (.iastore, 1)) ∧ (decode prog_14_method_44_code 130 = .ok (.goto 146, 3)) ∧ (decode prog_14_method_44_code 133 = .ok (.iload_n 1, 1)) := by decide +kernel
theorem d169_110 : decode prog_14_method_44_code 110 = .ok (.aload_n 0, 1) := dd169_110.1
theorem d169_111 : decode prog_14_method_44_code 111 = .ok (.dup, 1) := dd169_110.2.1
theorem d169_112 : decode prog_14_method_44_code 112 = .ok (.getfield 166, 3) := dd169_110.2.2.1
theorem d169_115 : decode prog_14_method_44_code 115 = .ok (.iconst 1, 1) := dd169_110.2.2.2.1
theorem d169_116 : decode prog_14_method_44_code 116 = .ok (.iadd, 1) := dd169_110.2.2.2.2.1
theorem d169_117 : decode prog_14_method_44_code 117 = .ok (.putfield 166, 3) := dd169_110.2.2.2.2.2.1
theorem d169_120 : decode prog_14_method_44_code 120 = .ok (.aload_n 0, 1) := dd169_110.2.2.2.2.2.2.1
theorem d169_121 : decode prog_14_method_44_code 121 = .ok (.getfield 24, 3) := dd169_110.2.2.2.2.2.2.2.1
theorem d169_124 : decode prog_14_method_44_code 124 = .ok (.iload_n 2, 1) := dd169_110.2.2.2.2.2.2.2.2.1
theorem d169_125 : decode prog_14_method_44_code 125 = .ok (.dup2, 1) := dd169_110.2.2.2.2.2.2.2.2.2.1
theorem d169_126 : decode prog_14_method_44_code 126 = .ok (.iaload, 1) := dd169_110.2.2.2.2.2.2.2.2.2.2.1
theorem d169_127 : decode prog_14_method_44_code 127 = .ok (.iconst 1, 1) := dd169_110.2.2.2.2.2.2.2.2.2.2.2.1
theorem d169_128 : decode prog_14_method_44_code 128 = .ok (.iadd, 1) := dd169_110.2.2.2.2.2.2.2.2.2.2.2.2.1
theorem d169_129 : decode prog_14_method_44_code 129 = .ok (.iastore, 1) := dd169_110.2.2.2.2.2.2.2.2.2.2.2.2.2.1
theorem d169_130 : decode prog_14_method_44_code 130 = .ok (.goto 146, 3) := dd169_110.2.2.2.2.2.2.2.2.2.2.2.2.2.2.1
theorem d169_133 : decode prog_14_method_44_code 133 = .ok (.iload_n 1, 1) := dd169_110.2.2.2.2.2.2.2.2.2.2.2.2.2.2.2
theorem dd169_134 : (decode prog_14_method_44_code 134 = .ok (.iconst 1, 1)) ∧ (decode prog_14_method_44_code 135 = .ok (.if_icmp .ne 86, 3)) ∧ (decode prog_14_method_44_code 138 = .ok (.aload_n 0, 1)) ∧ (decode prog_14_method_44_code 139 = .ok (.dup, 1)) ∧ (decode prog_14_method_44_code 140 = .ok (.getfield 257, 3)) ∧ (decode prog_14_method_44_code 143 = .ok (.aload_n 0, 1)) ∧ (decode prog_14_method_44_code 144 = .ok (.getfield 36, 3)) ∧ (decode prog_14_method_44_code 147 = .ok (.iadd, 1)) ∧ (decode prog_14_method_44_code 148 = .ok (.putfield 257, 3)) ∧ (decode prog_14_method_44_code 151 = .ok (.aload_n 0, 1)) ∧ (decode prog_14_method_44_code 152 = .ok (.dup, 1)) ∧ (decode prog_14_method_44_code 153 = .ok (.getfield 40, 3)) ∧ (decode prog_14_method_44_code 156 = .ok (.iconst 1, 1)) ∧ (decode prog_14_method_44_code 157 = .ok (.isub, 1)) ∧ (decode prog_14_method_44_code 158 = .ok (.putfield 40, 3)) ∧ (decode prog_14_method_44_code 161 = .ok (.aload_n 0, 1)) := by decide +kernel
theorem d169_134 : decode prog_14_method_44_code 134 = .ok (.iconst 1, 1) := dd169_134.1
theorem d169_135 : decode prog_14_method_44_code 135 = .ok (.if_icmp .ne 86, 3) := dd169_134.2.1
theorem d169_138 : decode prog_14_method_44_code 138 = .ok (.aload_n 0, 1) := dd169_134.2.2.1
theorem d169_139 : decode prog_14_method_44_code 139 = .ok (.dup, 1) := dd169_134.2.2.2.1
theorem d169_140 : decode prog_14_method_44_code 140 = .ok (.getfield 257, 3) := dd169_134.2.2.2.2.1
theorem d169_143 : decode prog_14_method_44_code 143 = .ok (.aload_n 0, 1) := dd169_134.2.2.2.2.2.1
theorem d169_144 : decode prog_14_method_44_code 144 = .ok (.getfield 36, 3) := dd169_134.2.2.2.2.2.2.1
theorem d169_147 : decode prog_14_method_44_code 147 = .ok (.iadd, 1) := dd169_134.2.2.2.2.2.2.2.1
theorem d169_148 : decode prog_14_method_44_code 148 = .ok (.putfield 257, 3) := dd169_134.2.2.2.2.2.2.2.2.1
theorem d169_151 : decode prog_14_method_44_code 151 = .ok (.aload_n 0, 1) := dd169_134.2.2.2.2.2.2.2.2.2.1
theorem d169_152 : decode prog_14_method_44_code 152 = .ok (.dup, 1) := dd169_134.2.2.2.2.2.2.2.2.2.2.1
theorem d169_153 : decode prog_14_method_44_code 153 = .ok (.getfield 40, 3) := dd169_134.2.2.2.2.2.2.2.2.2.2.2.1
theorem d169_156 : decode prog_14_method_44_code 156 = .ok (.iconst 1, 1) := dd169_134.2.2.2.2.2.2.2.2.2.2.2.2.1
theorem d169_157 : decode prog_14_method_44_code 157 = .ok (.isub, 1) := dd169_134.2.2.2.2.2.2.2.2.2.2.2.2.2.1
theorem d169_158 : decode prog_14_method_44_code 158 = .ok (.putfield 40, 3) := dd169_134.2.2.2.2.2.2.2.2.2.2.2.2.2.2.1
theorem d169_161 : decode prog_14_method_44_code 161 = .ok (.aload_n 0, 1) := dd169_134.2.2.2.2.2.2.2.2.2.2.2.2.2.2.2
theorem dd169_162 : (decode prog_14_method_44_code 162 = .ok (.getfield 27, 3)) ∧ (decode prog_14_method_44_code 165 = .ok (.iload_n 2, 1)) ∧ (decode prog_14_method_44_code 166 = .ok (.dup2, 1)) ∧ (decode prog_14_method_44_code 167 = .ok (.iaload, 1)) ∧ (decode prog_14_method_44_code 168 = .ok (.iload_n 3, 1)) ∧ (decode prog_14_method_44_code 169 = .ok (.aload_n 0, 1)) ∧ (decode prog_14_method_44_code 170 = .ok (.getfield 36, 3)) ∧ (decode prog_14_method_44_code 173 = .ok (.isub, 1)) ∧ (decode prog_14_method_44_code 174 = .ok (.iadd, 1)) ∧ (decode prog_14_method_44_code 175 = .ok (.iastore, 1)) ∧ (decode prog_14_method_44_code 176 = .ok (.aload_n 0, 1)) ∧ (decode prog_14_method_44_code 177 = .ok (.aload_n 0, 1)) ∧ (decode prog_14_method_44_code 178 = .ok (.getfield 36, 3)) ∧ (decode prog_14_method_44_code 181 = .ok (.iload 6, 2)) ∧ (decode prog_14_method_44_code 183 = .ok (.iadd, 1)) ∧ (decode prog_14_method_44_code 184 = .ok (.sipush 999, 3)) := by decide +kernel
theorem d169_162 : decode prog_14_method_44_code 162 = .ok (.getfield 27, 3) := dd169_162.1
theorem d169_165 : decode prog_14_method_44_code 165 = .ok (.iload_n 2, 1) := dd169_162.2.1
theorem d169_166 : decode prog_14_method_44_code 166 = .ok (.dup2, 1) := dd169_162.2.2.1
theorem d169_167 : decode prog_14_method_44_code 167 = .ok (.iaload, 1) := dd169_162.2.2.2.1
theorem d169_168 : decode prog_14_method_44_code 168 = .ok (.iload_n 3, 1) := dd169_162.2.2.2.2.1
theorem d169_169 : decode prog_14_method_44_code 169 = .ok (.aload_n 0, 1) := dd169_162.2.2.2.2.2.1
theorem d169_170 : decode prog_14_method_44_code 170 = .ok (.getfield 36, 3) := dd169_162.2.2.2.2.2.2.1
theorem d169_173 : decode prog_14_method_44_code 173 = .ok (.isub, 1) := dd169_162.2.2.2.2.2.2.2.1
theorem d169_174 : decode prog_14_method_44_code 174 = .ok (.iadd, 1) := dd169_162.2.2.2.2.2.2.2.2.1
theorem d169_175 : decode prog_14_method_44_code 175 = .ok (.iastore, 1) := dd169_162.2.2.2.2.2.2.2.2.2.1
theorem d169_176 : decode prog_14_method_44_code 176 = .ok (.aload_n 0, 1) := dd169_162.2.2.2.2.2.2.2.2.2.2.1
theorem d169_177 : decode prog_14_method_44_code 177 = .ok (.aload_n 0, 1) := dd169_162.2.2.2.2.2.2.2.2.2.2.2.1
theorem d169_178 : decode prog_14_method_44_code 178 = .ok (.getfield 36, 3) := dd169_162.2.2.2.2.2.2.2.2.2.2.2.2.1
theorem d169_181 : decode prog_14_method_44_code 181 = .ok (.iload 6, 2) := dd169_162.2.2.2.2.2.2.2.2.2.2.2.2.2.1
theorem d169_183 : decode prog_14_method_44_code 183 = .ok (.iadd, 1) := dd169_162.2.2.2.2.2.2.2.2.2.2.2.2.2.2.1
theorem d169_184 : decode prog_14_method_44_code 184 = .ok (.sipush 999, 3) := dd169_162.2.2.2.2.2.2.2.2.2.2.2.2.2.2.2
theorem dd169_187 : (decode prog_14_method_44_code 187 = .ok (.if_icmp .le 9, 3)) ∧ (decode prog_14_method_44_code 190 = .ok (.sipush 999, 3)) ∧ (decode prog_14_method_44_code 193 = .ok (.goto 10, 3)) ∧ (decode prog_14_method_44_code 196 = .ok (.aload_n 0, 1)) ∧ (decode prog_14_method_44_code 197 = .ok (.getfield 36, 3)) ∧ (decode prog_14_method_44_code 200 = .ok (.iload 6, 2)) ∧ (decode prog_14_method_44_code 202 = .ok (.iadd, 1)) ∧ (decode prog_14_method_44_code 203 = .ok (.putfield 36, 3)) ∧ (decode prog_14_method_44_code 206 = .ok (.aload_n 0, 1)) ∧ (decode prog_14_method_44_code 207 = .ok (.dup, 1)) ∧ (decode prog_14_method_44_code 208 = .ok (.getfield 284, 3)) ∧ (decode prog_14_method_44_code 211 = .ok (.iconst 1, 1)) ∧ (decode prog_14_method_44_code 212 = .ok (.iload_n 2, 1)) ∧ (decode prog_14_method_44_code 213 = .ok (.ishl, 1)) ∧ (decode prog_14_method_44_code 214 = .ok (.ior, 1)) ∧ (decode prog_14_method_44_code 215 = .ok (.putfield 284, 3)) := by decide +kernel
theorem d169_187 : decode prog_14_method_44_code 187 = .ok (.if_icmp .le 9, 3) := dd169_187.1
theorem d169_190 : decode prog_14_method_44_code 190 = .ok (.sipush 999, 3) := dd169_187.2.1
theorem d169_193 : decode prog_14_method_44_code 193 = .ok (.goto 10, 3) := dd169_187.2.2.1
theorem d169_196 : decode prog_14_method_44_code 196 = .ok (.aload_n 0, 1) := dd169_187.2.2.2.1
theorem d169_197 : decode prog_14_method_44_code 197 = .ok (.getfield 36, 3) := dd169_187.2.2.2.2.1
theorem d169_200 : decode prog_14_method_44_code 200 = .ok (.iload 6, 2) := dd169_187.2.2.2.2.2.1
theorem d169_202 : decode prog_14_method_44_code 202 = .ok (.iadd, 1) := dd169_187.2.2.2.2.2.2.1
theorem d169_203 : decode prog_14_method_44_code 203 = .ok (.putfield 36, 3) := dd169_187.2.2.2.2.2.2.2.1
theorem d169_206 : decode prog_14_method_44_code 206 = .ok (.aload_n 0, 1) := dd169_187.2.2.2.2.2.2.2.2.1
theorem d169_207 : decode prog_14_method_44_code 207 = .ok (.dup, 1) := dd169_187.2.2.2.2.2.2.2.2.2.1
theorem d169_208 : decode prog_14_method_44_code 208 = .ok (.getfield 284, 3) := dd169_187.2.2.2.2.2.2.2.2.2.2.1
theorem d169_211 : decode prog_14_method_44_code 211 = .ok (.iconst 1, 1) := dd169_187.2.2.2.2.2.2.2.2.2.2.2.1
theorem d169_212 : decode prog_14_method_44_code 212 = .ok (.iload_n 2, 1) := dd169_187.2.2.2.2.2.2.2.2.2.2.2.2.1
theorem d169_213 : decode prog_14_method_44_code 213 = .ok (.ishl, 1) := dd169_187.2.2.2.2.2.2.2.2.2.2.2.2.2.1
theorem d169_214 : decode prog_14_method_44_code 214 = .ok (.ior, 1) := dd169_187.2.2.2.2.2.2.2.2.2.2.2.2.2.2.1
theorem d169_215 : decode prog_14_method_44_code 215 = .ok (.putfield 284, 3) := dd169_187.2.2.2.2.2.2.2.2.2.2.2.2.2.2.2
theorem dd169_218 : (decode prog_14_method_44_code 218 = .ok (.goto 58, 3)) ∧ (decode prog_14_method_44_code 221 = .ok (.aload_n 0, 1)) ∧ (decode prog_14_method_44_code 222 = .ok (.dup, 1)) ∧ (decode prog_14_method_44_code 223 = .ok (.getfield 257, 3)) ∧ (decode prog_14_method_44_code 226 = .ok (.iload 5, 2)) ∧ (decode prog_14_method_44_code 228 = .ok (.iadd, 1)) ∧ (decode prog_14_method_44_code 229 = .ok (.putfield 257, 3)) ∧ (decode prog_14_method_44_code 232 = .ok (.aload_n 0, 1)) ∧ (decode prog_14_method_44_code 233 = .ok (.getfield 27, 3)) ∧ (decode prog_14_method_44_code 236 = .ok (.iload_n 2, 1)) ∧ (decode prog_14_method_44_code 237 = .ok (.dup2, 1)) ∧ (decode prog_14_method_44_code 238 = .ok (.iaload, 1)) ∧ (decode prog_14_method_44_code 239 = .ok (.iload 4, 2)) ∧ (decode prog_14_method_44_code 241 = .ok (.iload 5, 2)) ∧ (decode prog_14_method_44_code 243 = .ok (.iadd, 1)) ∧ (decode prog_14_method_44_code 244 = .ok (.isub, 1)) := by decide +kernel
theorem d169_218 : decode prog_14_method_44_code 218 = .ok (.goto 58, 3) := dd169_218.1
theorem d169_221 : decode prog_14_method_44_code 221 = .ok (.aload_n 0, 1) := dd169_218.2.1
theorem d169_222 : decode prog_14_method_44_code 222 = .ok (.dup, 1) := dd169_218.2.2.1
theorem d169_223 : decode prog_14_method_44_code 223 = .ok (.getfield 257, 3) := dd169_218.2.2.2.1
theorem d169_226 : decode prog_14_method_44_code 226 = .ok (.iload 5, 2) := dd169_218.2.2.2.2.1
theorem d169_228 : decode prog_14_method_44_code 228 = .ok (.iadd, 1) := dd169_218.2.2.2.2.2.1
theorem d169_229 : decode prog_14_method_44_code 229 = .ok (.putfield 257, 3) := dd169_218.2.2.2.2.2.2.1
theorem d169_232 : decode prog_14_method_44_code 232 = .ok (.aload_n 0, 1) := dd169_218.2.2.2.2.2.2.2.1
theorem d169_233 : decode prog_14_method_44_code 233 = .ok (.getfield 27, 3) := dd169_218.2.2.2.2.2.2.2.2.1
theorem d169_236 : decode prog_14_method_44_code 236 = .ok (.iload_n 2, 1) := dd169_218.2.2.2.2.2.2.2.2.2.1
theorem d169_237 : decode prog_14_method_44_code 237 = .ok (.dup2, 1) := dd169_218.2.2.2.2.2.2.2.2.2.2.1
theorem d169_238 : decode prog_14_method_44_code 238 = .ok (.iaload, 1) := dd169_218.2.2.2.2.2.2.2.2.2.2.2.1
theorem d169_239 : decode prog_14_method_44_code 239 = .ok (.iload 4, 2) := dd169_218.2.2.2.2.2.2.2.2.2.2.2.2.1
theorem d169_241 : decode prog_14_method_44_code 241 = .ok (.iload 5, 2) := dd169_218.2.2.2.2.2.2.2.2.2.2.2.2.2.1
theorem d169_243 : decode prog_14_method_44_code 243 = .ok (.iadd, 1) := dd169_218.2.2.2.2.2.2.2.2.2.2.2.2.2.2.1
theorem d169_244 : decode prog_14_method_44_code 244 = .ok (.isub, 1) := dd169_218.2.2.2.2.2.2.2.2.2.2.2.2.2.2.2
theorem dd169_245 : (decode prog_14_method_44_code 245 = .ok (.iastore, 1)) ∧ (decode prog_14_method_44_code 246 = .ok (.aload_n 0, 1)) ∧ (decode prog_14_method_44_code 247 = .ok (.iload 7, 2)) ∧ (decode prog_14_method_44_code 249 = .ok (.ifCond .ne 12, 3)) ∧ (decode prog_14_method_44_code 252 = .ok (.aload_n 0, 1)) ∧ (decode prog_14_method_44_code 253 = .ok (.getfield 36, 3)) ∧ (decode prog_14_method_44_code 256 = .ok (.iconst 2, 1)) ∧ (decode prog_14_method_44_code 257 = .ok (.idiv, 1)) ∧ (decode prog_14_method_44_code 258 = .ok (.goto 5, 3)) ∧ (decode prog_14_method_44_code 261 = .ok (.iload 7, 2)) ∧ (decode prog_14_method_44_code 263 = .ok (.putfield 36, 3)) ∧ (decode prog_14_method_44_code 266 = .ok (.aload_n 0, 1)) ∧ (decode prog_14_method_44_code 267 = .ok (.dup, 1)) ∧ (decode prog_14_method_44_code 268 = .ok (.getfield 287, 3)) ∧ (decode prog_14_method_44_code 271 = .ok (.iconst 1, 1)) ∧ (decode prog_14_method_44_code 272 = .ok (.iadd, 1)) := by decide +kernel
theorem d169_245 : decode prog_14_method_44_code 245 = .ok (.iastore, 1) := dd169_245.1
theorem d169_246 : decode prog_14_method_44_code 246 = .ok (.aload_n 0, 1) := dd169_245.2.1
theorem d169_247 : decode prog_14_method_44_code 247 = .ok (.iload 7, 2) := dd169_245.2.2.1
theorem d169_249 : decode prog_14_method_44_code 249 = .ok (.ifCond .ne 12, 3) := dd169_245.2.2.2.1
theorem d169_252 : decode prog_14_method_44_code 252 = .ok (.aload_n 0, 1) := dd169_245.2.2.2.2.1
theorem d169_253 : decode prog_14_method_44_code 253 = .ok (.getfield 36, 3) := dd169_245.2.2.2.2.2.1
theorem d169_256 : decode prog_14_method_44_code 256 = .ok (.iconst 2, 1) := dd169_245.2.2.2.2.2.2.1
theorem d169_257 : decode prog_14_method_44_code 257 = .ok (.idiv, 1) := dd169_245.2.2.2.2.2.2.2.1
theorem d169_258 : decode prog_14_method_44_code 258 = .ok (.goto 5, 3) := dd169_245.2.2.2.2.2.2.2.2.1
theorem d169_261 : decode prog_14_method_44_code 261 = .ok (.iload 7, 2) := dd169_245.2.2.2.2.2.2.2.2.2.1
theorem d169_263 : decode prog_14_method_44_code 263 = .ok (.putfield 36, 3) := dd169_245.2.2.2.2.2.2.2.2.2.2.1
theorem d169_266 : decode prog_14_method_44_code 266 = .ok (.aload_n 0, 1) := dd169_245.2.2.2.2.2.2.2.2.2.2.2.1
theorem d169_267 : decode prog_14_method_44_code 267 = .ok (.dup, 1) := dd169_245.2.2.2.2.2.2.2.2.2.2.2.2.1
theorem d169_268 : decode prog_14_method_44_code 268 = .ok (.getfield 287, 3) := dd169_245.2.2.2.2.2.2.2.2.2.2.2.2.2.1
theorem d169_271 : decode prog_14_method_44_code 271 = .ok (.iconst 1, 1) := dd169_245.2.2.2.2.2.2.2.2.2.2.2.2.2.2.1
theorem d169_272 : decode prog_14_method_44_code 272 = .ok (.iadd, 1) := dd169_245.2.2.2.2.2.2.2.2.2.2.2.2.2.2.2
theorem dd169_273 : (decode prog_14_method_44_code 273 = .ok (.putfield 287, 3)) ∧ (decode prog_14_method_44_code 276 = .ok (.return_, 1)) := by decide +kernel
theorem d169_273 : decode prog_14_method_44_code 273 = .ok (.putfield 287, 3) := dd169_273.1
theorem d169_276 : decode prog_14_method_44_code 276 = .ok (.return_, 1) := dd169_273.2
theorem b169_0 {d : Nat} {S : mm_S} {a0 : Nat} {x1 : Int32} (h0 : mm_obj S a0 12 = true) (h1 : (mm_R S a0 9).isSome = true) (h2 : mm_inb (nI 0) (mm_N S (mm_rg S a0 9)) = true) (h3 : mm_arr S (mm_rg S a0 9) 13 = true) (h4 : mm_rk S a0 = 12) : mm_ex (d + 1) 169 0 [.ref a0, .int x1, .null, .null, .null, .null, .null, .null, .null] [] S =
    mm_bd (mm_cl d 156 [.ref a0, .int (mm_M S (mm_rg S a0 9) (nI 0).toNatClampNeg)] S) (fun v S2 => mm_ex (d + 1) 169 12 [.ref a0, .int x1, .int (mm_M S (mm_rg S a0 9) (nI 0).toNatClampNeg), .null, .null, .null, .null, .null, .null] (v.toList ++ []) S2) :=
  Eq.trans (mx_aload_n t169 d169_0 (x := a0) rfl) <|
  Eq.trans (mx_getR t169 d169_1 rfl fl12_33 h0 h1) <|
  Eq.trans (mx_iconst t169 d169_4 (v := nI 0) rfl) <|
  Eq.trans (mx_iald t169 d169_5 h3 h2) <|
  Eq.trans (mx_istore_n t169 d169_6 (ls' := [.ref a0, .int x1, .int (mm_M S (mm_rg S a0 9) (nI 0).toNatClampNeg), .null, .null, .null, .null, .null, .null]) rfl rfl) <|
  Eq.trans (mx_aload_n t169 d169_7 (x := a0) rfl) <|
  Eq.trans (mx_iload_n t169 d169_8 (x := mm_M S (mm_rg S a0 9) (nI 0).toNatClampNeg) rfl) <|
  (mx_virt (st := []) (k := 12) t169 [.int (mm_M S (mm_rg S a0 9) (nI 0).toNatClampNeg)] d169_9 vt12_177 rfl rfl (Nat.le_of_ble_eq_true rfl) (Nat.le_of_ble_eq_true rfl) h4)
theorem b169_12 {d : Nat} {S : mm_S} {a0 : Nat} {x1 : Int32} {x2 : Int32} {p0 : Int32} (h0 : mm_rk S a0 = 12) : mm_ex (d + 1) 169 12 [.ref a0, .int x1, .int x2, .null, .null, .null, .null, .null, .null] [.int p0] S =
    mm_bd (mm_cl d 157 [.ref a0, .int x2] S) (fun v S2 => mm_ex (d + 1) 169 18 [.ref a0, .int x1, .int x2, .int p0, .null, .null, .null, .null, .null] (v.toList ++ []) S2) :=
  Eq.trans (mx_istore_n t169 d169_12 (ls' := [.ref a0, .int x1, .int x2, .int p0, .null, .null, .null, .null, .null]) rfl rfl) <|
  Eq.trans (mx_aload_n t169 d169_13 (x := a0) rfl) <|
  Eq.trans (mx_iload_n t169 d169_14 (x := x2) rfl) <|
  (mx_virt (st := []) (k := 12) t169 [.int x2] d169_15 vt12_180 rfl rfl (Nat.le_of_ble_eq_true rfl) (Nat.le_of_ble_eq_true rfl) h0)
theorem b169_18 {d : Nat} {S : mm_S} {a0 : Nat} {x1 : Int32} {x2 : Int32} {x3 : Int32} {p0 : Int32} (h0 : mm_rk S a0 = 12) : mm_ex (d + 1) 169 18 [.ref a0, .int x1, .int x2, .int x3, .null, .null, .null, .null, .null] [.int p0] S =
    mm_bd (mm_cl d 158 [.ref a0, .int (nI 5)] S) (fun v S2 => mm_ex (d + 1) 169 25 [.ref a0, .int x1, .int x2, .int x3, .int p0, .null, .null, .null, .null] (v.toList ++ []) S2) :=
  Eq.trans (mx_istore t169 d169_18 (ls' := [.ref a0, .int x1, .int x2, .int x3, .int p0, .null, .null, .null, .null]) rfl rfl) <|
  Eq.trans (mx_aload_n t169 d169_20 (x := a0) rfl) <|
  Eq.trans (mx_iconst t169 d169_21 (v := nI 5) rfl) <|
  (mx_virt (st := []) (k := 12) t169 [.int (nI 5)] d169_22 vt12_254 rfl rfl (Nat.le_of_ble_eq_true rfl) (Nat.le_of_ble_eq_true rfl) h0)
theorem b169_25 {d : Nat} {S : mm_S} {a0 : Nat} {x1 : Int32} {x2 : Int32} {x3 : Int32} {x4 : Int32} {p0 : Int32} (h0 : mm_rk S a0 = 12) : mm_ex (d + 1) 169 25 [.ref a0, .int x1, .int x2, .int x3, .int x4, .null, .null, .null, .null] [.int p0] S =
    mm_bd (mm_cl d 158 [.ref a0, .int (nI 2)] S) (fun v S2 => mm_ex (d + 1) 169 32 [.ref a0, .int x1, .int x2, .int x3, .int x4, .int p0, .null, .null, .null] (v.toList ++ []) S2) :=
  Eq.trans (mx_istore t169 d169_25 (ls' := [.ref a0, .int x1, .int x2, .int x3, .int x4, .int p0, .null, .null, .null]) rfl rfl) <|
  Eq.trans (mx_aload_n t169 d169_27 (x := a0) rfl) <|
  Eq.trans (mx_iconst t169 d169_28 (v := nI 2) rfl) <|
  (mx_virt (st := []) (k := 12) t169 [.int (nI 2)] d169_29 vt12_254 rfl rfl (Nat.le_of_ble_eq_true rfl) (Nat.le_of_ble_eq_true rfl) h0)
theorem b169_32 {d : Nat} {S : mm_S} {a0 : Nat} {x1 : Int32} {x2 : Int32} {x3 : Int32} {x4 : Int32} {x5 : Int32} {p0 : Int32} (h0 : mm_rk S a0 = 12) : mm_ex (d + 1) 169 32 [.ref a0, .int x1, .int x2, .int x3, .int x4, .int x5, .null, .null, .null] [.int p0] S =
    mm_bd (mm_cl d 158 [.ref a0, .int (nI 3)] S) (fun v S2 => mm_ex (d + 1) 169 39 [.ref a0, .int x1, .int x2, .int x3, .int x4, .int x5, .int p0, .null, .null] (v.toList ++ []) S2) :=
  Eq.trans (mx_istore t169 d169_32 (ls' := [.ref a0, .int x1, .int x2, .int x3, .int x4, .int x5, .int p0, .null, .null]) rfl rfl) <|
  Eq.trans (mx_aload_n t169 d169_34 (x := a0) rfl) <|
  Eq.trans (mx_iconst t169 d169_35 (v := nI 3) rfl) <|
  (mx_virt (st := []) (k := 12) t169 [.int (nI 3)] d169_36 vt12_254 rfl rfl (Nat.le_of_ble_eq_true rfl) (Nat.le_of_ble_eq_true rfl) h0)
theorem b169_39 {d : Nat} {S : mm_S} {a0 : Nat} {x1 : Int32} {x2 : Int32} {x3 : Int32} {x4 : Int32} {x5 : Int32} {x6 : Int32} {p0 : Int32} : mm_ex d 169 39 [.ref a0, .int x1, .int x2, .int x3, .int x4, .int x5, .int x6, .null, .null] [.int p0] S =
    mm_ex d 169 44 [.ref a0, .int x1, .int x2, .int x3, .int x4, .int x5, .int x6, .int p0, .int (nI 1)] [] S :=
  Eq.trans (mx_istore t169 d169_39 (ls' := [.ref a0, .int x1, .int x2, .int x3, .int x4, .int x5, .int x6, .int p0, .null]) rfl rfl) <|
  Eq.trans (mx_iconst t169 d169_41 (v := nI 1) rfl) <|
  (mx_istore t169 d169_42 (ls' := [.ref a0, .int x1, .int x2, .int x3, .int x4, .int x5, .int x6, .int p0, .int (nI 1)]) rfl rfl)
theorem b169_44 {d : Nat} {S : mm_S} {a0 : Nat} {x1 : Int32} {x2 : Int32} {x3 : Int32} {x4 : Int32} {x5 : Int32} {x6 : Int32} {x7 : Int32} {x8 : Int32} (h0 : mm_obj S a0 12 = true) : mm_ex d 169 44 [.ref a0, .int x1, .int x2, .int x3, .int x4, .int x5, .int x6, .int x7, .int x8] [] S =
    if (mm_M S a0 8) ≤ x8 then mm_ex d 169 75 [.ref a0, .int x1, .int x2, .int x3, .int x4, .int x5, .int x6, .int x7, .int x8] [] S else mm_ex d 169 53 [.ref a0, .int x1, .int x2, .int x3, .int x4, .int x5, .int x6, .int x7, .int x8] [] S :=
  Eq.trans (mx_iload t169 d169_44 (x := x8) rfl) <|
  Eq.trans (mx_aload_n t169 d169_46 (x := a0) rfl) <|
  Eq.trans (mx_geti t169 d169_47 rfl fl12_166 h0) <|
  (mx_cge t169 d169_50 (tgt := 75) (by decide))
theorem b169_53 {d : Nat} {S : mm_S} {a0 : Nat} {x1 : Int32} {x2 : Int32} {x3 : Int32} {x4 : Int32} {x5 : Int32} {x6 : Int32} {x7 : Int32} {x8 : Int32} (h0 : mm_obj S a0 12 = true) (h1 : (mm_R S a0 9).isSome = true) (h2 : mm_inb x8 (mm_N S (mm_rg S a0 9)) = true) (h3 : mm_arr S (mm_rg S a0 9) 13 = true) (h4 : mm_inb (x8 - (nI 1)) (mm_N S (mm_rg S a0 9)) = true) : mm_ex d 169 53 [.ref a0, .int x1, .int x2, .int x3, .int x4, .int x5, .int x6, .int x7, .int x8] [] S =
    mm_ex d 169 44 [.ref a0, .int x1, .int x2, .int x3, .int x4, .int x5, .int x6, .int x7, .int (x8 + nI 1)] [] (mm_uM S (mm_rg S a0 9) (x8 - (nI 1)).toNatClampNeg (mm_M S (mm_rg S a0 9) (x8).toNatClampNeg)) :=
  Eq.trans (mx_aload_n t169 d169_53 (x := a0) rfl) <|
  Eq.trans (mx_getR t169 d169_54 rfl fl12_33 h0 h1) <|
  Eq.trans (mx_iload t169 d169_57 (x := x8) rfl) <|
  Eq.trans (mx_iconst t169 d169_59 (v := nI 1) rfl) <|
  Eq.trans (mx_isub t169 d169_60) <|
  Eq.trans (mx_aload_n t169 d169_61 (x := a0) rfl) <|
  Eq.trans (mx_getR t169 d169_62 rfl fl12_33 h0 h1) <|
  Eq.trans (mx_iload t169 d169_65 (x := x8) rfl) <|
  Eq.trans (mx_iald t169 d169_67 h3 h2) <|
  Eq.trans (mx_iast2 t169 d169_68 h3 h4) <|
  Eq.trans (mx_iinc t169 d169_69 (x := x8) (v := nI 1) (ls' := [.ref a0, .int x1, .int x2, .int x3, .int x4, .int x5, .int x6, .int x7, .int (x8 + nI 1)]) rfl rfl rfl rfl) <|
  (mx_goto t169 d169_72 (tgt := 44) (by decide))
theorem b169_75 {d : Nat} {S : mm_S} {a0 : Nat} {x1 : Int32} {x2 : Int32} {x3 : Int32} {x4 : Int32} {x5 : Int32} {x6 : Int32} {x7 : Int32} {x8 : Int32} (h0 : mm_obj S a0 12 = true) : mm_ex d 169 75 [.ref a0, .int x1, .int x2, .int x3, .int x4, .int x5, .int x6, .int x7, .int x8] [] S =
    mm_ex d 169 87 [.ref a0, .int x1, .int x2, .int x3, .int x4, .int x5, .int x6, .int x7, .int x8] [.ref a0, .ref a0] (mm_uM S a0 8 ((mm_M S a0 8) - (nI 1))) :=
  Eq.trans (mx_aload_n t169 d169_75 (x := a0) rfl) <|
  Eq.trans (mx_dupr t169 d169_76) <|
  Eq.trans (mx_geti t169 d169_77 rfl fl12_166 h0) <|
  Eq.trans (mx_iconst t169 d169_80 (v := nI 1) rfl) <|
  Eq.trans (mx_isub t169 d169_81) <|
  Eq.trans (mx_puti2 t169 d169_82 fl12_166 rfl h0) <|
  Eq.trans (mx_aload_n t169 d169_85 (x := a0) rfl) <|
  (mx_dupr t169 d169_86)
theorem b169_87 {d : Nat} {S : mm_S} {a0 : Nat} {x1 : Int32} {x2 : Int32} {x3 : Int32} {x4 : Int32} {x5 : Int32} {x6 : Int32} {x7 : Int32} {x8 : Int32} {p0 : Nat} {p1 : Nat} (h0 : mm_obj S p0 12 = true) (h1 : mm_obj S p1 12 = true) : mm_ex d 169 87 [.ref a0, .int x1, .int x2, .int x3, .int x4, .int x5, .int x6, .int x7, .int x8] [.ref p0, .ref p1] S =
    if x1 = (nI 3) then mm_ex d 169 100 [.ref a0, .int x1, .int x2, .int x3, .int x4, .int x5, .int x6, .int x7, .int x8] [] (mm_uM S p1 13 ((mm_M S p0 13) + (nI 1))) else mm_ex d 169 133 [.ref a0, .int x1, .int x2, .int x3, .int x4, .int x5, .int x6, .int x7, .int x8] [] (mm_uM S p1 13 ((mm_M S p0 13) + (nI 1))) :=
  Eq.trans (mx_geti t169 d169_87 rfl fl12_260 h0) <|
  Eq.trans (mx_iconst t169 d169_90 (v := nI 1) rfl) <|
  Eq.trans (mx_iadd t169 d169_91) <|
  Eq.trans (mx_puti2 t169 d169_92 fl12_260 rfl h1) <|
  Eq.trans (mx_iload_n t169 d169_95 (x := x1) rfl) <|
  Eq.trans (mx_iconst t169 d169_96 (v := nI 3) rfl) <|
  (mx_cne t169 d169_97 (tgt := 133) (by decide))
theorem b169_100 {d : Nat} {S : mm_S} {a0 : Nat} {x1 : Int32} {x2 : Int32} {x3 : Int32} {x4 : Int32} {x5 : Int32} {x6 : Int32} {x7 : Int32} {x8 : Int32} (h0 : mm_obj S a0 12 = true) (h1 : (mm_R S a0 9).isSome = true) (h2 : mm_arr S (mm_rg S a0 9) 13 = true) (h3 : mm_inb (mm_M S a0 8) (mm_N S (mm_rg S a0 9)) = true) : mm_ex d 169 100 [.ref a0, .int x1, .int x2, .int x3, .int x4, .int x5, .int x6, .int x7, .int x8] [] S =
    mm_ex d 169 112 [.ref a0, .int x1, .int x2, .int x3, .int x4, .int x5, .int x6, .int x7, .int x8] [.ref a0, .ref a0] (mm_uM S (mm_rg S a0 9) (mm_M S a0 8).toNatClampNeg x2) :=
  Eq.trans (mx_aload_n t169 d169_100 (x := a0) rfl) <|
  Eq.trans (mx_getR t169 d169_101 rfl fl12_33 h0 h1) <|
  Eq.trans (mx_aload_n t169 d169_104 (x := a0) rfl) <|
  Eq.trans (mx_geti t169 d169_105 rfl fl12_166 h0) <|
  Eq.trans (mx_iload_n t169 d169_108 (x := x2) rfl) <|
  Eq.trans (mx_iast2 t169 d169_109 h2 h3) <|
  Eq.trans (mx_aload_n t169 d169_110 (x := a0) rfl) <|
  (mx_dupr t169 d169_111)
theorem b169_112 {d : Nat} {S : mm_S} {a0 : Nat} {x1 : Int32} {x2 : Int32} {x3 : Int32} {x4 : Int32} {x5 : Int32} {x6 : Int32} {x7 : Int32} {x8 : Int32} {p0 : Nat} {p1 : Nat} (h0 : mm_obj S p0 12 = true) (h1 : mm_obj S p1 12 = true) (h2 : mm_obj S a0 12 = true) (h3 : (mm_R S a0 5).isSome = true) : mm_ex d 169 112 [.ref a0, .int x1, .int x2, .int x3, .int x4, .int x5, .int x6, .int x7, .int x8] [.ref p0, .ref p1] S =
    mm_ex d 169 126 [.ref a0, .int x1, .int x2, .int x3, .int x4, .int x5, .int x6, .int x7, .int x8] [.int x2, .ref (mm_rg S a0 5), .int x2, .ref (mm_rg S a0 5)] (mm_uM S p1 8 ((mm_M S p0 8) + (nI 1))) :=
  Eq.trans (mx_geti t169 d169_112 rfl fl12_166 h0) <|
  Eq.trans (mx_iconst t169 d169_115 (v := nI 1) rfl) <|
  Eq.trans (mx_iadd t169 d169_116) <|
  Eq.trans (mx_puti2 t169 d169_117 fl12_166 rfl h1) <|
  Eq.trans (mx_aload_n t169 d169_120 (x := a0) rfl) <|
  Eq.trans (mx_getR t169 d169_121 rfl fl12_24 h2 h3) <|
  Eq.trans (mx_iload_n t169 d169_124 (x := x2) rfl) <|
  (mx_dup2i t169 d169_125)
theorem b169_126 {d : Nat} {S : mm_S} {a0 : Nat} {x1 : Int32} {x2 : Int32} {x3 : Int32} {x4 : Int32} {x5 : Int32} {x6 : Int32} {x7 : Int32} {x8 : Int32} {p0 : Int32} {p1 : Nat} {p2 : Int32} {p3 : Nat} (h0 : mm_inb p0 (mm_N S p1) = true) (h1 : mm_arr S p1 13 = true) (h2 : mm_arr S p3 13 = true) (h3 : mm_inb p2 (mm_N S p3) = true) : mm_ex d 169 126 [.ref a0, .int x1, .int x2, .int x3, .int x4, .int x5, .int x6, .int x7, .int x8] [.int p0, .ref p1, .int p2, .ref p3] S =
    some (none, (mm_uM S p3 (p2).toNatClampNeg ((mm_M S p1 (p0).toNatClampNeg) + (nI 1)))) :=
  Eq.trans (mx_iald t169 d169_126 h1 h0) <|
  Eq.trans (mx_iconst t169 d169_127 (v := nI 1) rfl) <|
  Eq.trans (mx_iadd t169 d169_128) <|
  Eq.trans (mx_iast2 t169 d169_129 h2 h3) <|
  Eq.trans (mx_goto t169 d169_130 (tgt := 276) (by decide)) <|
  (mx_vret t169 d169_276 rfl)
theorem b169_133 {d : Nat} {S : mm_S} {a0 : Nat} {x1 : Int32} {x2 : Int32} {x3 : Int32} {x4 : Int32} {x5 : Int32} {x6 : Int32} {x7 : Int32} {x8 : Int32} : mm_ex d 169 133 [.ref a0, .int x1, .int x2, .int x3, .int x4, .int x5, .int x6, .int x7, .int x8] [] S =
    if x1 = (nI 1) then mm_ex d 169 138 [.ref a0, .int x1, .int x2, .int x3, .int x4, .int x5, .int x6, .int x7, .int x8] [] S else mm_ex d 169 221 [.ref a0, .int x1, .int x2, .int x3, .int x4, .int x5, .int x6, .int x7, .int x8] [] S :=
  Eq.trans (mx_iload_n t169 d169_133 (x := x1) rfl) <|
  Eq.trans (mx_iconst t169 d169_134 (v := nI 1) rfl) <|
  (mx_cne t169 d169_135 (tgt := 221) (by decide))
theorem b169_138 {d : Nat} {S : mm_S} {a0 : Nat} {x1 : Int32} {x2 : Int32} {x3 : Int32} {x4 : Int32} {x5 : Int32} {x6 : Int32} {x7 : Int32} {x8 : Int32} (h0 : mm_obj S a0 12 = true) : mm_ex d 169 138 [.ref a0, .int x1, .int x2, .int x3, .int x4, .int x5, .int x6, .int x7, .int x8] [] S =
    mm_ex d 169 153 [.ref a0, .int x1, .int x2, .int x3, .int x4, .int x5, .int x6, .int x7, .int x8] [.ref a0, .ref a0] (mm_uM S a0 12 ((mm_M S a0 12) + (mm_M S a0 10))) :=
  Eq.trans (mx_aload_n t169 d169_138 (x := a0) rfl) <|
  Eq.trans (mx_dupr t169 d169_139) <|
  Eq.trans (mx_geti t169 d169_140 rfl fl12_257 h0) <|
  Eq.trans (mx_aload_n t169 d169_143 (x := a0) rfl) <|
  Eq.trans (mx_geti t169 d169_144 rfl fl12_36 h0) <|
  Eq.trans (mx_iadd t169 d169_147) <|
  Eq.trans (mx_puti2 t169 d169_148 fl12_257 rfl h0) <|
  Eq.trans (mx_aload_n t169 d169_151 (x := a0) rfl) <|
  (mx_dupr t169 d169_152)
theorem b169_153 {d : Nat} {S : mm_S} {a0 : Nat} {x1 : Int32} {x2 : Int32} {x3 : Int32} {x4 : Int32} {x5 : Int32} {x6 : Int32} {x7 : Int32} {x8 : Int32} {p0 : Nat} {p1 : Nat} (h0 : mm_obj S p0 12 = true) (h1 : mm_obj S p1 12 = true) (h2 : mm_obj S a0 12 = true) (h3 : (mm_R S a0 6).isSome = true) : mm_ex d 169 153 [.ref a0, .int x1, .int x2, .int x3, .int x4, .int x5, .int x6, .int x7, .int x8] [.ref p0, .ref p1] S =
    mm_ex d 169 167 [.ref a0, .int x1, .int x2, .int x3, .int x4, .int x5, .int x6, .int x7, .int x8] [.int x2, .ref (mm_rg S a0 6), .int x2, .ref (mm_rg S a0 6)] (mm_uM S p1 11 ((mm_M S p0 11) - (nI 1))) :=
  Eq.trans (mx_geti t169 d169_153 rfl fl12_40 h0) <|
  Eq.trans (mx_iconst t169 d169_156 (v := nI 1) rfl) <|
  Eq.trans (mx_isub t169 d169_157) <|
  Eq.trans (mx_puti2 t169 d169_158 fl12_40 rfl h1) <|
  Eq.trans (mx_aload_n t169 d169_161 (x := a0) rfl) <|
  Eq.trans (mx_getR t169 d169_162 rfl fl12_27 h2 h3) <|
  Eq.trans (mx_iload_n t169 d169_165 (x := x2) rfl) <|
  (mx_dup2i t169 d169_166)
theorem b169_167 {d : Nat} {S : mm_S} {a0 : Nat} {x1 : Int32} {x2 : Int32} {x3 : Int32} {x4 : Int32} {x5 : Int32} {x6 : Int32} {x7 : Int32} {x8 : Int32} {p0 : Int32} {p1 : Nat} {p2 : Int32} {p3 : Nat} (h0 : mm_inb p0 (mm_N S p1) = true) (h1 : mm_arr S p1 13 = true) (h2 : mm_obj S a0 12 = true) (h3 : mm_arr S p3 13 = true) (h4 : mm_inb p2 (mm_N S p3) = true) : mm_ex d 169 167 [.ref a0, .int x1, .int x2, .int x3, .int x4, .int x5, .int x6, .int x7, .int x8] [.int p0, .ref p1, .int p2, .ref p3] S =
    mm_ex d 169 178 [.ref a0, .int x1, .int x2, .int x3, .int x4, .int x5, .int x6, .int x7, .int x8] [.ref a0, .ref a0] (mm_uM S p3 (p2).toNatClampNeg ((mm_M S p1 (p0).toNatClampNeg) + (x3 - (mm_M S a0 10)))) :=
  Eq.trans (mx_iald t169 d169_167 h1 h0) <|
  Eq.trans (mx_iload_n t169 d169_168 (x := x3) rfl) <|
  Eq.trans (mx_aload_n t169 d169_169 (x := a0) rfl) <|
  Eq.trans (mx_geti t169 d169_170 rfl fl12_36 h2) <|
  Eq.trans (mx_isub t169 d169_173) <|
  Eq.trans (mx_iadd t169 d169_174) <|
  Eq.trans (mx_iast2 t169 d169_175 h3 h4) <|
  Eq.trans (mx_aload_n t169 d169_176 (x := a0) rfl) <|
  (mx_aload_n t169 d169_177 (x := a0) rfl)
theorem b169_178 {d : Nat} {S : mm_S} {a0 : Nat} {x1 : Int32} {x2 : Int32} {x3 : Int32} {x4 : Int32} {x5 : Int32} {x6 : Int32} {x7 : Int32} {x8 : Int32} {p0 : Nat} {p1 : Nat} (h0 : mm_obj S p0 12 = true) : mm_ex d 169 178 [.ref a0, .int x1, .int x2, .int x3, .int x4, .int x5, .int x6, .int x7, .int x8] [.ref p0, .ref p1] S =
    if ((mm_M S p0 10) + x6) ≤ (nI 999) then mm_ex d 169 196 [.ref a0, .int x1, .int x2, .int x3, .int x4, .int x5, .int x6, .int x7, .int x8] [.ref p1] S else mm_ex d 169 190 [.ref a0, .int x1, .int x2, .int x3, .int x4, .int x5, .int x6, .int x7, .int x8] [.ref p1] S :=
  Eq.trans (mx_geti t169 d169_178 rfl fl12_36 h0) <|
  Eq.trans (mx_iload t169 d169_181 (x := x6) rfl) <|
  Eq.trans (mx_iadd t169 d169_183) <|
  Eq.trans (mx_sipush t169 d169_184 (v := nI 999) rfl) <|
  (mx_cle t169 d169_187 (tgt := 196) (by decide))
theorem b169_190 {d : Nat} {S : mm_S} {a0 : Nat} {x1 : Int32} {x2 : Int32} {x3 : Int32} {x4 : Int32} {x5 : Int32} {x6 : Int32} {x7 : Int32} {x8 : Int32} {p0 : Nat} (h0 : mm_obj S p0 12 = true) : mm_ex d 169 190 [.ref a0, .int x1, .int x2, .int x3, .int x4, .int x5, .int x6, .int x7, .int x8] [.ref p0] S =
    mm_ex d 169 208 [.ref a0, .int x1, .int x2, .int x3, .int x4, .int x5, .int x6, .int x7, .int x8] [.ref a0, .ref a0] (mm_uM S p0 10 (nI 999)) :=
  Eq.trans (mx_sipush t169 d169_190 (v := nI 999) rfl) <|
  Eq.trans (mx_goto t169 d169_193 (tgt := 203) (by decide)) <|
  Eq.trans (mx_puti2 t169 d169_203 fl12_36 rfl h0) <|
  Eq.trans (mx_aload_n t169 d169_206 (x := a0) rfl) <|
  (mx_dupr t169 d169_207)
theorem b169_196 {d : Nat} {S : mm_S} {a0 : Nat} {x1 : Int32} {x2 : Int32} {x3 : Int32} {x4 : Int32} {x5 : Int32} {x6 : Int32} {x7 : Int32} {x8 : Int32} {p0 : Nat} (h0 : mm_obj S a0 12 = true) (h1 : mm_obj S p0 12 = true) : mm_ex d 169 196 [.ref a0, .int x1, .int x2, .int x3, .int x4, .int x5, .int x6, .int x7, .int x8] [.ref p0] S =
    mm_ex d 169 208 [.ref a0, .int x1, .int x2, .int x3, .int x4, .int x5, .int x6, .int x7, .int x8] [.ref a0, .ref a0] (mm_uM S p0 10 ((mm_M S a0 10) + x6)) :=
  Eq.trans (mx_aload_n t169 d169_196 (x := a0) rfl) <|
  Eq.trans (mx_geti t169 d169_197 rfl fl12_36 h0) <|
  Eq.trans (mx_iload t169 d169_200 (x := x6) rfl) <|
  Eq.trans (mx_iadd t169 d169_202) <|
  Eq.trans (mx_puti2 t169 d169_203 fl12_36 rfl h1) <|
  Eq.trans (mx_aload_n t169 d169_206 (x := a0) rfl) <|
  (mx_dupr t169 d169_207)
theorem b169_208 {d : Nat} {S : mm_S} {a0 : Nat} {x1 : Int32} {x2 : Int32} {x3 : Int32} {x4 : Int32} {x5 : Int32} {x6 : Int32} {x7 : Int32} {x8 : Int32} {p0 : Nat} {p1 : Nat} (h0 : mm_obj S p0 12 = true) (h1 : mm_obj S p1 12 = true) : mm_ex d 169 208 [.ref a0, .int x1, .int x2, .int x3, .int x4, .int x5, .int x6, .int x7, .int x8] [.ref p0, .ref p1] S =
    some (none, (mm_uM S p1 42 ((mm_M S p0 42) ||| ((nI 1) <<< (x2 &&& 31))))) :=
  Eq.trans (mx_geti t169 d169_208 rfl fl12_284 h0) <|
  Eq.trans (mx_iconst t169 d169_211 (v := nI 1) rfl) <|
  Eq.trans (mx_iload_n t169 d169_212 (x := x2) rfl) <|
  Eq.trans (mx_ishl t169 d169_213) <|
  Eq.trans (mx_ior t169 d169_214) <|
  Eq.trans (mx_puti2 t169 d169_215 fl12_284 rfl h1) <|
  Eq.trans (mx_goto t169 d169_218 (tgt := 276) (by decide)) <|
  (mx_vret t169 d169_276 rfl)
theorem b169_221 {d : Nat} {S : mm_S} {a0 : Nat} {x1 : Int32} {x2 : Int32} {x3 : Int32} {x4 : Int32} {x5 : Int32} {x6 : Int32} {x7 : Int32} {x8 : Int32} (h0 : mm_obj S a0 12 = true) (h1 : (mm_R S a0 6).isSome = true) : mm_ex d 169 221 [.ref a0, .int x1, .int x2, .int x3, .int x4, .int x5, .int x6, .int x7, .int x8] [] S =
    mm_ex d 169 238 [.ref a0, .int x1, .int x2, .int x3, .int x4, .int x5, .int x6, .int x7, .int x8] [.int x2, .ref (mm_rg S a0 6), .int x2, .ref (mm_rg S a0 6)] (mm_uM S a0 12 ((mm_M S a0 12) + x5)) :=
  Eq.trans (mx_aload_n t169 d169_221 (x := a0) rfl) <|
  Eq.trans (mx_dupr t169 d169_222) <|
  Eq.trans (mx_geti t169 d169_223 rfl fl12_257 h0) <|
  Eq.trans (mx_iload t169 d169_226 (x := x5) rfl) <|
  Eq.trans (mx_iadd t169 d169_228) <|
  Eq.trans (mx_puti2 t169 d169_229 fl12_257 rfl h0) <|
  Eq.trans (mx_aload_n t169 d169_232 (x := a0) rfl) <|
  Eq.trans (mx_getR t169 d169_233 rfl fl12_27 h0 h1) <|
  Eq.trans (mx_iload_n t169 d169_236 (x := x2) rfl) <|
  (mx_dup2i t169 d169_237)
theorem b169_238 {d : Nat} {S : mm_S} {a0 : Nat} {x1 : Int32} {x2 : Int32} {x3 : Int32} {x4 : Int32} {x5 : Int32} {x6 : Int32} {x7 : Int32} {x8 : Int32} {p0 : Int32} {p1 : Nat} {p2 : Int32} {p3 : Nat} (h0 : mm_inb p0 (mm_N S p1) = true) (h1 : mm_arr S p1 13 = true) (h2 : mm_arr S p3 13 = true) (h3 : mm_inb p2 (mm_N S p3) = true) : mm_ex d 169 238 [.ref a0, .int x1, .int x2, .int x3, .int x4, .int x5, .int x6, .int x7, .int x8] [.int p0, .ref p1, .int p2, .ref p3] S =
    if x7 = nI 0 then mm_ex d 169 252 [.ref a0, .int x1, .int x2, .int x3, .int x4, .int x5, .int x6, .int x7, .int x8] [.ref a0] (mm_uM S p3 (p2).toNatClampNeg ((mm_M S p1 (p0).toNatClampNeg) - (x4 + x5))) else mm_ex d 169 261 [.ref a0, .int x1, .int x2, .int x3, .int x4, .int x5, .int x6, .int x7, .int x8] [.ref a0] (mm_uM S p3 (p2).toNatClampNeg ((mm_M S p1 (p0).toNatClampNeg) - (x4 + x5))) :=
  Eq.trans (mx_iald t169 d169_238 h1 h0) <|
  Eq.trans (mx_iload t169 d169_239 (x := x4) rfl) <|
  Eq.trans (mx_iload t169 d169_241 (x := x5) rfl) <|
  Eq.trans (mx_iadd t169 d169_243) <|
  Eq.trans (mx_isub t169 d169_244) <|
  Eq.trans (mx_iast2 t169 d169_245 h2 h3) <|
  Eq.trans (mx_aload_n t169 d169_246 (x := a0) rfl) <|
  Eq.trans (mx_iload t169 d169_247 (x := x7) rfl) <|
  (mx_ine t169 d169_249 (tgt := 261) (by decide))
theorem b169_252 {d : Nat} {S : mm_S} {a0 : Nat} {x1 : Int32} {x2 : Int32} {x3 : Int32} {x4 : Int32} {x5 : Int32} {x6 : Int32} {x7 : Int32} {x8 : Int32} {p0 : Nat} (h0 : mm_obj S a0 12 = true) (h1 : mm_obj S p0 12 = true) : mm_ex d 169 252 [.ref a0, .int x1, .int x2, .int x3, .int x4, .int x5, .int x6, .int x7, .int x8] [.ref p0] S =
    mm_ex d 169 268 [.ref a0, .int x1, .int x2, .int x3, .int x4, .int x5, .int x6, .int x7, .int x8] [.ref a0, .ref a0] (mm_uM S p0 10 ((mm_M S a0 10) / (nI 2))) :=
  Eq.trans (mx_aload_n t169 d169_252 (x := a0) rfl) <|
  Eq.trans (mx_geti t169 d169_253 rfl fl12_36 h0) <|
  Eq.trans (mx_iconst t169 d169_256 (v := nI 2) rfl) <|
  Eq.trans (mx_idiv t169 d169_257 (by decide)) <|
  Eq.trans (mx_goto t169 d169_258 (tgt := 263) (by decide)) <|
  Eq.trans (mx_puti2 t169 d169_263 fl12_36 rfl h1) <|
  Eq.trans (mx_aload_n t169 d169_266 (x := a0) rfl) <|
  (mx_dupr t169 d169_267)
theorem b169_261 {d : Nat} {S : mm_S} {a0 : Nat} {x1 : Int32} {x2 : Int32} {x3 : Int32} {x4 : Int32} {x5 : Int32} {x6 : Int32} {x7 : Int32} {x8 : Int32} {p0 : Nat} (h0 : mm_obj S p0 12 = true) : mm_ex d 169 261 [.ref a0, .int x1, .int x2, .int x3, .int x4, .int x5, .int x6, .int x7, .int x8] [.ref p0] S =
    mm_ex d 169 268 [.ref a0, .int x1, .int x2, .int x3, .int x4, .int x5, .int x6, .int x7, .int x8] [.ref a0, .ref a0] (mm_uM S p0 10 x7) :=
  Eq.trans (mx_iload t169 d169_261 (x := x7) rfl) <|
  Eq.trans (mx_puti2 t169 d169_263 fl12_36 rfl h0) <|
  Eq.trans (mx_aload_n t169 d169_266 (x := a0) rfl) <|
  (mx_dupr t169 d169_267)
theorem b169_268 {d : Nat} {S : mm_S} {a0 : Nat} {x1 : Int32} {x2 : Int32} {x3 : Int32} {x4 : Int32} {x5 : Int32} {x6 : Int32} {x7 : Int32} {x8 : Int32} {p0 : Nat} {p1 : Nat} (h0 : mm_obj S p0 12 = true) (h1 : mm_obj S p1 12 = true) : mm_ex d 169 268 [.ref a0, .int x1, .int x2, .int x3, .int x4, .int x5, .int x6, .int x7, .int x8] [.ref p0, .ref p1] S =
    some (none, (mm_uM S p1 43 ((mm_M S p0 43) + (nI 1)))) :=
  Eq.trans (mx_geti t169 d169_268 rfl fl12_287 h0) <|
  Eq.trans (mx_iconst t169 d169_271 (v := nI 1) rfl) <|
  Eq.trans (mx_iadd t169 d169_272) <|
  Eq.trans (mx_puti2 t169 d169_273 fl12_287 rfl h1) <|
  (mx_vret t169 d169_276 rfl)
theorem e169 {d : Nat} {S : mm_S} {a0 : Nat} {x1 : Int32} : mm_cl d 169 [.ref a0, .int x1] S = mm_ex d 169 0 [.ref a0, .int x1, .null, .null, .null, .null, .null, .null, .null] [] S := mm_cl_eq t169 (Nat.le_of_ble_eq_true rfl) rfl
/-! X12_go -/
theorem d170_0 : decode prog_14_method_45_code 0 = .ok (.aload_n 0, 1) := by decide +kernel
theorem d170_1 : decode prog_14_method_45_code 1 = .ok (.invokevirtual 290, 3) := by decide +kernel
theorem d170_4 : decode prog_14_method_45_code 4 = .ok (.ifCond .ne 5, 3) := by decide +kernel
theorem d170_7 : decode prog_14_method_45_code 7 = .ok (.iconst 0, 1) := by decide +kernel
theorem d170_8 : decode prog_14_method_45_code 8 = .ok (.ireturn, 1) := by decide +kernel
theorem d170_9 : decode prog_14_method_45_code 9 = .ok (.aload_n 0, 1) := by decide +kernel
theorem d170_10 : decode prog_14_method_45_code 10 = .ok (.aload_n 0, 1) := by decide +kernel
theorem d170_11 : decode prog_14_method_45_code 11 = .ok (.getfield 33, 3) := by decide +kernel
theorem d170_14 : decode prog_14_method_45_code 14 = .ok (.iconst 0, 1) := by decide +kernel
theorem d170_15 : decode prog_14_method_45_code 15 = .ok (.iaload, 1) := by decide +kernel
theorem d170_16 : decode prog_14_method_45_code 16 = .ok (.invokevirtual 281, 3) := by decide +kernel
theorem d170_19 : decode prog_14_method_45_code 19 = .ok (.istore_n 1, 1) := by decide +kernel
theorem d170_20 : decode prog_14_method_45_code 20 = .ok (.aload_n 0, 1) := by decide +kernel
theorem d170_21 : decode prog_14_method_45_code 21 = .ok (.iload_n 1, 1) := by decide +kernel
theorem d170_22 : decode prog_14_method_45_code 22 = .ok (.invokevirtual 293, 3) := by decide +kernel
theorem d170_25 : decode prog_14_method_45_code 25 = .ok (.iload_n 1, 1) := by decide +kernel
theorem d170_26 : decode prog_14_method_45_code 26 = .ok (.ireturn, 1) := by decide +kernel
theorem b170_0 {d : Nat} {S : mm_S} {a0 : Nat} (h0 : mm_rk S a0 = 12) : mm_ex (d + 1) 170 0 [.ref a0, .null] [] S =
    mm_bd (mm_cl d 168 [.ref a0] S) (fun v S2 => mm_ex (d + 1) 170 4 [.ref a0, .null] (v.toList ++ []) S2) :=
  Eq.trans (mx_aload_n t170 d170_0 (x := a0) rfl) <|
  (mx_virt (st := []) (k := 12) t170 [] d170_1 vt12_290 rfl rfl (Nat.le_of_ble_eq_true rfl) (Nat.le_of_ble_eq_true rfl) h0)
theorem b170_4 {d : Nat} {S : mm_S} {a0 : Nat} {p0 : Int32} : mm_ex d 170 4 [.ref a0, .null] [.int p0] S =
    if p0 = nI 0 then mm_ex d 170 7 [.ref a0, .null] [] S else mm_ex d 170 9 [.ref a0, .null] [] S :=
  (mx_ine t170 d170_4 (tgt := 9) (by decide))
theorem b170_7 {d : Nat} {S : mm_S} {a0 : Nat} : mm_ex d 170 7 [.ref a0, .null] [] S =
    some (some (.int (nI 0)), S) :=
  Eq.trans (mx_iconst t170 d170_7 (v := nI 0) rfl) <|
  (mx_iret t170 d170_8 (ty := .int) rfl rfl (fun h => nomatch h))
theorem b170_9 {d : Nat} {S : mm_S} {a0 : Nat} (h0 : mm_obj S a0 12 = true) (h1 : (mm_R S a0 9).isSome = true) (h2 : mm_inb (nI 0) (mm_N S (mm_rg S a0 9)) = true) (h3 : mm_arr S (mm_rg S a0 9) 13 = true) (h4 : mm_rk S a0 = 12) : mm_ex (d + 1) 170 9 [.ref a0, .null] [] S =
    mm_bd (mm_cl d 166 [.ref a0, .int (mm_M S (mm_rg S a0 9) (nI 0).toNatClampNeg)] S) (fun v S2 => mm_ex (d + 1) 170 19 [.ref a0, .null] (v.toList ++ []) S2) :=
  Eq.trans (mx_aload_n t170 d170_9 (x := a0) rfl) <|
  Eq.trans (mx_aload_n t170 d170_10 (x := a0) rfl) <|
  Eq.trans (mx_getR t170 d170_11 rfl fl12_33 h0 h1) <|
  Eq.trans (mx_iconst t170 d170_14 (v := nI 0) rfl) <|
  Eq.trans (mx_iald t170 d170_15 h3 h2) <|
  (mx_virt (st := []) (k := 12) t170 [.int (mm_M S (mm_rg S a0 9) (nI 0).toNatClampNeg)] d170_16 vt12_281 rfl rfl (Nat.le_of_ble_eq_true rfl) (Nat.le_of_ble_eq_true rfl) h4)
theorem b170_19 {d : Nat} {S : mm_S} {a0 : Nat} {p0 : Int32} (h0 : mm_rk S a0 = 12) : mm_ex (d + 1) 170 19 [.ref a0, .null] [.int p0] S =
    mm_bd (mm_cl d 169 [.ref a0, .int p0] S) (fun v S2 => mm_ex (d + 1) 170 25 [.ref a0, .int p0] (v.toList ++ []) S2) :=
  Eq.trans (mx_istore_n t170 d170_19 (ls' := [.ref a0, .int p0]) rfl rfl) <|
  Eq.trans (mx_aload_n t170 d170_20 (x := a0) rfl) <|
  Eq.trans (mx_iload_n t170 d170_21 (x := p0) rfl) <|
  (mx_virt (st := []) (k := 12) t170 [.int p0] d170_22 vt12_293 rfl rfl (Nat.le_of_ble_eq_true rfl) (Nat.le_of_ble_eq_true rfl) h0)
theorem b170_25 {d : Nat} {S : mm_S} {a0 : Nat} {x1 : Int32} : mm_ex d 170 25 [.ref a0, .int x1] [] S =
    some (some (.int x1), S) :=
  Eq.trans (mx_iload_n t170 d170_25 (x := x1) rfl) <|
  (mx_iret t170 d170_26 (ty := .int) rfl rfl (fun h => nomatch h))
theorem e170 {d : Nat} {S : mm_S} {a0 : Nat} : mm_cl d 170 [.ref a0] S = mm_ex d 170 0 [.ref a0, .null] [] S := mm_cl_eq t170 (Nat.le_of_ble_eq_true rfl) rfl
/-! X12_keeps -/
theorem dd171_0 : (decode prog_14_method_46_code 0 = .ok (.iconst 0, 1)) ∧ (decode prog_14_method_46_code 1 = .ok (.istore_n 1, 1)) ∧ (decode prog_14_method_46_code 2 = .ok (.iload_n 1, 1)) ∧ (decode prog_14_method_46_code 3 = .ok (.bipush 6, 2)) ∧ (decode prog_14_method_46_code 5 = .ok (.if_icmp .ge 45, 3)) ∧ (decode prog_14_method_46_code 8 = .ok (.aload_n 0, 1)) ∧ (decode prog_14_method_46_code 9 = .ok (.getfield 102, 3)) ∧ (decode prog_14_method_46_code 12 = .ok (.iload_n 1, 1)) ∧ (decode prog_14_method_46_code 13 = .ok (.aload_n 0, 1)) ∧ (decode prog_14_method_46_code 14 = .ok (.getfield 33, 3)) ∧ (decode prog_14_method_46_code 17 = .ok (.iload_n 1, 1)) ∧ (decode prog_14_method_46_code 18 = .ok (.iaload, 1)) ∧ (decode prog_14_method_46_code 19 = .ok (.iastore, 1)) ∧ (decode prog_14_method_46_code 20 = .ok (.aload_n 0, 1)) ∧ (decode prog_14_method_46_code 21 = .ok (.getfield 105, 3)) ∧ (decode prog_14_method_46_code 24 = .ok (.iload_n 1, 1)) := by decide +kernel
theorem d171_0 : decode prog_14_method_46_code 0 = .ok (.iconst 0, 1) := dd171_0.1
theorem d171_1 : decode prog_14_method_46_code 1 = .ok (.istore_n 1, 1) := dd171_0.2.1
theorem d171_2 : decode prog_14_method_46_code 2 = .ok (.iload_n 1, 1) := dd171_0.2.2.1
theorem d171_3 : decode prog_14_method_46_code 3 = .ok (.bipush 6, 2) := dd171_0.2.2.2.1
theorem d171_5 : decode prog_14_method_46_code 5 = .ok (.if_icmp .ge 45, 3) := dd171_0.2.2.2.2.1
theorem d171_8 : decode prog_14_method_46_code 8 = .ok (.aload_n 0, 1) := dd171_0.2.2.2.2.2.1
theorem d171_9 : decode prog_14_method_46_code 9 = .ok (.getfield 102, 3) := dd171_0.2.2.2.2.2.2.1
theorem d171_12 : decode prog_14_method_46_code 12 = .ok (.iload_n 1, 1) := dd171_0.2.2.2.2.2.2.2.1
theorem d171_13 : decode prog_14_method_46_code 13 = .ok (.aload_n 0, 1) := dd171_0.2.2.2.2.2.2.2.2.1
theorem d171_14 : decode prog_14_method_46_code 14 = .ok (.getfield 33, 3) := dd171_0.2.2.2.2.2.2.2.2.2.1
theorem d171_17 : decode prog_14_method_46_code 17 = .ok (.iload_n 1, 1) := dd171_0.2.2.2.2.2.2.2.2.2.2.1
theorem d171_18 : decode prog_14_method_46_code 18 = .ok (.iaload, 1) := dd171_0.2.2.2.2.2.2.2.2.2.2.2.1
theorem d171_19 : decode prog_14_method_46_code 19 = .ok (.iastore, 1) := dd171_0.2.2.2.2.2.2.2.2.2.2.2.2.1
theorem d171_20 : decode prog_14_method_46_code 20 = .ok (.aload_n 0, 1) := dd171_0.2.2.2.2.2.2.2.2.2.2.2.2.2.1
theorem d171_21 : decode prog_14_method_46_code 21 = .ok (.getfield 105, 3) := dd171_0.2.2.2.2.2.2.2.2.2.2.2.2.2.2.1
theorem d171_24 : decode prog_14_method_46_code 24 = .ok (.iload_n 1, 1) := dd171_0.2.2.2.2.2.2.2.2.2.2.2.2.2.2.2
theorem dd171_25 : (decode prog_14_method_46_code 25 = .ok (.aload_n 0, 1)) ∧ (decode prog_14_method_46_code 26 = .ok (.getfield 24, 3)) ∧ (decode prog_14_method_46_code 29 = .ok (.iload_n 1, 1)) ∧ (decode prog_14_method_46_code 30 = .ok (.iaload, 1)) ∧ (decode prog_14_method_46_code 31 = .ok (.iastore, 1)) ∧ (decode prog_14_method_46_code 32 = .ok (.aload_n 0, 1)) ∧ (decode prog_14_method_46_code 33 = .ok (.getfield 108, 3)) ∧ (decode prog_14_method_46_code 36 = .ok (.iload_n 1, 1)) ∧ (decode prog_14_method_46_code 37 = .ok (.aload_n 0, 1)) ∧ (decode prog_14_method_46_code 38 = .ok (.getfield 27, 3)) ∧ (decode prog_14_method_46_code 41 = .ok (.iload_n 1, 1)) ∧ (decode prog_14_method_46_code 42 = .ok (.iaload, 1)) ∧ (decode prog_14_method_46_code 43 = .ok (.iastore, 1)) ∧ (decode prog_14_method_46_code 44 = .ok (.iinc 1 1, 3)) ∧ (decode prog_14_method_46_code 47 = .ok (.goto (-45), 3)) ∧ (decode prog_14_method_46_code 50 = .ok (.aload_n 0, 1)) := by decide +kernel
theorem d171_25 : decode prog_14_method_46_code 25 = .ok (.aload_n 0, 1) := dd171_25.1
theorem d171_26 : decode prog_14_method_46_code 26 = .ok (.getfield 24, 3) := dd171_25.2.1
theorem d171_29 : decode prog_14_method_46_code 29 = .ok (.iload_n 1, 1) := dd171_25.2.2.1
theorem d171_30 : decode prog_14_method_46_code 30 = .ok (.iaload, 1) := dd171_25.2.2.2.1
theorem d171_31 : decode prog_14_method_46_code 31 = .ok (.iastore, 1) := dd171_25.2.2.2.2.1
theorem d171_32 : decode prog_14_method_46_code 32 = .ok (.aload_n 0, 1) := dd171_25.2.2.2.2.2.1
theorem d171_33 : decode prog_14_method_46_code 33 = .ok (.getfield 108, 3) := dd171_25.2.2.2.2.2.2.1
theorem d171_36 : decode prog_14_method_46_code 36 = .ok (.iload_n 1, 1) := dd171_25.2.2.2.2.2.2.2.1
theorem d171_37 : decode prog_14_method_46_code 37 = .ok (.aload_n 0, 1) := dd171_25.2.2.2.2.2.2.2.2.1
theorem d171_38 : decode prog_14_method_46_code 38 = .ok (.getfield 27, 3) := dd171_25.2.2.2.2.2.2.2.2.2.1
theorem d171_41 : decode prog_14_method_46_code 41 = .ok (.iload_n 1, 1) := dd171_25.2.2.2.2.2.2.2.2.2.2.1
theorem d171_42 : decode prog_14_method_46_code 42 = .ok (.iaload, 1) := dd171_25.2.2.2.2.2.2.2.2.2.2.2.1
theorem d171_43 : decode prog_14_method_46_code 43 = .ok (.iastore, 1) := dd171_25.2.2.2.2.2.2.2.2.2.2.2.2.1
theorem d171_44 : decode prog_14_method_46_code 44 = .ok (.iinc 1 1, 3) := dd171_25.2.2.2.2.2.2.2.2.2.2.2.2.2.1
theorem d171_47 : decode prog_14_method_46_code 47 = .ok (.goto (-45), 3) := dd171_25.2.2.2.2.2.2.2.2.2.2.2.2.2.2.1
theorem d171_50 : decode prog_14_method_46_code 50 = .ok (.aload_n 0, 1) := dd171_25.2.2.2.2.2.2.2.2.2.2.2.2.2.2.2
theorem dd171_51 : (decode prog_14_method_46_code 51 = .ok (.aload_n 0, 1)) ∧ (decode prog_14_method_46_code 52 = .ok (.getfield 166, 3)) ∧ (decode prog_14_method_46_code 55 = .ok (.putfield 296, 3)) ∧ (decode prog_14_method_46_code 58 = .ok (.aload_n 0, 1)) ∧ (decode prog_14_method_46_code 59 = .ok (.aload_n 0, 1)) ∧ (decode prog_14_method_46_code 60 = .ok (.getfield 36, 3)) ∧ (decode prog_14_method_46_code 63 = .ok (.putfield 299, 3)) ∧ (decode prog_14_method_46_code 66 = .ok (.aload_n 0, 1)) ∧ (decode prog_14_method_46_code 67 = .ok (.aload_n 0, 1)) ∧ (decode prog_14_method_46_code 68 = .ok (.getfield 40, 3)) ∧ (decode prog_14_method_46_code 71 = .ok (.putfield 302, 3)) ∧ (decode prog_14_method_46_code 74 = .ok (.aload_n 0, 1)) ∧ (decode prog_14_method_46_code 75 = .ok (.aload_n 0, 1)) ∧ (decode prog_14_method_46_code 76 = .ok (.getfield 257, 3)) ∧ (decode prog_14_method_46_code 79 = .ok (.putfield 305, 3)) ∧ (decode prog_14_method_46_code 82 = .ok (.aload_n 0, 1)) := by decide +kernel
theorem d171_51 : decode prog_14_method_46_code 51 = .ok (.aload_n 0, 1) := dd171_51.1
theorem d171_52 : decode prog_14_method_46_code 52 = .ok (.getfield 166, 3) := dd171_51.2.1
theorem d171_55 : decode prog_14_method_46_code 55 = .ok (.putfield 296, 3) := dd171_51.2.2.1
theorem d171_58 : decode prog_14_method_46_code 58 = .ok (.aload_n 0, 1) := dd171_51.2.2.2.1
theorem d171_59 : decode prog_14_method_46_code 59 = .ok (.aload_n 0, 1) := dd171_51.2.2.2.2.1
theorem d171_60 : decode prog_14_method_46_code 60 = .ok (.getfield 36, 3) := dd171_51.2.2.2.2.2.1
theorem d171_63 : decode prog_14_method_46_code 63 = .ok (.putfield 299, 3) := dd171_51.2.2.2.2.2.2.1
theorem d171_66 : decode prog_14_method_46_code 66 = .ok (.aload_n 0, 1) := dd171_51.2.2.2.2.2.2.2.1
theorem d171_67 : decode prog_14_method_46_code 67 = .ok (.aload_n 0, 1) := dd171_51.2.2.2.2.2.2.2.2.1
theorem d171_68 : decode prog_14_method_46_code 68 = .ok (.getfield 40, 3) := dd171_51.2.2.2.2.2.2.2.2.2.1
theorem d171_71 : decode prog_14_method_46_code 71 = .ok (.putfield 302, 3) := dd171_51.2.2.2.2.2.2.2.2.2.2.1
theorem d171_74 : decode prog_14_method_46_code 74 = .ok (.aload_n 0, 1) := dd171_51.2.2.2.2.2.2.2.2.2.2.2.1
theorem d171_75 : decode prog_14_method_46_code 75 = .ok (.aload_n 0, 1) := dd171_51.2.2.2.2.2.2.2.2.2.2.2.2.1
theorem d171_76 : decode prog_14_method_46_code 76 = .ok (.getfield 257, 3) := dd171_51.2.2.2.2.2.2.2.2.2.2.2.2.2.1
theorem d171_79 : decode prog_14_method_46_code 79 = .ok (.putfield 305, 3) := dd171_51.2.2.2.2.2.2.2.2.2.2.2.2.2.2.1
theorem d171_82 : decode prog_14_method_46_code 82 = .ok (.aload_n 0, 1) := dd171_51.2.2.2.2.2.2.2.2.2.2.2.2.2.2.2
theorem dd171_83 : (decode prog_14_method_46_code 83 = .ok (.aload_n 0, 1)) ∧ (decode prog_14_method_46_code 84 = .ok (.getfield 260, 3)) ∧ (decode prog_14_method_46_code 87 = .ok (.putfield 308, 3)) ∧ (decode prog_14_method_46_code 90 = .ok (.aload_n 0, 1)) ∧ (decode prog_14_method_46_code 91 = .ok (.iconst 0, 1)) ∧ (decode prog_14_method_46_code 92 = .ok (.putfield 284, 3)) ∧ (decode prog_14_method_46_code 95 = .ok (.aload_n 0, 1)) ∧ (decode prog_14_method_46_code 96 = .ok (.iconst 0, 1)) ∧ (decode prog_14_method_46_code 97 = .ok (.putfield 287, 3)) ∧ (decode prog_14_method_46_code 100 = .ok (.return_, 1)) := by decide +kernel
theorem d171_83 : decode prog_14_method_46_code 83 = .ok (.aload_n 0, 1) := dd171_83.1
theorem d171_84 : decode prog_14_method_46_code 84 = .ok (.getfield 260, 3) := dd171_83.2.1
theorem d171_87 : decode prog_14_method_46_code 87 = .ok (.putfield 308, 3) := dd171_83.2.2.1
theorem d171_90 : decode prog_14_method_46_code 90 = .ok (.aload_n 0, 1) := dd171_83.2.2.2.1
theorem d171_91 : decode prog_14_method_46_code 91 = .ok (.iconst 0, 1) := dd171_83.2.2.2.2.1
theorem d171_92 : decode prog_14_method_46_code 92 = .ok (.putfield 284, 3) := dd171_83.2.2.2.2.2.1
theorem d171_95 : decode prog_14_method_46_code 95 = .ok (.aload_n 0, 1) := dd171_83.2.2.2.2.2.2.1
theorem d171_96 : decode prog_14_method_46_code 96 = .ok (.iconst 0, 1) := dd171_83.2.2.2.2.2.2.2.1
theorem d171_97 : decode prog_14_method_46_code 97 = .ok (.putfield 287, 3) := dd171_83.2.2.2.2.2.2.2.2.1
theorem d171_100 : decode prog_14_method_46_code 100 = .ok (.return_, 1) := dd171_83.2.2.2.2.2.2.2.2.2
theorem b171_0 {d : Nat} {S : mm_S} {a0 : Nat} : mm_ex d 171 0 [.ref a0, .null] [] S =
    mm_ex d 171 2 [.ref a0, .int (nI 0)] [] S :=
  Eq.trans (mx_iconst t171 d171_0 (v := nI 0) rfl) <|
  (mx_istore_n t171 d171_1 (ls' := [.ref a0, .int (nI 0)]) rfl rfl)
theorem b171_2 {d : Nat} {S : mm_S} {a0 : Nat} {x1 : Int32} : mm_ex d 171 2 [.ref a0, .int x1] [] S =
    if (nI 6) ≤ x1 then mm_ex d 171 50 [.ref a0, .int x1] [] S else mm_ex d 171 8 [.ref a0, .int x1] [] S :=
  Eq.trans (mx_iload_n t171 d171_2 (x := x1) rfl) <|
  Eq.trans (mx_bipush t171 d171_3 (v := nI 6) rfl) <|
  (mx_cge t171 d171_5 (tgt := 50) (by decide))
theorem b171_8 {d : Nat} {S : mm_S} {a0 : Nat} {x1 : Int32} (h0 : mm_obj S a0 12 = true) (h1 : (mm_R S a0 44).isSome = true) (h2 : (mm_R S a0 9).isSome = true) (h3 : mm_inb x1 (mm_N S (mm_rg S a0 9)) = true) (h4 : mm_arr S (mm_rg S a0 9) 13 = true) (h5 : mm_arr S (mm_rg S a0 44) 13 = true) (h6 : mm_inb x1 (mm_N S (mm_rg S a0 44)) = true) (h7 : (mm_R S a0 45).isSome = true) (h8 : (mm_R S a0 5).isSome = true) : mm_ex d 171 8 [.ref a0, .int x1] [] S =
    mm_ex d 171 30 [.ref a0, .int x1] [.int x1, .ref (mm_rg S a0 5), .int x1, .ref (mm_rg S a0 45)] (mm_uM S (mm_rg S a0 44) (x1).toNatClampNeg (mm_M S (mm_rg S a0 9) (x1).toNatClampNeg)) :=
  Eq.trans (mx_aload_n t171 d171_8 (x := a0) rfl) <|
  Eq.trans (mx_getR t171 d171_9 rfl fl12_102 h0 h1) <|
  Eq.trans (mx_iload_n t171 d171_12 (x := x1) rfl) <|
  Eq.trans (mx_aload_n t171 d171_13 (x := a0) rfl) <|
  Eq.trans (mx_getR t171 d171_14 rfl fl12_33 h0 h2) <|
  Eq.trans (mx_iload_n t171 d171_17 (x := x1) rfl) <|
  Eq.trans (mx_iald t171 d171_18 h4 h3) <|
  Eq.trans (mx_iast2 t171 d171_19 h5 h6) <|
  Eq.trans (mx_aload_n t171 d171_20 (x := a0) rfl) <|
  Eq.trans (mx_getR t171 d171_21 rfl fl12_105 h0 h7) <|
  Eq.trans (mx_iload_n t171 d171_24 (x := x1) rfl) <|
  Eq.trans (mx_aload_n t171 d171_25 (x := a0) rfl) <|
  Eq.trans (mx_getR t171 d171_26 rfl fl12_24 h0 h8) <|
  (mx_iload_n t171 d171_29 (x := x1) rfl)
theorem b171_30 {d : Nat} {S : mm_S} {a0 : Nat} {x1 : Int32} {p0 : Int32} {p1 : Nat} {p2 : Int32} {p3 : Nat} (h0 : mm_inb p0 (mm_N S p1) = true) (h1 : mm_arr S p1 13 = true) (h2 : mm_arr S p3 13 = true) (h3 : mm_inb p2 (mm_N S p3) = true) (h4 : mm_obj S a0 12 = true) (h5 : (mm_R S a0 46).isSome = true) (h6 : (mm_R S a0 6).isSome = true) : mm_ex d 171 30 [.ref a0, .int x1] [.int p0, .ref p1, .int p2, .ref p3] S =
    mm_ex d 171 42 [.ref a0, .int x1] [.int x1, .ref (mm_rg S a0 6), .int x1, .ref (mm_rg S a0 46)] (mm_uM S p3 (p2).toNatClampNeg (mm_M S p1 (p0).toNatClampNeg)) :=
  Eq.trans (mx_iald t171 d171_30 h1 h0) <|
  Eq.trans (mx_iast2 t171 d171_31 h2 h3) <|
  Eq.trans (mx_aload_n t171 d171_32 (x := a0) rfl) <|
  Eq.trans (mx_getR t171 d171_33 rfl fl12_108 h4 h5) <|
  Eq.trans (mx_iload_n t171 d171_36 (x := x1) rfl) <|
  Eq.trans (mx_aload_n t171 d171_37 (x := a0) rfl) <|
  Eq.trans (mx_getR t171 d171_38 rfl fl12_27 h4 h6) <|
  (mx_iload_n t171 d171_41 (x := x1) rfl)
theorem b171_42 {d : Nat} {S : mm_S} {a0 : Nat} {x1 : Int32} {p0 : Int32} {p1 : Nat} {p2 : Int32} {p3 : Nat} (h0 : mm_inb p0 (mm_N S p1) = true) (h1 : mm_arr S p1 13 = true) (h2 : mm_arr S p3 13 = true) (h3 : mm_inb p2 (mm_N S p3) = true) : mm_ex d 171 42 [.ref a0, .int x1] [.int p0, .ref p1, .int p2, .ref p3] S =
    mm_ex d 171 2 [.ref a0, .int (x1 + nI 1)] [] (mm_uM S p3 (p2).toNatClampNeg (mm_M S p1 (p0).toNatClampNeg)) :=
  Eq.trans (mx_iald t171 d171_42 h1 h0) <|
  Eq.trans (mx_iast2 t171 d171_43 h2 h3) <|
  Eq.trans (mx_iinc t171 d171_44 (x := x1) (v := nI 1) (ls' := [.ref a0, .int (x1 + nI 1)]) rfl rfl rfl rfl) <|
  (mx_goto t171 d171_47 (tgt := 2) (by decide))
theorem b171_50 {d : Nat} {S : mm_S} {a0 : Nat} {x1 : Int32} (h0 : mm_obj S a0 12 = true) : mm_ex d 171 50 [.ref a0, .int x1] [] S =
    mm_ex d 171 60 [.ref a0, .int x1] [.ref a0, .ref a0] (mm_uM S a0 47 (mm_M S a0 8)) :=
  Eq.trans (mx_aload_n t171 d171_50 (x := a0) rfl) <|
  Eq.trans (mx_aload_n t171 d171_51 (x := a0) rfl) <|
  Eq.trans (mx_geti t171 d171_52 rfl fl12_166 h0) <|
  Eq.trans (mx_puti2 t171 d171_55 fl12_296 rfl h0) <|
  Eq.trans (mx_aload_n t171 d171_58 (x := a0) rfl) <|
  (mx_aload_n t171 d171_59 (x := a0) rfl)
theorem b171_60 {d : Nat} {S : mm_S} {a0 : Nat} {x1 : Int32} {p0 : Nat} {p1 : Nat} (h0 : mm_obj S p0 12 = true) (h1 : mm_obj S p1 12 = true) : mm_ex d 171 60 [.ref a0, .int x1] [.ref p0, .ref p1] S =
    mm_ex d 171 68 [.ref a0, .int x1] [.ref a0, .ref a0] (mm_uM S p1 48 (mm_M S p0 10)) :=
  Eq.trans (mx_geti t171 d171_60 rfl fl12_36 h0) <|
  Eq.trans (mx_puti2 t171 d171_63 fl12_299 rfl h1) <|
  Eq.trans (mx_aload_n t171 d171_66 (x := a0) rfl) <|
  (mx_aload_n t171 d171_67 (x := a0) rfl)
theorem b171_68 {d : Nat} {S : mm_S} {a0 : Nat} {x1 : Int32} {p0 : Nat} {p1 : Nat} (h0 : mm_obj S p0 12 = true) (h1 : mm_obj S p1 12 = true) : mm_ex d 171 68 [.ref a0, .int x1] [.ref p0, .ref p1] S =
    mm_ex d 171 76 [.ref a0, .int x1] [.ref a0, .ref a0] (mm_uM S p1 49 (mm_M S p0 11)) :=
  Eq.trans (mx_geti t171 d171_68 rfl fl12_40 h0) <|
  Eq.trans (mx_puti2 t171 d171_71 fl12_302 rfl h1) <|
  Eq.trans (mx_aload_n t171 d171_74 (x := a0) rfl) <|
  (mx_aload_n t171 d171_75 (x := a0) rfl)
theorem b171_76 {d : Nat} {S : mm_S} {a0 : Nat} {x1 : Int32} {p0 : Nat} {p1 : Nat} (h0 : mm_obj S p0 12 = true) (h1 : mm_obj S p1 12 = true) : mm_ex d 171 76 [.ref a0, .int x1] [.ref p0, .ref p1] S =
    mm_ex d 171 84 [.ref a0, .int x1] [.ref a0, .ref a0] (mm_uM S p1 50 (mm_M S p0 12)) :=
  Eq.trans (mx_geti t171 d171_76 rfl fl12_257 h0) <|
  Eq.trans (mx_puti2 t171 d171_79 fl12_305 rfl h1) <|
  Eq.trans (mx_aload_n t171 d171_82 (x := a0) rfl) <|
  (mx_aload_n t171 d171_83 (x := a0) rfl)
theorem b171_84 {d : Nat} {S : mm_S} {a0 : Nat} {x1 : Int32} {p0 : Nat} {p1 : Nat} (h0 : mm_obj S p0 12 = true) (h1 : mm_obj S p1 12 = true) (h2 : mm_obj S a0 12 = true) : mm_ex d 171 84 [.ref a0, .int x1] [.ref p0, .ref p1] S =
    some (none, (mm_uM (mm_uM (mm_uM S p1 51 (mm_M S p0 13)) a0 42 (nI 0)) a0 43 (nI 0))) :=
  Eq.trans (mx_geti t171 d171_84 rfl fl12_260 h0) <|
  Eq.trans (mx_puti2 t171 d171_87 fl12_308 rfl h1) <|
  Eq.trans (mx_aload_n t171 d171_90 (x := a0) rfl) <|
  Eq.trans (mx_iconst t171 d171_91 (v := nI 0) rfl) <|
  Eq.trans (mx_puti2 t171 d171_92 fl12_284 rfl h2) <|
  Eq.trans (mx_aload_n t171 d171_95 (x := a0) rfl) <|
  Eq.trans (mx_iconst t171 d171_96 (v := nI 0) rfl) <|
  Eq.trans (mx_puti2 t171 d171_97 fl12_287 rfl h2) <|
  (mx_vret t171 d171_100 rfl)
theorem e171 {d : Nat} {S : mm_S} {a0 : Nat} : mm_cl d 171 [.ref a0] S = mm_ex d 171 0 [.ref a0, .null] [] S := mm_cl_eq t171 (Nat.le_of_ble_eq_true rfl) rfl
/-! X12_lays -/
theorem dd172_0 : (decode prog_14_method_47_code 0 = .ok (.iconst 0, 1)) ∧ (decode prog_14_method_47_code 1 = .ok (.istore_n 1, 1)) ∧ (decode prog_14_method_47_code 2 = .ok (.iload_n 1, 1)) ∧ (decode prog_14_method_47_code 3 = .ok (.bipush 6, 2)) ∧ (decode prog_14_method_47_code 5 = .ok (.if_icmp .ge 45, 3)) ∧ (decode prog_14_method_47_code 8 = .ok (.aload_n 0, 1)) ∧ (decode prog_14_method_47_code 9 = .ok (.getfield 33, 3)) ∧ (decode prog_14_method_47_code 12 = .ok (.iload_n 1, 1)) ∧ (decode prog_14_method_47_code 13 = .ok (.aload_n 0, 1)) ∧ (decode prog_14_method_47_code 14 = .ok (.getfield 102, 3)) ∧ (decode prog_14_method_47_code 17 = .ok (.iload_n 1, 1)) ∧ (decode prog_14_method_47_code 18 = .ok (.iaload, 1)) ∧ (decode prog_14_method_47_code 19 = .ok (.iastore, 1)) ∧ (decode prog_14_method_47_code 20 = .ok (.aload_n 0, 1)) ∧ (decode prog_14_method_47_code 21 = .ok (.getfield 24, 3)) ∧ (decode prog_14_method_47_code 24 = .ok (.iload_n 1, 1)) := by decide +kernel
theorem d172_0 : decode prog_14_method_47_code 0 = .ok (.iconst 0, 1) := dd172_0.1
theorem d172_1 : decode prog_14_method_47_code 1 = .ok (.istore_n 1, 1) := dd172_0.2.1
theorem d172_2 : decode prog_14_method_47_code 2 = .ok (.iload_n 1, 1) := dd172_0.2.2.1
theorem d172_3 : decode prog_14_method_47_code 3 = .ok (.bipush 6, 2) := dd172_0.2.2.2.1
theorem d172_5 : decode prog_14_method_47_code 5 = .ok (.if_icmp .ge 45, 3) := dd172_0.2.2.2.2.1
theorem d172_8 : decode prog_14_method_47_code 8 = .ok (.aload_n 0, 1) := dd172_0.2.2.2.2.2.1
theorem d172_9 : decode prog_14_method_47_code 9 = .ok (.getfield 33, 3) := dd172_0.2.2.2.2.2.2.1
theorem d172_12 : decode prog_14_method_47_code 12 = .ok (.iload_n 1, 1) := dd172_0.2.2.2.2.2.2.2.1
theorem d172_13 : decode prog_14_method_47_code 13 = .ok (.aload_n 0, 1) := dd172_0.2.2.2.2.2.2.2.2.1
theorem d172_14 : decode prog_14_method_47_code 14 = .ok (.getfield 102, 3) := dd172_0.2.2.2.2.2.2.2.2.2.1
theorem d172_17 : decode prog_14_method_47_code 17 = .ok (.iload_n 1, 1) := dd172_0.2.2.2.2.2.2.2.2.2.2.1
theorem d172_18 : decode prog_14_method_47_code 18 = .ok (.iaload, 1) := dd172_0.2.2.2.2.2.2.2.2.2.2.2.1
theorem d172_19 : decode prog_14_method_47_code 19 = .ok (.iastore, 1) := dd172_0.2.2.2.2.2.2.2.2.2.2.2.2.1
theorem d172_20 : decode prog_14_method_47_code 20 = .ok (.aload_n 0, 1) := dd172_0.2.2.2.2.2.2.2.2.2.2.2.2.2.1
theorem d172_21 : decode prog_14_method_47_code 21 = .ok (.getfield 24, 3) := dd172_0.2.2.2.2.2.2.2.2.2.2.2.2.2.2.1
theorem d172_24 : decode prog_14_method_47_code 24 = .ok (.iload_n 1, 1) := dd172_0.2.2.2.2.2.2.2.2.2.2.2.2.2.2.2
theorem dd172_25 : (decode prog_14_method_47_code 25 = .ok (.aload_n 0, 1)) ∧ (decode prog_14_method_47_code 26 = .ok (.getfield 105, 3)) ∧ (decode prog_14_method_47_code 29 = .ok (.iload_n 1, 1)) ∧ (decode prog_14_method_47_code 30 = .ok (.iaload, 1)) ∧ (decode prog_14_method_47_code 31 = .ok (.iastore, 1)) ∧ (decode prog_14_method_47_code 32 = .ok (.aload_n 0, 1)) ∧ (decode prog_14_method_47_code 33 = .ok (.getfield 27, 3)) ∧ (decode prog_14_method_47_code 36 = .ok (.iload_n 1, 1)) ∧ (decode prog_14_method_47_code 37 = .ok (.aload_n 0, 1)) ∧ (decode prog_14_method_47_code 38 = .ok (.getfield 108, 3)) ∧ (decode prog_14_method_47_code 41 = .ok (.iload_n 1, 1)) ∧ (decode prog_14_method_47_code 42 = .ok (.iaload, 1)) ∧ (decode prog_14_method_47_code 43 = .ok (.iastore, 1)) ∧ (decode prog_14_method_47_code 44 = .ok (.iinc 1 1, 3)) ∧ (decode prog_14_method_47_code 47 = .ok (.goto (-45), 3)) ∧ (decode prog_14_method_47_code 50 = .ok (.aload_n 0, 1)) := by decide +kernel
theorem d172_25 : decode prog_14_method_47_code 25 = .ok (.aload_n 0, 1) := dd172_25.1
theorem d172_26 : decode prog_14_method_47_code 26 = .ok (.getfield 105, 3) := dd172_25.2.1
theorem d172_29 : decode prog_14_method_47_code 29 = .ok (.iload_n 1, 1) := dd172_25.2.2.1
theorem d172_30 : decode prog_14_method_47_code 30 = .ok (.iaload, 1) := dd172_25.2.2.2.1
theorem d172_31 : decode prog_14_method_47_code 31 = .ok (.iastore, 1) := dd172_25.2.2.2.2.1
theorem d172_32 : decode prog_14_method_47_code 32 = .ok (.aload_n 0, 1) := dd172_25.2.2.2.2.2.1
theorem d172_33 : decode prog_14_method_47_code 33 = .ok (.getfield 27, 3) := dd172_25.2.2.2.2.2.2.1
theorem d172_36 : decode prog_14_method_47_code 36 = .ok (.iload_n 1, 1) := dd172_25.2.2.2.2.2.2.2.1
theorem d172_37 : decode prog_14_method_47_code 37 = .ok (.aload_n 0, 1) := dd172_25.2.2.2.2.2.2.2.2.1
theorem d172_38 : decode prog_14_method_47_code 38 = .ok (.getfield 108, 3) := dd172_25.2.2.2.2.2.2.2.2.2.1
theorem d172_41 : decode prog_14_method_47_code 41 = .ok (.iload_n 1, 1) := dd172_25.2.2.2.2.2.2.2.2.2.2.1
theorem d172_42 : decode prog_14_method_47_code 42 = .ok (.iaload, 1) := dd172_25.2.2.2.2.2.2.2.2.2.2.2.1
theorem d172_43 : decode prog_14_method_47_code 43 = .ok (.iastore, 1) := dd172_25.2.2.2.2.2.2.2.2.2.2.2.2.1
theorem d172_44 : decode prog_14_method_47_code 44 = .ok (.iinc 1 1, 3) := dd172_25.2.2.2.2.2.2.2.2.2.2.2.2.2.1
theorem d172_47 : decode prog_14_method_47_code 47 = .ok (.goto (-45), 3) := dd172_25.2.2.2.2.2.2.2.2.2.2.2.2.2.2.1
theorem d172_50 : decode prog_14_method_47_code 50 = .ok (.aload_n 0, 1) := dd172_25.2.2.2.2.2.2.2.2.2.2.2.2.2.2.2
theorem dd172_51 : (decode prog_14_method_47_code 51 = .ok (.aload_n 0, 1)) ∧ (decode prog_14_method_47_code 52 = .ok (.getfield 296, 3)) ∧ (decode prog_14_method_47_code 55 = .ok (.putfield 166, 3)) ∧ (decode prog_14_method_47_code 58 = .ok (.aload_n 0, 1)) ∧ (decode prog_14_method_47_code 59 = .ok (.aload_n 0, 1)) ∧ (decode prog_14_method_47_code 60 = .ok (.getfield 299, 3)) ∧ (decode prog_14_method_47_code 63 = .ok (.putfield 36, 3)) ∧ (decode prog_14_method_47_code 66 = .ok (.aload_n 0, 1)) ∧ (decode prog_14_method_47_code 67 = .ok (.aload_n 0, 1)) ∧ (decode prog_14_method_47_code 68 = .ok (.getfield 302, 3)) ∧ (decode prog_14_method_47_code 71 = .ok (.putfield 40, 3)) ∧ (decode prog_14_method_47_code 74 = .ok (.aload_n 0, 1)) ∧ (decode prog_14_method_47_code 75 = .ok (.aload_n 0, 1)) ∧ (decode prog_14_method_47_code 76 = .ok (.getfield 305, 3)) ∧ (decode prog_14_method_47_code 79 = .ok (.putfield 257, 3)) ∧ (decode prog_14_method_47_code 82 = .ok (.aload_n 0, 1)) := by decide +kernel
theorem d172_51 : decode prog_14_method_47_code 51 = .ok (.aload_n 0, 1) := dd172_51.1
theorem d172_52 : decode prog_14_method_47_code 52 = .ok (.getfield 296, 3) := dd172_51.2.1
theorem d172_55 : decode prog_14_method_47_code 55 = .ok (.putfield 166, 3) := dd172_51.2.2.1
theorem d172_58 : decode prog_14_method_47_code 58 = .ok (.aload_n 0, 1) := dd172_51.2.2.2.1
theorem d172_59 : decode prog_14_method_47_code 59 = .ok (.aload_n 0, 1) := dd172_51.2.2.2.2.1
theorem d172_60 : decode prog_14_method_47_code 60 = .ok (.getfield 299, 3) := dd172_51.2.2.2.2.2.1
theorem d172_63 : decode prog_14_method_47_code 63 = .ok (.putfield 36, 3) := dd172_51.2.2.2.2.2.2.1
theorem d172_66 : decode prog_14_method_47_code 66 = .ok (.aload_n 0, 1) := dd172_51.2.2.2.2.2.2.2.1
theorem d172_67 : decode prog_14_method_47_code 67 = .ok (.aload_n 0, 1) := dd172_51.2.2.2.2.2.2.2.2.1
theorem d172_68 : decode prog_14_method_47_code 68 = .ok (.getfield 302, 3) := dd172_51.2.2.2.2.2.2.2.2.2.1
theorem d172_71 : decode prog_14_method_47_code 71 = .ok (.putfield 40, 3) := dd172_51.2.2.2.2.2.2.2.2.2.2.1
theorem d172_74 : decode prog_14_method_47_code 74 = .ok (.aload_n 0, 1) := dd172_51.2.2.2.2.2.2.2.2.2.2.2.1
theorem d172_75 : decode prog_14_method_47_code 75 = .ok (.aload_n 0, 1) := dd172_51.2.2.2.2.2.2.2.2.2.2.2.2.1
theorem d172_76 : decode prog_14_method_47_code 76 = .ok (.getfield 305, 3) := dd172_51.2.2.2.2.2.2.2.2.2.2.2.2.2.1
theorem d172_79 : decode prog_14_method_47_code 79 = .ok (.putfield 257, 3) := dd172_51.2.2.2.2.2.2.2.2.2.2.2.2.2.2.1
theorem d172_82 : decode prog_14_method_47_code 82 = .ok (.aload_n 0, 1) := dd172_51.2.2.2.2.2.2.2.2.2.2.2.2.2.2.2
theorem dd172_83 : (decode prog_14_method_47_code 83 = .ok (.aload_n 0, 1)) ∧ (decode prog_14_method_47_code 84 = .ok (.getfield 308, 3)) ∧ (decode prog_14_method_47_code 87 = .ok (.putfield 260, 3)) ∧ (decode prog_14_method_47_code 90 = .ok (.return_, 1)) := by decide +kernel
theorem d172_83 : decode prog_14_method_47_code 83 = .ok (.aload_n 0, 1) := dd172_83.1
theorem d172_84 : decode prog_14_method_47_code 84 = .ok (.getfield 308, 3) := dd172_83.2.1
theorem d172_87 : decode prog_14_method_47_code 87 = .ok (.putfield 260, 3) := dd172_83.2.2.1
theorem d172_90 : decode prog_14_method_47_code 90 = .ok (.return_, 1) := dd172_83.2.2.2
theorem b172_0 {d : Nat} {S : mm_S} {a0 : Nat} : mm_ex d 172 0 [.ref a0, .null] [] S =
    mm_ex d 172 2 [.ref a0, .int (nI 0)] [] S :=
  Eq.trans (mx_iconst t172 d172_0 (v := nI 0) rfl) <|
  (mx_istore_n t172 d172_1 (ls' := [.ref a0, .int (nI 0)]) rfl rfl)
theorem b172_2 {d : Nat} {S : mm_S} {a0 : Nat} {x1 : Int32} : mm_ex d 172 2 [.ref a0, .int x1] [] S =
    if (nI 6) ≤ x1 then mm_ex d 172 50 [.ref a0, .int x1] [] S else mm_ex d 172 8 [.ref a0, .int x1] [] S :=
  Eq.trans (mx_iload_n t172 d172_2 (x := x1) rfl) <|
  Eq.trans (mx_bipush t172 d172_3 (v := nI 6) rfl) <|
  (mx_cge t172 d172_5 (tgt := 50) (by decide))
theorem b172_8 {d : Nat} {S : mm_S} {a0 : Nat} {x1 : Int32} (h0 : mm_obj S a0 12 = true) (h1 : (mm_R S a0 9).isSome = true) (h2 : (mm_R S a0 44).isSome = true) (h3 : mm_inb x1 (mm_N S (mm_rg S a0 44)) = true) (h4 : mm_arr S (mm_rg S a0 44) 13 = true) (h5 : mm_arr S (mm_rg S a0 9) 13 = true) (h6 : mm_inb x1 (mm_N S (mm_rg S a0 9)) = true) (h7 : (mm_R S a0 5).isSome = true) (h8 : (mm_R S a0 45).isSome = true) : mm_ex d 172 8 [.ref a0, .int x1] [] S =
    mm_ex d 172 30 [.ref a0, .int x1] [.int x1, .ref (mm_rg S a0 45), .int x1, .ref (mm_rg S a0 5)] (mm_uM S (mm_rg S a0 9) (x1).toNatClampNeg (mm_M S (mm_rg S a0 44) (x1).toNatClampNeg)) :=
  Eq.trans (mx_aload_n t172 d172_8 (x := a0) rfl) <|
  Eq.trans (mx_getR t172 d172_9 rfl fl12_33 h0 h1) <|
  Eq.trans (mx_iload_n t172 d172_12 (x := x1) rfl) <|
  Eq.trans (mx_aload_n t172 d172_13 (x := a0) rfl) <|
  Eq.trans (mx_getR t172 d172_14 rfl fl12_102 h0 h2) <|
  Eq.trans (mx_iload_n t172 d172_17 (x := x1) rfl) <|
  Eq.trans (mx_iald t172 d172_18 h4 h3) <|
  Eq.trans (mx_iast2 t172 d172_19 h5 h6) <|
  Eq.trans (mx_aload_n t172 d172_20 (x := a0) rfl) <|
  Eq.trans (mx_getR t172 d172_21 rfl fl12_24 h0 h7) <|
  Eq.trans (mx_iload_n t172 d172_24 (x := x1) rfl) <|
  Eq.trans (mx_aload_n t172 d172_25 (x := a0) rfl) <|
  Eq.trans (mx_getR t172 d172_26 rfl fl12_105 h0 h8) <|
  (mx_iload_n t172 d172_29 (x := x1) rfl)
theorem b172_30 {d : Nat} {S : mm_S} {a0 : Nat} {x1 : Int32} {p0 : Int32} {p1 : Nat} {p2 : Int32} {p3 : Nat} (h0 : mm_inb p0 (mm_N S p1) = true) (h1 : mm_arr S p1 13 = true) (h2 : mm_arr S p3 13 = true) (h3 : mm_inb p2 (mm_N S p3) = true) (h4 : mm_obj S a0 12 = true) (h5 : (mm_R S a0 6).isSome = true) (h6 : (mm_R S a0 46).isSome = true) : mm_ex d 172 30 [.ref a0, .int x1] [.int p0, .ref p1, .int p2, .ref p3] S =
    mm_ex d 172 42 [.ref a0, .int x1] [.int x1, .ref (mm_rg S a0 46), .int x1, .ref (mm_rg S a0 6)] (mm_uM S p3 (p2).toNatClampNeg (mm_M S p1 (p0).toNatClampNeg)) :=
  Eq.trans (mx_iald t172 d172_30 h1 h0) <|
  Eq.trans (mx_iast2 t172 d172_31 h2 h3) <|
  Eq.trans (mx_aload_n t172 d172_32 (x := a0) rfl) <|
  Eq.trans (mx_getR t172 d172_33 rfl fl12_27 h4 h5) <|
  Eq.trans (mx_iload_n t172 d172_36 (x := x1) rfl) <|
  Eq.trans (mx_aload_n t172 d172_37 (x := a0) rfl) <|
  Eq.trans (mx_getR t172 d172_38 rfl fl12_108 h4 h6) <|
  (mx_iload_n t172 d172_41 (x := x1) rfl)
theorem b172_42 {d : Nat} {S : mm_S} {a0 : Nat} {x1 : Int32} {p0 : Int32} {p1 : Nat} {p2 : Int32} {p3 : Nat} (h0 : mm_inb p0 (mm_N S p1) = true) (h1 : mm_arr S p1 13 = true) (h2 : mm_arr S p3 13 = true) (h3 : mm_inb p2 (mm_N S p3) = true) : mm_ex d 172 42 [.ref a0, .int x1] [.int p0, .ref p1, .int p2, .ref p3] S =
    mm_ex d 172 2 [.ref a0, .int (x1 + nI 1)] [] (mm_uM S p3 (p2).toNatClampNeg (mm_M S p1 (p0).toNatClampNeg)) :=
  Eq.trans (mx_iald t172 d172_42 h1 h0) <|
  Eq.trans (mx_iast2 t172 d172_43 h2 h3) <|
  Eq.trans (mx_iinc t172 d172_44 (x := x1) (v := nI 1) (ls' := [.ref a0, .int (x1 + nI 1)]) rfl rfl rfl rfl) <|
  (mx_goto t172 d172_47 (tgt := 2) (by decide))
theorem b172_50 {d : Nat} {S : mm_S} {a0 : Nat} {x1 : Int32} (h0 : mm_obj S a0 12 = true) : mm_ex d 172 50 [.ref a0, .int x1] [] S =
    mm_ex d 172 60 [.ref a0, .int x1] [.ref a0, .ref a0] (mm_uM S a0 8 (mm_M S a0 47)) :=
  Eq.trans (mx_aload_n t172 d172_50 (x := a0) rfl) <|
  Eq.trans (mx_aload_n t172 d172_51 (x := a0) rfl) <|
  Eq.trans (mx_geti t172 d172_52 rfl fl12_296 h0) <|
  Eq.trans (mx_puti2 t172 d172_55 fl12_166 rfl h0) <|
  Eq.trans (mx_aload_n t172 d172_58 (x := a0) rfl) <|
  (mx_aload_n t172 d172_59 (x := a0) rfl)
theorem b172_60 {d : Nat} {S : mm_S} {a0 : Nat} {x1 : Int32} {p0 : Nat} {p1 : Nat} (h0 : mm_obj S p0 12 = true) (h1 : mm_obj S p1 12 = true) : mm_ex d 172 60 [.ref a0, .int x1] [.ref p0, .ref p1] S =
    mm_ex d 172 68 [.ref a0, .int x1] [.ref a0, .ref a0] (mm_uM S p1 10 (mm_M S p0 48)) :=
  Eq.trans (mx_geti t172 d172_60 rfl fl12_299 h0) <|
  Eq.trans (mx_puti2 t172 d172_63 fl12_36 rfl h1) <|
  Eq.trans (mx_aload_n t172 d172_66 (x := a0) rfl) <|
  (mx_aload_n t172 d172_67 (x := a0) rfl)
theorem b172_68 {d : Nat} {S : mm_S} {a0 : Nat} {x1 : Int32} {p0 : Nat} {p1 : Nat} (h0 : mm_obj S p0 12 = true) (h1 : mm_obj S p1 12 = true) : mm_ex d 172 68 [.ref a0, .int x1] [.ref p0, .ref p1] S =
    mm_ex d 172 76 [.ref a0, .int x1] [.ref a0, .ref a0] (mm_uM S p1 11 (mm_M S p0 49)) :=
  Eq.trans (mx_geti t172 d172_68 rfl fl12_302 h0) <|
  Eq.trans (mx_puti2 t172 d172_71 fl12_40 rfl h1) <|
  Eq.trans (mx_aload_n t172 d172_74 (x := a0) rfl) <|
  (mx_aload_n t172 d172_75 (x := a0) rfl)
theorem b172_76 {d : Nat} {S : mm_S} {a0 : Nat} {x1 : Int32} {p0 : Nat} {p1 : Nat} (h0 : mm_obj S p0 12 = true) (h1 : mm_obj S p1 12 = true) : mm_ex d 172 76 [.ref a0, .int x1] [.ref p0, .ref p1] S =
    mm_ex d 172 84 [.ref a0, .int x1] [.ref a0, .ref a0] (mm_uM S p1 12 (mm_M S p0 50)) :=
  Eq.trans (mx_geti t172 d172_76 rfl fl12_305 h0) <|
  Eq.trans (mx_puti2 t172 d172_79 fl12_257 rfl h1) <|
  Eq.trans (mx_aload_n t172 d172_82 (x := a0) rfl) <|
  (mx_aload_n t172 d172_83 (x := a0) rfl)
theorem b172_84 {d : Nat} {S : mm_S} {a0 : Nat} {x1 : Int32} {p0 : Nat} {p1 : Nat} (h0 : mm_obj S p0 12 = true) (h1 : mm_obj S p1 12 = true) : mm_ex d 172 84 [.ref a0, .int x1] [.ref p0, .ref p1] S =
    some (none, (mm_uM S p1 13 (mm_M S p0 51))) :=
  Eq.trans (mx_geti t172 d172_84 rfl fl12_308 h0) <|
  Eq.trans (mx_puti2 t172 d172_87 fl12_260 rfl h1) <|
  (mx_vret t172 d172_90 rfl)
theorem e172 {d : Nat} {S : mm_S} {a0 : Nat} : mm_cl d 172 [.ref a0] S = mm_ex d 172 0 [.ref a0, .null] [] S := mm_cl_eq t172 (Nat.le_of_ble_eq_true rfl) rfl
/-! X12_toTheEnd -/
theorem d173_0 : decode prog_14_method_48_code 0 = .ok (.aload_n 0, 1) := by decide +kernel
theorem d173_1 : decode prog_14_method_48_code 1 = .ok (.invokevirtual 290, 3) := by decide +kernel
theorem d173_4 : decode prog_14_method_48_code 4 = .ok (.ifCond .eq 20, 3) := by decide +kernel
theorem d173_7 : decode prog_14_method_48_code 7 = .ok (.aload_n 0, 1) := by decide +kernel
theorem d173_8 : decode prog_14_method_48_code 8 = .ok (.aload_n 0, 1) := by decide +kernel
theorem d173_9 : decode prog_14_method_48_code 9 = .ok (.aload_n 0, 1) := by decide +kernel
theorem d173_10 : decode prog_14_method_48_code 10 = .ok (.getfield 33, 3) := by decide +kernel
theorem d173_13 : decode prog_14_method_48_code 13 = .ok (.iconst 0, 1) := by decide +kernel
theorem d173_14 : decode prog_14_method_48_code 14 = .ok (.iaload, 1) := by decide +kernel
theorem d173_15 : decode prog_14_method_48_code 15 = .ok (.invokevirtual 281, 3) := by decide +kernel
theorem d173_18 : decode prog_14_method_48_code 18 = .ok (.invokevirtual 293, 3) := by decide +kernel
theorem d173_21 : decode prog_14_method_48_code 21 = .ok (.goto (-21), 3) := by decide +kernel
theorem d173_24 : decode prog_14_method_48_code 24 = .ok (.return_, 1) := by decide +kernel
theorem b173_0 {d : Nat} {S : mm_S} {a0 : Nat} (h0 : mm_rk S a0 = 12) : mm_ex (d + 1) 173 0 [.ref a0] [] S =
    mm_bd (mm_cl d 168 [.ref a0] S) (fun v S2 => mm_ex (d + 1) 173 4 [.ref a0] (v.toList ++ []) S2) :=
  Eq.trans (mx_aload_n t173 d173_0 (x := a0) rfl) <|
  (mx_virt (st := []) (k := 12) t173 [] d173_1 vt12_290 rfl rfl (Nat.le_of_ble_eq_true rfl) (Nat.le_of_ble_eq_true rfl) h0)
theorem b173_4 {d : Nat} {S : mm_S} {a0 : Nat} {p0 : Int32} : mm_ex d 173 4 [.ref a0] [.int p0] S =
    if p0 = nI 0 then mm_ex d 173 24 [.ref a0] [] S else mm_ex d 173 7 [.ref a0] [] S :=
  (mx_ieq t173 d173_4 (tgt := 24) (by decide))
theorem b173_7 {d : Nat} {S : mm_S} {a0 : Nat} (h0 : mm_obj S a0 12 = true) (h1 : (mm_R S a0 9).isSome = true) (h2 : mm_inb (nI 0) (mm_N S (mm_rg S a0 9)) = true) (h3 : mm_arr S (mm_rg S a0 9) 13 = true) (h4 : mm_rk S a0 = 12) : mm_ex (d + 1) 173 7 [.ref a0] [] S =
    mm_bd (mm_cl d 166 [.ref a0, .int (mm_M S (mm_rg S a0 9) (nI 0).toNatClampNeg)] S) (fun v S2 => mm_ex (d + 1) 173 18 [.ref a0] (v.toList ++ [.ref a0]) S2) :=
  Eq.trans (mx_aload_n t173 d173_7 (x := a0) rfl) <|
  Eq.trans (mx_aload_n t173 d173_8 (x := a0) rfl) <|
  Eq.trans (mx_aload_n t173 d173_9 (x := a0) rfl) <|
  Eq.trans (mx_getR t173 d173_10 rfl fl12_33 h0 h1) <|
  Eq.trans (mx_iconst t173 d173_13 (v := nI 0) rfl) <|
  Eq.trans (mx_iald t173 d173_14 h3 h2) <|
  (mx_virt (st := [.ref a0]) (k := 12) t173 [.int (mm_M S (mm_rg S a0 9) (nI 0).toNatClampNeg)] d173_15 vt12_281 rfl rfl (Nat.le_of_ble_eq_true rfl) (Nat.le_of_ble_eq_true rfl) h4)
theorem b173_18 {d : Nat} {S : mm_S} {a0 : Nat} {p0 : Int32} {p1 : Nat} (h0 : mm_rk S p1 = 12) : mm_ex (d + 1) 173 18 [.ref a0] [.int p0, .ref p1] S =
    mm_bd (mm_cl d 169 [.ref p1, .int p0] S) (fun v S2 => mm_ex (d + 1) 173 21 [.ref a0] (v.toList ++ []) S2) :=
  (mx_virt (st := []) (k := 12) t173 [.int p0] d173_18 vt12_293 rfl rfl (Nat.le_of_ble_eq_true rfl) (Nat.le_of_ble_eq_true rfl) h0)
theorem b173_21 {d : Nat} {S : mm_S} {a0 : Nat} : mm_ex d 173 21 [.ref a0] [] S =
    mm_ex d 173 0 [.ref a0] [] S :=
  (mx_goto t173 d173_21 (tgt := 0) (by decide))
theorem b173_24 {d : Nat} {S : mm_S} {a0 : Nat} : mm_ex d 173 24 [.ref a0] [] S =
    some (none, S) :=
  (mx_vret t173 d173_24 rfl)
theorem e173 {d : Nat} {S : mm_S} {a0 : Nat} : mm_cl d 173 [.ref a0] S = mm_ex d 173 0 [.ref a0] [] S := mm_cl_eq t173 (Nat.le_of_ble_eq_true rfl) rfl
/-! X12_allGained -/
theorem d174_0 : decode prog_14_method_49_code 0 = .ok (.iconst 0, 1) := by decide +kernel
theorem d174_1 : decode prog_14_method_49_code 1 = .ok (.istore_n 1, 1) := by decide +kernel
theorem d174_2 : decode prog_14_method_49_code 2 = .ok (.iconst 0, 1) := by decide +kernel
theorem d174_3 : decode prog_14_method_49_code 3 = .ok (.istore_n 2, 1) := by decide +kernel
theorem d174_4 : decode prog_14_method_49_code 4 = .ok (.iload_n 2, 1) := by decide +kernel
theorem d174_5 : decode prog_14_method_49_code 5 = .ok (.aload_n 0, 1) := by decide +kernel
theorem d174_6 : decode prog_14_method_49_code 6 = .ok (.getfield 159, 3) := by decide +kernel
theorem d174_9 : decode prog_14_method_49_code 9 = .ok (.if_icmp .ge 18, 3) := by decide +kernel
theorem d174_12 : decode prog_14_method_49_code 12 = .ok (.iload_n 1, 1) := by decide +kernel
theorem d174_13 : decode prog_14_method_49_code 13 = .ok (.aload_n 0, 1) := by decide +kernel
theorem d174_14 : decode prog_14_method_49_code 14 = .ok (.getfield 27, 3) := by decide +kernel
theorem d174_17 : decode prog_14_method_49_code 17 = .ok (.iload_n 2, 1) := by decide +kernel
theorem d174_18 : decode prog_14_method_49_code 18 = .ok (.iaload, 1) := by decide +kernel
theorem d174_19 : decode prog_14_method_49_code 19 = .ok (.iadd, 1) := by decide +kernel
theorem d174_20 : decode prog_14_method_49_code 20 = .ok (.istore_n 1, 1) := by decide +kernel
theorem d174_21 : decode prog_14_method_49_code 21 = .ok (.iinc 2 1, 3) := by decide +kernel
theorem d174_24 : decode prog_14_method_49_code 24 = .ok (.goto (-20), 3) := by decide +kernel
theorem d174_27 : decode prog_14_method_49_code 27 = .ok (.iload_n 1, 1) := by decide +kernel
theorem d174_28 : decode prog_14_method_49_code 28 = .ok (.ireturn, 1) := by decide +kernel
theorem b174_0 {d : Nat} {S : mm_S} {a0 : Nat} : mm_ex d 174 0 [.ref a0, .null, .null] [] S =
    mm_ex d 174 4 [.ref a0, .int (nI 0), .int (nI 0)] [] S :=
  Eq.trans (mx_iconst t174 d174_0 (v := nI 0) rfl) <|
  Eq.trans (mx_istore_n t174 d174_1 (ls' := [.ref a0, .int (nI 0), .null]) rfl rfl) <|
  Eq.trans (mx_iconst t174 d174_2 (v := nI 0) rfl) <|
  (mx_istore_n t174 d174_3 (ls' := [.ref a0, .int (nI 0), .int (nI 0)]) rfl rfl)
theorem b174_4 {d : Nat} {S : mm_S} {a0 : Nat} {x1 : Int32} {x2 : Int32} (h0 : mm_obj S a0 12 = true) : mm_ex d 174 4 [.ref a0, .int x1, .int x2] [] S =
    if (mm_M S a0 0) ≤ x2 then mm_ex d 174 27 [.ref a0, .int x1, .int x2] [] S else mm_ex d 174 12 [.ref a0, .int x1, .int x2] [] S :=
  Eq.trans (mx_iload_n t174 d174_4 (x := x2) rfl) <|
  Eq.trans (mx_aload_n t174 d174_5 (x := a0) rfl) <|
  Eq.trans (mx_geti t174 d174_6 rfl fl12_159 h0) <|
  (mx_cge t174 d174_9 (tgt := 27) (by decide))
theorem b174_12 {d : Nat} {S : mm_S} {a0 : Nat} {x1 : Int32} {x2 : Int32} (h0 : mm_obj S a0 12 = true) (h1 : (mm_R S a0 6).isSome = true) (h2 : mm_inb x2 (mm_N S (mm_rg S a0 6)) = true) (h3 : mm_arr S (mm_rg S a0 6) 13 = true) : mm_ex d 174 12 [.ref a0, .int x1, .int x2] [] S =
    mm_ex d 174 4 [.ref a0, .int (x1 + (mm_M S (mm_rg S a0 6) (x2).toNatClampNeg)), .int (x2 + nI 1)] [] S :=
  Eq.trans (mx_iload_n t174 d174_12 (x := x1) rfl) <|
  Eq.trans (mx_aload_n t174 d174_13 (x := a0) rfl) <|
  Eq.trans (mx_getR t174 d174_14 rfl fl12_27 h0 h1) <|
  Eq.trans (mx_iload_n t174 d174_17 (x := x2) rfl) <|
  Eq.trans (mx_iald t174 d174_18 h3 h2) <|
  Eq.trans (mx_iadd t174 d174_19) <|
  Eq.trans (mx_istore_n t174 d174_20 (ls' := [.ref a0, .int (x1 + (mm_M S (mm_rg S a0 6) (x2).toNatClampNeg)), .int x2]) rfl rfl) <|
  Eq.trans (mx_iinc t174 d174_21 (x := x2) (v := nI 1) (ls' := [.ref a0, .int (x1 + (mm_M S (mm_rg S a0 6) (x2).toNatClampNeg)), .int (x2 + nI 1)]) rfl rfl rfl rfl) <|
  (mx_goto t174 d174_24 (tgt := 4) (by decide))
theorem b174_27 {d : Nat} {S : mm_S} {a0 : Nat} {x1 : Int32} {x2 : Int32} : mm_ex d 174 27 [.ref a0, .int x1, .int x2] [] S =
    some (some (.int x1), S) :=
  Eq.trans (mx_iload_n t174 d174_27 (x := x1) rfl) <|
  (mx_iret t174 d174_28 (ty := .int) rfl rfl (fun h => nomatch h))
theorem e174 {d : Nat} {S : mm_S} {a0 : Nat} : mm_cl d 174 [.ref a0] S = mm_ex d 174 0 [.ref a0, .null, .null] [] S := mm_cl_eq t174 (Nat.le_of_ble_eq_true rfl) rfl
/-! X12_run -/
theorem dd175_0 : (decode prog_14_method_50_code 0 = .ok (.aload_n 0, 1)) ∧ (decode prog_14_method_50_code 1 = .ok (.iload_n 1, 1)) ∧ (decode prog_14_method_50_code 2 = .ok (.invokevirtual 169, 3)) ∧ (decode prog_14_method_50_code 5 = .ok (.ifCond .ne 14, 3)) ∧ (decode prog_14_method_50_code 8 = .ok (.iload_n 1, 1)) ∧ (decode prog_14_method_50_code 9 = .ok (.bipush 10, 2)) ∧ (decode prog_14_method_50_code 11 = .ok (.bipush 13, 2)) ∧ (decode prog_14_method_50_code 13 = .ok (.invokestatic 162, 3)) ∧ (decode prog_14_method_50_code 16 = .ok (.ifCond .eq 7, 3)) ∧ (decode prog_14_method_50_code 19 = .ok (.iconst 1, 1)) ∧ (decode prog_14_method_50_code 20 = .ok (.goto 4, 3)) ∧ (decode prog_14_method_50_code 23 = .ok (.iconst 0, 1)) ∧ (decode prog_14_method_50_code 24 = .ok (.istore_n 2, 1)) ∧ (decode prog_14_method_50_code 25 = .ok (.iload_n 2, 1)) ∧ (decode prog_14_method_50_code 26 = .ok (.ifCond .ne 6, 3)) ∧ (decode prog_14_method_50_code 29 = .ok (.ldc 183, 2)) := by decide +kernel
theorem d175_0 : decode prog_14_method_50_code 0 = .ok (.aload_n 0, 1) := dd175_0.1
theorem d175_1 : decode prog_14_method_50_code 1 = .ok (.iload_n 1, 1) := dd175_0.2.1
theorem d175_2 : decode prog_14_method_50_code 2 = .ok (.invokevirtual 169, 3) := dd175_0.2.2.1
theorem d175_5 : decode prog_14_method_50_code 5 = .ok (.ifCond .ne 14, 3) := dd175_0.2.2.2.1
theorem d175_8 : decode prog_14_method_50_code 8 = .ok (.iload_n 1, 1) := dd175_0.2.2.2.2.1
theorem d175_9 : decode prog_14_method_50_code 9 = .ok (.bipush 10, 2) := dd175_0.2.2.2.2.2.1
theorem d175_11 : decode prog_14_method_50_code 11 = .ok (.bipush 13, 2) := dd175_0.2.2.2.2.2.2.1
theorem d175_13 : decode prog_14_method_50_code 13 = .ok (.invokestatic 162, 3) := dd175_0.2.2.2.2.2.2.2.1
theorem d175_16 : decode prog_14_method_50_code 16 = .ok (.ifCond .eq 7, 3) := dd175_0.2.2.2.2.2.2.2.2.1
theorem d175_19 : decode prog_14_method_50_code 19 = .ok (.iconst 1, 1) := dd175_0.2.2.2.2.2.2.2.2.2.1
theorem d175_20 : decode prog_14_method_50_code 20 = .ok (.goto 4, 3) := dd175_0.2.2.2.2.2.2.2.2.2.2.1
theorem d175_23 : decode prog_14_method_50_code 23 = .ok (.iconst 0, 1) := dd175_0.2.2.2.2.2.2.2.2.2.2.2.1
theorem d175_24 : decode prog_14_method_50_code 24 = .ok (.istore_n 2, 1) := dd175_0.2.2.2.2.2.2.2.2.2.2.2.2.1
theorem d175_25 : decode prog_14_method_50_code 25 = .ok (.iload_n 2, 1) := dd175_0.2.2.2.2.2.2.2.2.2.2.2.2.2.1
theorem d175_26 : decode prog_14_method_50_code 26 = .ok (.ifCond .ne 6, 3) := dd175_0.2.2.2.2.2.2.2.2.2.2.2.2.2.2.1
theorem d175_29 : decode prog_14_method_50_code 29 = .ok (.ldc 183, 2) := dd175_0.2.2.2.2.2.2.2.2.2.2.2.2.2.2.2
theorem dd175_31 : (decode prog_14_method_50_code 31 = .ok (.ireturn, 1)) ∧ (decode prog_14_method_50_code 32 = .ok (.aload_n 0, 1)) ∧ (decode prog_14_method_50_code 33 = .ok (.invokevirtual 311, 3)) ∧ (decode prog_14_method_50_code 36 = .ok (.aload_n 0, 1)) ∧ (decode prog_14_method_50_code 37 = .ok (.invokevirtual 314, 3)) ∧ (decode prog_14_method_50_code 40 = .ok (.iload_n 1, 1)) ∧ (decode prog_14_method_50_code 41 = .ok (.bipush 10, 2)) ∧ (decode prog_14_method_50_code 43 = .ok (.if_icmp .ge 12, 3)) ∧ (decode prog_14_method_50_code 46 = .ok (.aload_n 0, 1)) ∧ (decode prog_14_method_50_code 47 = .ok (.getfield 27, 3)) ∧ (decode prog_14_method_50_code 50 = .ok (.iload_n 1, 1)) ∧ (decode prog_14_method_50_code 51 = .ok (.iaload, 1)) ∧ (decode prog_14_method_50_code 52 = .ok (.goto 46, 3)) ∧ (decode prog_14_method_50_code 55 = .ok (.iload_n 1, 1)) ∧ (decode prog_14_method_50_code 56 = .ok (.bipush 10, 2)) ∧ (decode prog_14_method_50_code 58 = .ok (.if_icmp .ne 10, 3)) := by decide +kernel
theorem d175_31 : decode prog_14_method_50_code 31 = .ok (.ireturn, 1) := dd175_31.1
theorem d175_32 : decode prog_14_method_50_code 32 = .ok (.aload_n 0, 1) := dd175_31.2.1
theorem d175_33 : decode prog_14_method_50_code 33 = .ok (.invokevirtual 311, 3) := dd175_31.2.2.1
theorem d175_36 : decode prog_14_method_50_code 36 = .ok (.aload_n 0, 1) := dd175_31.2.2.2.1
theorem d175_37 : decode prog_14_method_50_code 37 = .ok (.invokevirtual 314, 3) := dd175_31.2.2.2.2.1
theorem d175_40 : decode prog_14_method_50_code 40 = .ok (.iload_n 1, 1) := dd175_31.2.2.2.2.2.1
theorem d175_41 : decode prog_14_method_50_code 41 = .ok (.bipush 10, 2) := dd175_31.2.2.2.2.2.2.1
theorem d175_43 : decode prog_14_method_50_code 43 = .ok (.if_icmp .ge 12, 3) := dd175_31.2.2.2.2.2.2.2.1
theorem d175_46 : decode prog_14_method_50_code 46 = .ok (.aload_n 0, 1) := dd175_31.2.2.2.2.2.2.2.2.1
theorem d175_47 : decode prog_14_method_50_code 47 = .ok (.getfield 27, 3) := dd175_31.2.2.2.2.2.2.2.2.2.1
theorem d175_50 : decode prog_14_method_50_code 50 = .ok (.iload_n 1, 1) := dd175_31.2.2.2.2.2.2.2.2.2.2.1
theorem d175_51 : decode prog_14_method_50_code 51 = .ok (.iaload, 1) := dd175_31.2.2.2.2.2.2.2.2.2.2.2.1
theorem d175_52 : decode prog_14_method_50_code 52 = .ok (.goto 46, 3) := dd175_31.2.2.2.2.2.2.2.2.2.2.2.2.1
theorem d175_55 : decode prog_14_method_50_code 55 = .ok (.iload_n 1, 1) := dd175_31.2.2.2.2.2.2.2.2.2.2.2.2.2.1
theorem d175_56 : decode prog_14_method_50_code 56 = .ok (.bipush 10, 2) := dd175_31.2.2.2.2.2.2.2.2.2.2.2.2.2.2.1
theorem d175_58 : decode prog_14_method_50_code 58 = .ok (.if_icmp .ne 10, 3) := dd175_31.2.2.2.2.2.2.2.2.2.2.2.2.2.2.2
theorem dd175_61 : (decode prog_14_method_50_code 61 = .ok (.aload_n 0, 1)) ∧ (decode prog_14_method_50_code 62 = .ok (.getfield 257, 3)) ∧ (decode prog_14_method_50_code 65 = .ok (.goto 33, 3)) ∧ (decode prog_14_method_50_code 68 = .ok (.iload_n 1, 1)) ∧ (decode prog_14_method_50_code 69 = .ok (.bipush 11, 2)) ∧ (decode prog_14_method_50_code 71 = .ok (.if_icmp .ne 10, 3)) ∧ (decode prog_14_method_50_code 74 = .ok (.aload_n 0, 1)) ∧ (decode prog_14_method_50_code 75 = .ok (.getfield 36, 3)) ∧ (decode prog_14_method_50_code 78 = .ok (.goto 20, 3)) ∧ (decode prog_14_method_50_code 81 = .ok (.iload_n 1, 1)) ∧ (decode prog_14_method_50_code 82 = .ok (.bipush 12, 2)) ∧ (decode prog_14_method_50_code 84 = .ok (.if_icmp .ne 10, 3)) ∧ (decode prog_14_method_50_code 87 = .ok (.aload_n 0, 1)) ∧ (decode prog_14_method_50_code 88 = .ok (.getfield 260, 3)) ∧ (decode prog_14_method_50_code 91 = .ok (.goto 7, 3)) ∧ (decode prog_14_method_50_code 94 = .ok (.aload_n 0, 1)) := by decide +kernel
theorem d175_61 : decode prog_14_method_50_code 61 = .ok (.aload_n 0, 1) := dd175_61.1
theorem d175_62 : decode prog_14_method_50_code 62 = .ok (.getfield 257, 3) := dd175_61.2.1
theorem d175_65 : decode prog_14_method_50_code 65 = .ok (.goto 33, 3) := dd175_61.2.2.1
theorem d175_68 : decode prog_14_method_50_code 68 = .ok (.iload_n 1, 1) := dd175_61.2.2.2.1
theorem d175_69 : decode prog_14_method_50_code 69 = .ok (.bipush 11, 2) := dd175_61.2.2.2.2.1
theorem d175_71 : decode prog_14_method_50_code 71 = .ok (.if_icmp .ne 10, 3) := dd175_61.2.2.2.2.2.1
theorem d175_74 : decode prog_14_method_50_code 74 = .ok (.aload_n 0, 1) := dd175_61.2.2.2.2.2.2.1
theorem d175_75 : decode prog_14_method_50_code 75 = .ok (.getfield 36, 3) := dd175_61.2.2.2.2.2.2.2.1
theorem d175_78 : decode prog_14_method_50_code 78 = .ok (.goto 20, 3) := dd175_61.2.2.2.2.2.2.2.2.1
theorem d175_81 : decode prog_14_method_50_code 81 = .ok (.iload_n 1, 1) := dd175_61.2.2.2.2.2.2.2.2.2.1
theorem d175_82 : decode prog_14_method_50_code 82 = .ok (.bipush 12, 2) := dd175_61.2.2.2.2.2.2.2.2.2.2.1
theorem d175_84 : decode prog_14_method_50_code 84 = .ok (.if_icmp .ne 10, 3) := dd175_61.2.2.2.2.2.2.2.2.2.2.2.1
theorem d175_87 : decode prog_14_method_50_code 87 = .ok (.aload_n 0, 1) := dd175_61.2.2.2.2.2.2.2.2.2.2.2.2.1
theorem d175_88 : decode prog_14_method_50_code 88 = .ok (.getfield 260, 3) := dd175_61.2.2.2.2.2.2.2.2.2.2.2.2.2.1
theorem d175_91 : decode prog_14_method_50_code 91 = .ok (.goto 7, 3) := dd175_61.2.2.2.2.2.2.2.2.2.2.2.2.2.2.1
theorem d175_94 : decode prog_14_method_50_code 94 = .ok (.aload_n 0, 1) := dd175_61.2.2.2.2.2.2.2.2.2.2.2.2.2.2.2
theorem dd175_95 : (decode prog_14_method_50_code 95 = .ok (.getfield 284, 3)) ∧ (decode prog_14_method_50_code 98 = .ok (.istore_n 3, 1)) ∧ (decode prog_14_method_50_code 99 = .ok (.aload_n 0, 1)) ∧ (decode prog_14_method_50_code 100 = .ok (.invokevirtual 317, 3)) ∧ (decode prog_14_method_50_code 103 = .ok (.iload_n 3, 1)) ∧ (decode prog_14_method_50_code 104 = .ok (.ireturn, 1)) := by decide +kernel
theorem d175_95 : decode prog_14_method_50_code 95 = .ok (.getfield 284, 3) := dd175_95.1
theorem d175_98 : decode prog_14_method_50_code 98 = .ok (.istore_n 3, 1) := dd175_95.2.1
theorem d175_99 : decode prog_14_method_50_code 99 = .ok (.aload_n 0, 1) := dd175_95.2.2.1
theorem d175_100 : decode prog_14_method_50_code 100 = .ok (.invokevirtual 317, 3) := dd175_95.2.2.2.1
theorem d175_103 : decode prog_14_method_50_code 103 = .ok (.iload_n 3, 1) := dd175_95.2.2.2.2.1
theorem d175_104 : decode prog_14_method_50_code 104 = .ok (.ireturn, 1) := dd175_95.2.2.2.2.2
theorem b175_0 {d : Nat} {S : mm_S} {a0 : Nat} {x1 : Int32} (h0 : mm_rk S a0 = 12) : mm_ex (d + 1) 175 0 [.ref a0, .int x1, .null, .null] [] S =
    mm_bd (mm_cl d 129 [.ref a0, .int x1] S) (fun v S2 => mm_ex (d + 1) 175 5 [.ref a0, .int x1, .null, .null] (v.toList ++ []) S2) :=
  Eq.trans (mx_aload_n t175 d175_0 (x := a0) rfl) <|
  Eq.trans (mx_iload_n t175 d175_1 (x := x1) rfl) <|
  (mx_virt (st := []) (k := 12) t175 [.int x1] d175_2 vt12_169 rfl rfl (Nat.le_of_ble_eq_true rfl) (Nat.le_of_ble_eq_true rfl) h0)
theorem b175_5 {d : Nat} {S : mm_S} {a0 : Nat} {x1 : Int32} {p0 : Int32} : mm_ex d 175 5 [.ref a0, .int x1, .null, .null] [.int p0] S =
    if p0 = nI 0 then mm_ex d 175 8 [.ref a0, .int x1, .null, .null] [] S else mm_ex d 175 19 [.ref a0, .int x1, .null, .null] [] S :=
  (mx_ine t175 d175_5 (tgt := 19) (by decide))
theorem b175_8 {d : Nat} {S : mm_S} {a0 : Nat} {x1 : Int32} : mm_ex (d + 1) 175 8 [.ref a0, .int x1, .null, .null] [] S =
    mm_bd (mm_cl d 128 [.int x1, .int (nI 10), .int (nI 13)] S) (fun v S2 => mm_ex (d + 1) 175 16 [.ref a0, .int x1, .null, .null] (v.toList ++ []) S2) :=
  Eq.trans (mx_iload_n t175 d175_8 (x := x1) rfl) <|
  Eq.trans (mx_bipush t175 d175_9 (v := nI 10) rfl) <|
  Eq.trans (mx_bipush t175 d175_11 (v := nI 13) rfl) <|
  (mx_stat (st := []) t175 [.int x1, .int (nI 10), .int (nI 13)] d175_13 acn12_162 mxn12_162 st12_162 rfl (Nat.le_of_ble_eq_true rfl) (Nat.le_of_ble_eq_true rfl))
theorem b175_16 {d : Nat} {S : mm_S} {a0 : Nat} {x1 : Int32} {p0 : Int32} : mm_ex d 175 16 [.ref a0, .int x1, .null, .null] [.int p0] S =
    if p0 = nI 0 then mm_ex d 175 23 [.ref a0, .int x1, .null, .null] [] S else mm_ex d 175 19 [.ref a0, .int x1, .null, .null] [] S :=
  (mx_ieq t175 d175_16 (tgt := 23) (by decide))
theorem b175_19 {d : Nat} {S : mm_S} {a0 : Nat} {x1 : Int32} : mm_ex d 175 19 [.ref a0, .int x1, .null, .null] [] S =
    if (nI 1) = nI 0 then mm_ex d 175 29 [.ref a0, .int x1, .int (nI 1), .null] [] S else mm_ex d 175 32 [.ref a0, .int x1, .int (nI 1), .null] [] S :=
  Eq.trans (mx_iconst t175 d175_19 (v := nI 1) rfl) <|
  Eq.trans (mx_goto t175 d175_20 (tgt := 24) (by decide)) <|
  Eq.trans (mx_istore_n t175 d175_24 (ls' := [.ref a0, .int x1, .int (nI 1), .null]) rfl rfl) <|
  Eq.trans (mx_iload_n t175 d175_25 (x := nI 1) rfl) <|
  (mx_ine t175 d175_26 (tgt := 32) (by decide))
theorem b175_23 {d : Nat} {S : mm_S} {a0 : Nat} {x1 : Int32} : mm_ex d 175 23 [.ref a0, .int x1, .null, .null] [] S =
    if (nI 0) = nI 0 then mm_ex d 175 29 [.ref a0, .int x1, .int (nI 0), .null] [] S else mm_ex d 175 32 [.ref a0, .int x1, .int (nI 0), .null] [] S :=
  Eq.trans (mx_iconst t175 d175_23 (v := nI 0) rfl) <|
  Eq.trans (mx_istore_n t175 d175_24 (ls' := [.ref a0, .int x1, .int (nI 0), .null]) rfl rfl) <|
  Eq.trans (mx_iload_n t175 d175_25 (x := nI 0) rfl) <|
  (mx_ine t175 d175_26 (tgt := 32) (by decide))
theorem b175_29 {d : Nat} {S : mm_S} {a0 : Nat} {x1 : Int32} {x2 : Int32} : mm_ex d 175 29 [.ref a0, .int x1, .int x2, .null] [] S =
    some (some (.int (-100001)), S) :=
  Eq.trans (mx_ldc t175 d175_29 (v := .int (-100001)) lc12_183) <|
  (mx_iret t175 d175_31 (ty := .int) rfl rfl (fun h => nomatch h))
theorem b175_32 {d : Nat} {S : mm_S} {a0 : Nat} {x1 : Int32} {x2 : Int32} (h0 : mm_rk S a0 = 12) : mm_ex (d + 1) 175 32 [.ref a0, .int x1, .int x2, .null] [] S =
    mm_bd (mm_cl d 171 [.ref a0] S) (fun v S2 => mm_ex (d + 1) 175 36 [.ref a0, .int x1, .int x2, .null] (v.toList ++ []) S2) :=
  Eq.trans (mx_aload_n t175 d175_32 (x := a0) rfl) <|
  (mx_virt (st := []) (k := 12) t175 [] d175_33 vt12_311 rfl rfl (Nat.le_of_ble_eq_true rfl) (Nat.le_of_ble_eq_true rfl) h0)
theorem b175_36 {d : Nat} {S : mm_S} {a0 : Nat} {x1 : Int32} {x2 : Int32} (h0 : mm_rk S a0 = 12) : mm_ex (d + 1) 175 36 [.ref a0, .int x1, .int x2, .null] [] S =
    mm_bd (mm_cl d 173 [.ref a0] S) (fun v S2 => mm_ex (d + 1) 175 40 [.ref a0, .int x1, .int x2, .null] (v.toList ++ []) S2) :=
  Eq.trans (mx_aload_n t175 d175_36 (x := a0) rfl) <|
  (mx_virt (st := []) (k := 12) t175 [] d175_37 vt12_314 rfl rfl (Nat.le_of_ble_eq_true rfl) (Nat.le_of_ble_eq_true rfl) h0)
theorem b175_40 {d : Nat} {S : mm_S} {a0 : Nat} {x1 : Int32} {x2 : Int32} : mm_ex d 175 40 [.ref a0, .int x1, .int x2, .null] [] S =
    if (nI 10) ≤ x1 then mm_ex d 175 55 [.ref a0, .int x1, .int x2, .null] [] S else mm_ex d 175 46 [.ref a0, .int x1, .int x2, .null] [] S :=
  Eq.trans (mx_iload_n t175 d175_40 (x := x1) rfl) <|
  Eq.trans (mx_bipush t175 d175_41 (v := nI 10) rfl) <|
  (mx_cge t175 d175_43 (tgt := 55) (by decide))
theorem b175_46 {d : Nat} {S : mm_S} {a0 : Nat} {x1 : Int32} {x2 : Int32} (h0 : mm_obj S a0 12 = true) (h1 : (mm_R S a0 6).isSome = true) (h2 : mm_inb x1 (mm_N S (mm_rg S a0 6)) = true) (h3 : mm_arr S (mm_rg S a0 6) 13 = true) (h4 : mm_rk S a0 = 12) : mm_ex (d + 1) 175 46 [.ref a0, .int x1, .int x2, .null] [] S =
    mm_bd (mm_cl d 172 [.ref a0] S) (fun v S2 => mm_ex (d + 1) 175 103 [.ref a0, .int x1, .int x2, .int (mm_M S (mm_rg S a0 6) (x1).toNatClampNeg)] (v.toList ++ []) S2) :=
  Eq.trans (mx_aload_n t175 d175_46 (x := a0) rfl) <|
  Eq.trans (mx_getR t175 d175_47 rfl fl12_27 h0 h1) <|
  Eq.trans (mx_iload_n t175 d175_50 (x := x1) rfl) <|
  Eq.trans (mx_iald t175 d175_51 h3 h2) <|
  Eq.trans (mx_goto t175 d175_52 (tgt := 98) (by decide)) <|
  Eq.trans (mx_istore_n t175 d175_98 (ls' := [.ref a0, .int x1, .int x2, .int (mm_M S (mm_rg S a0 6) (x1).toNatClampNeg)]) rfl rfl) <|
  Eq.trans (mx_aload_n t175 d175_99 (x := a0) rfl) <|
  (mx_virt (st := []) (k := 12) t175 [] d175_100 vt12_317 rfl rfl (Nat.le_of_ble_eq_true rfl) (Nat.le_of_ble_eq_true rfl) h4)
theorem b175_55 {d : Nat} {S : mm_S} {a0 : Nat} {x1 : Int32} {x2 : Int32} : mm_ex d 175 55 [.ref a0, .int x1, .int x2, .null] [] S =
    if x1 = (nI 10) then mm_ex d 175 61 [.ref a0, .int x1, .int x2, .null] [] S else mm_ex d 175 68 [.ref a0, .int x1, .int x2, .null] [] S :=
  Eq.trans (mx_iload_n t175 d175_55 (x := x1) rfl) <|
  Eq.trans (mx_bipush t175 d175_56 (v := nI 10) rfl) <|
  (mx_cne t175 d175_58 (tgt := 68) (by decide))
theorem b175_61 {d : Nat} {S : mm_S} {a0 : Nat} {x1 : Int32} {x2 : Int32} (h0 : mm_obj S a0 12 = true) (h1 : mm_rk S a0 = 12) : mm_ex (d + 1) 175 61 [.ref a0, .int x1, .int x2, .null] [] S =
    mm_bd (mm_cl d 172 [.ref a0] S) (fun v S2 => mm_ex (d + 1) 175 103 [.ref a0, .int x1, .int x2, .int (mm_M S a0 12)] (v.toList ++ []) S2) :=
  Eq.trans (mx_aload_n t175 d175_61 (x := a0) rfl) <|
  Eq.trans (mx_geti t175 d175_62 rfl fl12_257 h0) <|
  Eq.trans (mx_goto t175 d175_65 (tgt := 98) (by decide)) <|
  Eq.trans (mx_istore_n t175 d175_98 (ls' := [.ref a0, .int x1, .int x2, .int (mm_M S a0 12)]) rfl rfl) <|
  Eq.trans (mx_aload_n t175 d175_99 (x := a0) rfl) <|
  (mx_virt (st := []) (k := 12) t175 [] d175_100 vt12_317 rfl rfl (Nat.le_of_ble_eq_true rfl) (Nat.le_of_ble_eq_true rfl) h1)
theorem b175_68 {d : Nat} {S : mm_S} {a0 : Nat} {x1 : Int32} {x2 : Int32} : mm_ex d 175 68 [.ref a0, .int x1, .int x2, .null] [] S =
    if x1 = (nI 11) then mm_ex d 175 74 [.ref a0, .int x1, .int x2, .null] [] S else mm_ex d 175 81 [.ref a0, .int x1, .int x2, .null] [] S :=
  Eq.trans (mx_iload_n t175 d175_68 (x := x1) rfl) <|
  Eq.trans (mx_bipush t175 d175_69 (v := nI 11) rfl) <|
  (mx_cne t175 d175_71 (tgt := 81) (by decide))
theorem b175_74 {d : Nat} {S : mm_S} {a0 : Nat} {x1 : Int32} {x2 : Int32} (h0 : mm_obj S a0 12 = true) (h1 : mm_rk S a0 = 12) : mm_ex (d + 1) 175 74 [.ref a0, .int x1, .int x2, .null] [] S =
    mm_bd (mm_cl d 172 [.ref a0] S) (fun v S2 => mm_ex (d + 1) 175 103 [.ref a0, .int x1, .int x2, .int (mm_M S a0 10)] (v.toList ++ []) S2) :=
  Eq.trans (mx_aload_n t175 d175_74 (x := a0) rfl) <|
  Eq.trans (mx_geti t175 d175_75 rfl fl12_36 h0) <|
  Eq.trans (mx_goto t175 d175_78 (tgt := 98) (by decide)) <|
  Eq.trans (mx_istore_n t175 d175_98 (ls' := [.ref a0, .int x1, .int x2, .int (mm_M S a0 10)]) rfl rfl) <|
  Eq.trans (mx_aload_n t175 d175_99 (x := a0) rfl) <|
  (mx_virt (st := []) (k := 12) t175 [] d175_100 vt12_317 rfl rfl (Nat.le_of_ble_eq_true rfl) (Nat.le_of_ble_eq_true rfl) h1)
theorem b175_81 {d : Nat} {S : mm_S} {a0 : Nat} {x1 : Int32} {x2 : Int32} : mm_ex d 175 81 [.ref a0, .int x1, .int x2, .null] [] S =
    if x1 = (nI 12) then mm_ex d 175 87 [.ref a0, .int x1, .int x2, .null] [] S else mm_ex d 175 94 [.ref a0, .int x1, .int x2, .null] [] S :=
  Eq.trans (mx_iload_n t175 d175_81 (x := x1) rfl) <|
  Eq.trans (mx_bipush t175 d175_82 (v := nI 12) rfl) <|
  (mx_cne t175 d175_84 (tgt := 94) (by decide))
theorem b175_87 {d : Nat} {S : mm_S} {a0 : Nat} {x1 : Int32} {x2 : Int32} (h0 : mm_obj S a0 12 = true) (h1 : mm_rk S a0 = 12) : mm_ex (d + 1) 175 87 [.ref a0, .int x1, .int x2, .null] [] S =
    mm_bd (mm_cl d 172 [.ref a0] S) (fun v S2 => mm_ex (d + 1) 175 103 [.ref a0, .int x1, .int x2, .int (mm_M S a0 13)] (v.toList ++ []) S2) :=
  Eq.trans (mx_aload_n t175 d175_87 (x := a0) rfl) <|
  Eq.trans (mx_geti t175 d175_88 rfl fl12_260 h0) <|
  Eq.trans (mx_goto t175 d175_91 (tgt := 98) (by decide)) <|
  Eq.trans (mx_istore_n t175 d175_98 (ls' := [.ref a0, .int x1, .int x2, .int (mm_M S a0 13)]) rfl rfl) <|
  Eq.trans (mx_aload_n t175 d175_99 (x := a0) rfl) <|
  (mx_virt (st := []) (k := 12) t175 [] d175_100 vt12_317 rfl rfl (Nat.le_of_ble_eq_true rfl) (Nat.le_of_ble_eq_true rfl) h1)
theorem b175_94 {d : Nat} {S : mm_S} {a0 : Nat} {x1 : Int32} {x2 : Int32} (h0 : mm_obj S a0 12 = true) (h1 : mm_rk S a0 = 12) : mm_ex (d + 1) 175 94 [.ref a0, .int x1, .int x2, .null] [] S =
    mm_bd (mm_cl d 172 [.ref a0] S) (fun v S2 => mm_ex (d + 1) 175 103 [.ref a0, .int x1, .int x2, .int (mm_M S a0 42)] (v.toList ++ []) S2) :=
  Eq.trans (mx_aload_n t175 d175_94 (x := a0) rfl) <|
  Eq.trans (mx_geti t175 d175_95 rfl fl12_284 h0) <|
  Eq.trans (mx_istore_n t175 d175_98 (ls' := [.ref a0, .int x1, .int x2, .int (mm_M S a0 42)]) rfl rfl) <|
  Eq.trans (mx_aload_n t175 d175_99 (x := a0) rfl) <|
  (mx_virt (st := []) (k := 12) t175 [] d175_100 vt12_317 rfl rfl (Nat.le_of_ble_eq_true rfl) (Nat.le_of_ble_eq_true rfl) h1)
theorem b175_103 {d : Nat} {S : mm_S} {a0 : Nat} {x1 : Int32} {x2 : Int32} {x3 : Int32} : mm_ex d 175 103 [.ref a0, .int x1, .int x2, .int x3] [] S =
    some (some (.int x3), S) :=
  Eq.trans (mx_iload_n t175 d175_103 (x := x3) rfl) <|
  (mx_iret t175 d175_104 (ty := .int) rfl rfl (fun h => nomatch h))
theorem e175 {d : Nat} {S : mm_S} {a0 : Nat} {x1 : Int32} : mm_cl d 175 [.ref a0, .int x1] S = mm_ex d 175 0 [.ref a0, .int x1, .null, .null] [] S := mm_cl_eq t175 (Nat.le_of_ble_eq_true rfl) rfl
/-! X12_first -/
theorem dd176_0 : (decode prog_14_method_51_code 0 = .ok (.iload_n 1, 1)) ∧ (decode prog_14_method_51_code 1 = .ok (.iconst 0, 1)) ∧ (decode prog_14_method_51_code 2 = .ok (.iconst 1, 1)) ∧ (decode prog_14_method_51_code 3 = .ok (.invokestatic 162, 3)) ∧ (decode prog_14_method_51_code 6 = .ok (.ifCond .ne 5, 3)) ∧ (decode prog_14_method_51_code 9 = .ok (.iconst (-1), 1)) ∧ (decode prog_14_method_51_code 10 = .ok (.ireturn, 1)) ∧ (decode prog_14_method_51_code 11 = .ok (.aload_n 0, 1)) ∧ (decode prog_14_method_51_code 12 = .ok (.invokevirtual 290, 3)) ∧ (decode prog_14_method_51_code 15 = .ok (.ifCond .ne 6, 3)) ∧ (decode prog_14_method_51_code 18 = .ok (.bipush (-5), 2)) ∧ (decode prog_14_method_51_code 20 = .ok (.ireturn, 1)) ∧ (decode prog_14_method_51_code 21 = .ok (.aload_n 0, 1)) ∧ (decode prog_14_method_51_code 22 = .ok (.getfield 33, 3)) ∧ (decode prog_14_method_51_code 25 = .ok (.iconst 0, 1)) ∧ (decode prog_14_method_51_code 26 = .ok (.iaload, 1)) := by decide +kernel
theorem d176_0 : decode prog_14_method_51_code 0 = .ok (.iload_n 1, 1) := dd176_0.1
theorem d176_1 : decode prog_14_method_51_code 1 = .ok (.iconst 0, 1) := dd176_0.2.1
theorem d176_2 : decode prog_14_method_51_code 2 = .ok (.iconst 1, 1) := dd176_0.2.2.1
theorem d176_3 : decode prog_14_method_51_code 3 = .ok (.invokestatic 162, 3) := dd176_0.2.2.2.1
theorem d176_6 : decode prog_14_method_51_code 6 = .ok (.ifCond .ne 5, 3) := dd176_0.2.2.2.2.1
theorem d176_9 : decode prog_14_method_51_code 9 = .ok (.iconst (-1), 1) := dd176_0.2.2.2.2.2.1
theorem d176_10 : decode prog_14_method_51_code 10 = .ok (.ireturn, 1) := dd176_0.2.2.2.2.2.2.1
theorem d176_11 : decode prog_14_method_51_code 11 = .ok (.aload_n 0, 1) := dd176_0.2.2.2.2.2.2.2.1
theorem d176_12 : decode prog_14_method_51_code 12 = .ok (.invokevirtual 290, 3) := dd176_0.2.2.2.2.2.2.2.2.1
theorem d176_15 : decode prog_14_method_51_code 15 = .ok (.ifCond .ne 6, 3) := dd176_0.2.2.2.2.2.2.2.2.2.1
theorem d176_18 : decode prog_14_method_51_code 18 = .ok (.bipush (-5), 2) := dd176_0.2.2.2.2.2.2.2.2.2.2.1
theorem d176_20 : decode prog_14_method_51_code 20 = .ok (.ireturn, 1) := dd176_0.2.2.2.2.2.2.2.2.2.2.2.1
theorem d176_21 : decode prog_14_method_51_code 21 = .ok (.aload_n 0, 1) := dd176_0.2.2.2.2.2.2.2.2.2.2.2.2.1
theorem d176_22 : decode prog_14_method_51_code 22 = .ok (.getfield 33, 3) := dd176_0.2.2.2.2.2.2.2.2.2.2.2.2.2.1
theorem d176_25 : decode prog_14_method_51_code 25 = .ok (.iconst 0, 1) := dd176_0.2.2.2.2.2.2.2.2.2.2.2.2.2.2.1
theorem d176_26 : decode prog_14_method_51_code 26 = .ok (.iaload, 1) := dd176_0.2.2.2.2.2.2.2.2.2.2.2.2.2.2.2
theorem dd176_27 : (decode prog_14_method_51_code 27 = .ok (.istore_n 2, 1)) ∧ (decode prog_14_method_51_code 28 = .ok (.iconst 0, 1)) ∧ (decode prog_14_method_51_code 29 = .ok (.istore_n 3, 1)) ∧ (decode prog_14_method_51_code 30 = .ok (.iconst 0, 1)) ∧ (decode prog_14_method_51_code 31 = .ok (.istore 4, 2)) ∧ (decode prog_14_method_51_code 33 = .ok (.iconst 1, 1)) ∧ (decode prog_14_method_51_code 34 = .ok (.istore 5, 2)) ∧ (decode prog_14_method_51_code 36 = .ok (.iload 5, 2)) ∧ (decode prog_14_method_51_code 38 = .ok (.iconst 3, 1)) ∧ (decode prog_14_method_51_code 39 = .ok (.if_icmp .gt 83, 3)) ∧ (decode prog_14_method_51_code 42 = .ok (.iload 5, 2)) ∧ (decode prog_14_method_51_code 44 = .ok (.iconst 3, 1)) ∧ (decode prog_14_method_51_code 45 = .ok (.if_icmp .ne 11, 3)) ∧ (decode prog_14_method_51_code 48 = .ok (.aload_n 0, 1)) ∧ (decode prog_14_method_51_code 49 = .ok (.iload_n 2, 1)) ∧ (decode prog_14_method_51_code 50 = .ok (.invokevirtual 266, 3)) := by decide +kernel
theorem d176_27 : decode prog_14_method_51_code 27 = .ok (.istore_n 2, 1) := dd176_27.1
theorem d176_28 : decode prog_14_method_51_code 28 = .ok (.iconst 0, 1) := dd176_27.2.1
theorem d176_29 : decode prog_14_method_51_code 29 = .ok (.istore_n 3, 1) := dd176_27.2.2.1
theorem d176_30 : decode prog_14_method_51_code 30 = .ok (.iconst 0, 1) := dd176_27.2.2.2.1
theorem d176_31 : decode prog_14_method_51_code 31 = .ok (.istore 4, 2) := dd176_27.2.2.2.2.1
theorem d176_33 : decode prog_14_method_51_code 33 = .ok (.iconst 1, 1) := dd176_27.2.2.2.2.2.1
theorem d176_34 : decode prog_14_method_51_code 34 = .ok (.istore 5, 2) := dd176_27.2.2.2.2.2.2.1
theorem d176_36 : decode prog_14_method_51_code 36 = .ok (.iload 5, 2) := dd176_27.2.2.2.2.2.2.2.1
theorem d176_38 : decode prog_14_method_51_code 38 = .ok (.iconst 3, 1) := dd176_27.2.2.2.2.2.2.2.2.1
theorem d176_39 : decode prog_14_method_51_code 39 = .ok (.if_icmp .gt 83, 3) := dd176_27.2.2.2.2.2.2.2.2.2.1
theorem d176_42 : decode prog_14_method_51_code 42 = .ok (.iload 5, 2) := dd176_27.2.2.2.2.2.2.2.2.2.2.1
theorem d176_44 : decode prog_14_method_51_code 44 = .ok (.iconst 3, 1) := dd176_27.2.2.2.2.2.2.2.2.2.2.2.1
theorem d176_45 : decode prog_14_method_51_code 45 = .ok (.if_icmp .ne 11, 3) := dd176_27.2.2.2.2.2.2.2.2.2.2.2.2.1
theorem d176_48 : decode prog_14_method_51_code 48 = .ok (.aload_n 0, 1) := dd176_27.2.2.2.2.2.2.2.2.2.2.2.2.2.1
theorem d176_49 : decode prog_14_method_51_code 49 = .ok (.iload_n 2, 1) := dd176_27.2.2.2.2.2.2.2.2.2.2.2.2.2.2.1
theorem d176_50 : decode prog_14_method_51_code 50 = .ok (.invokevirtual 266, 3) := dd176_27.2.2.2.2.2.2.2.2.2.2.2.2.2.2.2
theorem dd176_53 : (decode prog_14_method_51_code 53 = .ok (.ifCond .eq 63, 3)) ∧ (decode prog_14_method_51_code 56 = .ok (.aload_n 0, 1)) ∧ (decode prog_14_method_51_code 57 = .ok (.invokevirtual 311, 3)) ∧ (decode prog_14_method_51_code 60 = .ok (.aload_n 0, 1)) ∧ (decode prog_14_method_51_code 61 = .ok (.iload 5, 2)) ∧ (decode prog_14_method_51_code 63 = .ok (.invokevirtual 293, 3)) ∧ (decode prog_14_method_51_code 66 = .ok (.aload_n 0, 1)) ∧ (decode prog_14_method_51_code 67 = .ok (.invokevirtual 314, 3)) ∧ (decode prog_14_method_51_code 70 = .ok (.iload_n 1, 1)) ∧ (decode prog_14_method_51_code 71 = .ok (.ifCond .ne 12, 3)) ∧ (decode prog_14_method_51_code 74 = .ok (.aload_n 0, 1)) ∧ (decode prog_14_method_51_code 75 = .ok (.getfield 27, 3)) ∧ (decode prog_14_method_51_code 78 = .ok (.iload_n 2, 1)) ∧ (decode prog_14_method_51_code 79 = .ok (.iaload, 1)) ∧ (decode prog_14_method_51_code 80 = .ok (.goto 12, 3)) ∧ (decode prog_14_method_51_code 83 = .ok (.aload_n 0, 1)) := by decide +kernel
theorem d176_53 : decode prog_14_method_51_code 53 = .ok (.ifCond .eq 63, 3) := dd176_53.1
theorem d176_56 : decode prog_14_method_51_code 56 = .ok (.aload_n 0, 1) := dd176_53.2.1
theorem d176_57 : decode prog_14_method_51_code 57 = .ok (.invokevirtual 311, 3) := dd176_53.2.2.1
theorem d176_60 : decode prog_14_method_51_code 60 = .ok (.aload_n 0, 1) := dd176_53.2.2.2.1
theorem d176_61 : decode prog_14_method_51_code 61 = .ok (.iload 5, 2) := dd176_53.2.2.2.2.1
theorem d176_63 : decode prog_14_method_51_code 63 = .ok (.invokevirtual 293, 3) := dd176_53.2.2.2.2.2.1
theorem d176_66 : decode prog_14_method_51_code 66 = .ok (.aload_n 0, 1) := dd176_53.2.2.2.2.2.2.1
theorem d176_67 : decode prog_14_method_51_code 67 = .ok (.invokevirtual 314, 3) := dd176_53.2.2.2.2.2.2.2.1
theorem d176_70 : decode prog_14_method_51_code 70 = .ok (.iload_n 1, 1) := dd176_53.2.2.2.2.2.2.2.2.1
theorem d176_71 : decode prog_14_method_51_code 71 = .ok (.ifCond .ne 12, 3) := dd176_53.2.2.2.2.2.2.2.2.2.1
theorem d176_74 : decode prog_14_method_51_code 74 = .ok (.aload_n 0, 1) := dd176_53.2.2.2.2.2.2.2.2.2.2.1
theorem d176_75 : decode prog_14_method_51_code 75 = .ok (.getfield 27, 3) := dd176_53.2.2.2.2.2.2.2.2.2.2.2.1
theorem d176_78 : decode prog_14_method_51_code 78 = .ok (.iload_n 2, 1) := dd176_53.2.2.2.2.2.2.2.2.2.2.2.2.1
theorem d176_79 : decode prog_14_method_51_code 79 = .ok (.iaload, 1) := dd176_53.2.2.2.2.2.2.2.2.2.2.2.2.2.1
theorem d176_80 : decode prog_14_method_51_code 80 = .ok (.goto 12, 3) := dd176_53.2.2.2.2.2.2.2.2.2.2.2.2.2.2.1
theorem d176_83 : decode prog_14_method_51_code 83 = .ok (.aload_n 0, 1) := dd176_53.2.2.2.2.2.2.2.2.2.2.2.2.2.2.2
theorem dd176_84 : (decode prog_14_method_51_code 84 = .ok (.getfield 257, 3)) ∧ (decode prog_14_method_51_code 87 = .ok (.aload_n 0, 1)) ∧ (decode prog_14_method_51_code 88 = .ok (.invokevirtual 320, 3)) ∧ (decode prog_14_method_51_code 91 = .ok (.iadd, 1)) ∧ (decode prog_14_method_51_code 92 = .ok (.istore 6, 2)) ∧ (decode prog_14_method_51_code 94 = .ok (.aload_n 0, 1)) ∧ (decode prog_14_method_51_code 95 = .ok (.invokevirtual 317, 3)) ∧ (decode prog_14_method_51_code 98 = .ok (.iload_n 3, 1)) ∧ (decode prog_14_method_51_code 99 = .ok (.ifCond .eq 10, 3)) ∧ (decode prog_14_method_51_code 102 = .ok (.iload 6, 2)) ∧ (decode prog_14_method_51_code 104 = .ok (.iload 4, 2)) ∧ (decode prog_14_method_51_code 106 = .ok (.if_icmp .le 10, 3)) ∧ (decode prog_14_method_51_code 109 = .ok (.iload 5, 2)) ∧ (decode prog_14_method_51_code 111 = .ok (.istore_n 3, 1)) ∧ (decode prog_14_method_51_code 112 = .ok (.iload 6, 2)) ∧ (decode prog_14_method_51_code 114 = .ok (.istore 4, 2)) := by decide +kernel
theorem d176_84 : decode prog_14_method_51_code 84 = .ok (.getfield 257, 3) := dd176_84.1
theorem d176_87 : decode prog_14_method_51_code 87 = .ok (.aload_n 0, 1) := dd176_84.2.1
theorem d176_88 : decode prog_14_method_51_code 88 = .ok (.invokevirtual 320, 3) := dd176_84.2.2.1
theorem d176_91 : decode prog_14_method_51_code 91 = .ok (.iadd, 1) := dd176_84.2.2.2.1
theorem d176_92 : decode prog_14_method_51_code 92 = .ok (.istore 6, 2) := dd176_84.2.2.2.2.1
theorem d176_94 : decode prog_14_method_51_code 94 = .ok (.aload_n 0, 1) := dd176_84.2.2.2.2.2.1
theorem d176_95 : decode prog_14_method_51_code 95 = .ok (.invokevirtual 317, 3) := dd176_84.2.2.2.2.2.2.1
theorem d176_98 : decode prog_14_method_51_code 98 = .ok (.iload_n 3, 1) := dd176_84.2.2.2.2.2.2.2.1
theorem d176_99 : decode prog_14_method_51_code 99 = .ok (.ifCond .eq 10, 3) := dd176_84.2.2.2.2.2.2.2.2.1
theorem d176_102 : decode prog_14_method_51_code 102 = .ok (.iload 6, 2) := dd176_84.2.2.2.2.2.2.2.2.2.1
theorem d176_104 : decode prog_14_method_51_code 104 = .ok (.iload 4, 2) := dd176_84.2.2.2.2.2.2.2.2.2.2.1
theorem d176_106 : decode prog_14_method_51_code 106 = .ok (.if_icmp .le 10, 3) := dd176_84.2.2.2.2.2.2.2.2.2.2.2.1
theorem d176_109 : decode prog_14_method_51_code 109 = .ok (.iload 5, 2) := dd176_84.2.2.2.2.2.2.2.2.2.2.2.2.1
theorem d176_111 : decode prog_14_method_51_code 111 = .ok (.istore_n 3, 1) := dd176_84.2.2.2.2.2.2.2.2.2.2.2.2.2.1
theorem d176_112 : decode prog_14_method_51_code 112 = .ok (.iload 6, 2) := dd176_84.2.2.2.2.2.2.2.2.2.2.2.2.2.2.1
theorem d176_114 : decode prog_14_method_51_code 114 = .ok (.istore 4, 2) := dd176_84.2.2.2.2.2.2.2.2.2.2.2.2.2.2.2
theorem dd176_116 : (decode prog_14_method_51_code 116 = .ok (.iinc 5 1, 3)) ∧ (decode prog_14_method_51_code 119 = .ok (.goto (-83), 3)) ∧ (decode prog_14_method_51_code 122 = .ok (.iload_n 3, 1)) ∧ (decode prog_14_method_51_code 123 = .ok (.ireturn, 1)) := by decide +kernel
theorem d176_116 : decode prog_14_method_51_code 116 = .ok (.iinc 5 1, 3) := dd176_116.1
theorem d176_119 : decode prog_14_method_51_code 119 = .ok (.goto (-83), 3) := dd176_116.2.1
theorem d176_122 : decode prog_14_method_51_code 122 = .ok (.iload_n 3, 1) := dd176_116.2.2.1
theorem d176_123 : decode prog_14_method_51_code 123 = .ok (.ireturn, 1) := dd176_116.2.2.2
theorem b176_0 {d : Nat} {S : mm_S} {a0 : Nat} {x1 : Int32} : mm_ex (d + 1) 176 0 [.ref a0, .int x1, .null, .null, .null, .null, .null] [] S =
    mm_bd (mm_cl d 128 [.int x1, .int (nI 0), .int (nI 1)] S) (fun v S2 => mm_ex (d + 1) 176 6 [.ref a0, .int x1, .null, .null, .null, .null, .null] (v.toList ++ []) S2) :=
  Eq.trans (mx_iload_n t176 d176_0 (x := x1) rfl) <|
  Eq.trans (mx_iconst t176 d176_1 (v := nI 0) rfl) <|
  Eq.trans (mx_iconst t176 d176_2 (v := nI 1) rfl) <|
  (mx_stat (st := []) t176 [.int x1, .int (nI 0), .int (nI 1)] d176_3 acn12_162 mxn12_162 st12_162 rfl (Nat.le_of_ble_eq_true rfl) (Nat.le_of_ble_eq_true rfl))
theorem b176_6 {d : Nat} {S : mm_S} {a0 : Nat} {x1 : Int32} {p0 : Int32} : mm_ex d 176 6 [.ref a0, .int x1, .null, .null, .null, .null, .null] [.int p0] S =
    if p0 = nI 0 then mm_ex d 176 9 [.ref a0, .int x1, .null, .null, .null, .null, .null] [] S else mm_ex d 176 11 [.ref a0, .int x1, .null, .null, .null, .null, .null] [] S :=
  (mx_ine t176 d176_6 (tgt := 11) (by decide))
theorem b176_9 {d : Nat} {S : mm_S} {a0 : Nat} {x1 : Int32} : mm_ex d 176 9 [.ref a0, .int x1, .null, .null, .null, .null, .null] [] S =
    some (some (.int (-1)), S) :=
  Eq.trans (mx_iconst t176 d176_9 (v := -1) rfl) <|
  (mx_iret t176 d176_10 (ty := .int) rfl rfl (fun h => nomatch h))
theorem b176_11 {d : Nat} {S : mm_S} {a0 : Nat} {x1 : Int32} (h0 : mm_rk S a0 = 12) : mm_ex (d + 1) 176 11 [.ref a0, .int x1, .null, .null, .null, .null, .null] [] S =
    mm_bd (mm_cl d 168 [.ref a0] S) (fun v S2 => mm_ex (d + 1) 176 15 [.ref a0, .int x1, .null, .null, .null, .null, .null] (v.toList ++ []) S2) :=
  Eq.trans (mx_aload_n t176 d176_11 (x := a0) rfl) <|
  (mx_virt (st := []) (k := 12) t176 [] d176_12 vt12_290 rfl rfl (Nat.le_of_ble_eq_true rfl) (Nat.le_of_ble_eq_true rfl) h0)
theorem b176_15 {d : Nat} {S : mm_S} {a0 : Nat} {x1 : Int32} {p0 : Int32} : mm_ex d 176 15 [.ref a0, .int x1, .null, .null, .null, .null, .null] [.int p0] S =
    if p0 = nI 0 then mm_ex d 176 18 [.ref a0, .int x1, .null, .null, .null, .null, .null] [] S else mm_ex d 176 21 [.ref a0, .int x1, .null, .null, .null, .null, .null] [] S :=
  (mx_ine t176 d176_15 (tgt := 21) (by decide))
theorem b176_18 {d : Nat} {S : mm_S} {a0 : Nat} {x1 : Int32} : mm_ex d 176 18 [.ref a0, .int x1, .null, .null, .null, .null, .null] [] S =
    some (some (.int (-5)), S) :=
  Eq.trans (mx_bipush t176 d176_18 (v := -5) rfl) <|
  (mx_iret t176 d176_20 (ty := .int) rfl rfl (fun h => nomatch h))
theorem b176_21 {d : Nat} {S : mm_S} {a0 : Nat} {x1 : Int32} (h0 : mm_obj S a0 12 = true) (h1 : (mm_R S a0 9).isSome = true) (h2 : mm_inb (nI 0) (mm_N S (mm_rg S a0 9)) = true) (h3 : mm_arr S (mm_rg S a0 9) 13 = true) : mm_ex d 176 21 [.ref a0, .int x1, .null, .null, .null, .null, .null] [] S =
    mm_ex d 176 36 [.ref a0, .int x1, .int (mm_M S (mm_rg S a0 9) (nI 0).toNatClampNeg), .int (nI 0), .int (nI 0), .int (nI 1), .null] [] S :=
  Eq.trans (mx_aload_n t176 d176_21 (x := a0) rfl) <|
  Eq.trans (mx_getR t176 d176_22 rfl fl12_33 h0 h1) <|
  Eq.trans (mx_iconst t176 d176_25 (v := nI 0) rfl) <|
  Eq.trans (mx_iald t176 d176_26 h3 h2) <|
  Eq.trans (mx_istore_n t176 d176_27 (ls' := [.ref a0, .int x1, .int (mm_M S (mm_rg S a0 9) (nI 0).toNatClampNeg), .null, .null, .null, .null]) rfl rfl) <|
  Eq.trans (mx_iconst t176 d176_28 (v := nI 0) rfl) <|
  Eq.trans (mx_istore_n t176 d176_29 (ls' := [.ref a0, .int x1, .int (mm_M S (mm_rg S a0 9) (nI 0).toNatClampNeg), .int (nI 0), .null, .null, .null]) rfl rfl) <|
  Eq.trans (mx_iconst t176 d176_30 (v := nI 0) rfl) <|
  Eq.trans (mx_istore t176 d176_31 (ls' := [.ref a0, .int x1, .int (mm_M S (mm_rg S a0 9) (nI 0).toNatClampNeg), .int (nI 0), .int (nI 0), .null, .null]) rfl rfl) <|
  Eq.trans (mx_iconst t176 d176_33 (v := nI 1) rfl) <|
  (mx_istore t176 d176_34 (ls' := [.ref a0, .int x1, .int (mm_M S (mm_rg S a0 9) (nI 0).toNatClampNeg), .int (nI 0), .int (nI 0), .int (nI 1), .null]) rfl rfl)
theorem b176_36 {d : Nat} {S : mm_S} {a0 : Nat} {x1 : Int32} {x2 : Int32} {x3 : Int32} {x4 : Int32} {x5 : Int32} {v6 : Value} : mm_ex d 176 36 [.ref a0, .int x1, .int x2, .int x3, .int x4, .int x5, v6] [] S =
    if (nI 3) < x5 then mm_ex d 176 122 [.ref a0, .int x1, .int x2, .int x3, .int x4, .int x5, v6] [] S else mm_ex d 176 42 [.ref a0, .int x1, .int x2, .int x3, .int x4, .int x5, v6] [] S :=
  Eq.trans (mx_iload t176 d176_36 (x := x5) rfl) <|
  Eq.trans (mx_iconst t176 d176_38 (v := nI 3) rfl) <|
  (mx_cgt t176 d176_39 (tgt := 122) (by decide))
theorem b176_42 {d : Nat} {S : mm_S} {a0 : Nat} {x1 : Int32} {x2 : Int32} {x3 : Int32} {x4 : Int32} {x5 : Int32} {v6 : Value} : mm_ex d 176 42 [.ref a0, .int x1, .int x2, .int x3, .int x4, .int x5, v6] [] S =
    if x5 = (nI 3) then mm_ex d 176 48 [.ref a0, .int x1, .int x2, .int x3, .int x4, .int x5, v6] [] S else mm_ex d 176 56 [.ref a0, .int x1, .int x2, .int x3, .int x4, .int x5, v6] [] S :=
  Eq.trans (mx_iload t176 d176_42 (x := x5) rfl) <|
  Eq.trans (mx_iconst t176 d176_44 (v := nI 3) rfl) <|
  (mx_cne t176 d176_45 (tgt := 56) (by decide))
theorem b176_48 {d : Nat} {S : mm_S} {a0 : Nat} {x1 : Int32} {x2 : Int32} {x3 : Int32} {x4 : Int32} {x5 : Int32} {v6 : Value} (h0 : mm_rk S a0 = 12) : mm_ex (d + 1) 176 48 [.ref a0, .int x1, .int x2, .int x3, .int x4, .int x5, v6] [] S =
    mm_bd (mm_cl d 160 [.ref a0, .int x2] S) (fun v S2 => mm_ex (d + 1) 176 53 [.ref a0, .int x1, .int x2, .int x3, .int x4, .int x5, v6] (v.toList ++ []) S2) :=
  Eq.trans (mx_aload_n t176 d176_48 (x := a0) rfl) <|
  Eq.trans (mx_iload_n t176 d176_49 (x := x2) rfl) <|
  (mx_virt (st := []) (k := 12) t176 [.int x2] d176_50 vt12_266 rfl rfl (Nat.le_of_ble_eq_true rfl) (Nat.le_of_ble_eq_true rfl) h0)
theorem b176_53 {d : Nat} {S : mm_S} {a0 : Nat} {x1 : Int32} {x2 : Int32} {x3 : Int32} {x4 : Int32} {x5 : Int32} {v6 : Value} {p0 : Int32} : mm_ex d 176 53 [.ref a0, .int x1, .int x2, .int x3, .int x4, .int x5, v6] [.int p0] S =
    if p0 = nI 0 then mm_ex d 176 116 [.ref a0, .int x1, .int x2, .int x3, .int x4, .int x5, v6] [] S else mm_ex d 176 56 [.ref a0, .int x1, .int x2, .int x3, .int x4, .int x5, v6] [] S :=
  (mx_ieq t176 d176_53 (tgt := 116) (by decide))
theorem b176_56 {d : Nat} {S : mm_S} {a0 : Nat} {x1 : Int32} {x2 : Int32} {x3 : Int32} {x4 : Int32} {x5 : Int32} {v6 : Value} (h0 : mm_rk S a0 = 12) : mm_ex (d + 1) 176 56 [.ref a0, .int x1, .int x2, .int x3, .int x4, .int x5, v6] [] S =
    mm_bd (mm_cl d 171 [.ref a0] S) (fun v S2 => mm_ex (d + 1) 176 60 [.ref a0, .int x1, .int x2, .int x3, .int x4, .int x5, v6] (v.toList ++ []) S2) :=
  Eq.trans (mx_aload_n t176 d176_56 (x := a0) rfl) <|
  (mx_virt (st := []) (k := 12) t176 [] d176_57 vt12_311 rfl rfl (Nat.le_of_ble_eq_true rfl) (Nat.le_of_ble_eq_true rfl) h0)
theorem b176_60 {d : Nat} {S : mm_S} {a0 : Nat} {x1 : Int32} {x2 : Int32} {x3 : Int32} {x4 : Int32} {x5 : Int32} {v6 : Value} (h0 : mm_rk S a0 = 12) : mm_ex (d + 1) 176 60 [.ref a0, .int x1, .int x2, .int x3, .int x4, .int x5, v6] [] S =
    mm_bd (mm_cl d 169 [.ref a0, .int x5] S) (fun v S2 => mm_ex (d + 1) 176 66 [.ref a0, .int x1, .int x2, .int x3, .int x4, .int x5, v6] (v.toList ++ []) S2) :=
  Eq.trans (mx_aload_n t176 d176_60 (x := a0) rfl) <|
  Eq.trans (mx_iload t176 d176_61 (x := x5) rfl) <|
  (mx_virt (st := []) (k := 12) t176 [.int x5] d176_63 vt12_293 rfl rfl (Nat.le_of_ble_eq_true rfl) (Nat.le_of_ble_eq_true rfl) h0)
theorem b176_66 {d : Nat} {S : mm_S} {a0 : Nat} {x1 : Int32} {x2 : Int32} {x3 : Int32} {x4 : Int32} {x5 : Int32} {v6 : Value} (h0 : mm_rk S a0 = 12) : mm_ex (d + 1) 176 66 [.ref a0, .int x1, .int x2, .int x3, .int x4, .int x5, v6] [] S =
    mm_bd (mm_cl d 173 [.ref a0] S) (fun v S2 => mm_ex (d + 1) 176 70 [.ref a0, .int x1, .int x2, .int x3, .int x4, .int x5, v6] (v.toList ++ []) S2) :=
  Eq.trans (mx_aload_n t176 d176_66 (x := a0) rfl) <|
  (mx_virt (st := []) (k := 12) t176 [] d176_67 vt12_314 rfl rfl (Nat.le_of_ble_eq_true rfl) (Nat.le_of_ble_eq_true rfl) h0)
theorem b176_70 {d : Nat} {S : mm_S} {a0 : Nat} {x1 : Int32} {x2 : Int32} {x3 : Int32} {x4 : Int32} {x5 : Int32} {v6 : Value} : mm_ex d 176 70 [.ref a0, .int x1, .int x2, .int x3, .int x4, .int x5, v6] [] S =
    if x1 = nI 0 then mm_ex d 176 74 [.ref a0, .int x1, .int x2, .int x3, .int x4, .int x5, v6] [] S else mm_ex d 176 83 [.ref a0, .int x1, .int x2, .int x3, .int x4, .int x5, v6] [] S :=
  Eq.trans (mx_iload_n t176 d176_70 (x := x1) rfl) <|
  (mx_ine t176 d176_71 (tgt := 83) (by decide))
theorem b176_74 {d : Nat} {S : mm_S} {a0 : Nat} {x1 : Int32} {x2 : Int32} {x3 : Int32} {x4 : Int32} {x5 : Int32} {v6 : Value} (h0 : mm_obj S a0 12 = true) (h1 : (mm_R S a0 6).isSome = true) (h2 : mm_inb x2 (mm_N S (mm_rg S a0 6)) = true) (h3 : mm_arr S (mm_rg S a0 6) 13 = true) (h4 : mm_rk S a0 = 12) : mm_ex (d + 1) 176 74 [.ref a0, .int x1, .int x2, .int x3, .int x4, .int x5, v6] [] S =
    mm_bd (mm_cl d 172 [.ref a0] S) (fun v S2 => mm_ex (d + 1) 176 98 [.ref a0, .int x1, .int x2, .int x3, .int x4, .int x5, .int (mm_M S (mm_rg S a0 6) (x2).toNatClampNeg)] (v.toList ++ []) S2) :=
  Eq.trans (mx_aload_n t176 d176_74 (x := a0) rfl) <|
  Eq.trans (mx_getR t176 d176_75 rfl fl12_27 h0 h1) <|
  Eq.trans (mx_iload_n t176 d176_78 (x := x2) rfl) <|
  Eq.trans (mx_iald t176 d176_79 h3 h2) <|
  Eq.trans (mx_goto t176 d176_80 (tgt := 92) (by decide)) <|
  Eq.trans (mx_istore t176 d176_92 (ls' := [.ref a0, .int x1, .int x2, .int x3, .int x4, .int x5, .int (mm_M S (mm_rg S a0 6) (x2).toNatClampNeg)]) rfl rfl) <|
  Eq.trans (mx_aload_n t176 d176_94 (x := a0) rfl) <|
  (mx_virt (st := []) (k := 12) t176 [] d176_95 vt12_317 rfl rfl (Nat.le_of_ble_eq_true rfl) (Nat.le_of_ble_eq_true rfl) h4)
theorem b176_83 {d : Nat} {S : mm_S} {a0 : Nat} {x1 : Int32} {x2 : Int32} {x3 : Int32} {x4 : Int32} {x5 : Int32} {v6 : Value} (h0 : mm_obj S a0 12 = true) (h1 : mm_rk S a0 = 12) : mm_ex (d + 1) 176 83 [.ref a0, .int x1, .int x2, .int x3, .int x4, .int x5, v6] [] S =
    mm_bd (mm_cl d 174 [.ref a0] S) (fun v S2 => mm_ex (d + 1) 176 91 [.ref a0, .int x1, .int x2, .int x3, .int x4, .int x5, v6] (v.toList ++ [.int (mm_M S a0 12)]) S2) :=
  Eq.trans (mx_aload_n t176 d176_83 (x := a0) rfl) <|
  Eq.trans (mx_geti t176 d176_84 rfl fl12_257 h0) <|
  Eq.trans (mx_aload_n t176 d176_87 (x := a0) rfl) <|
  (mx_virt (st := [.int (mm_M S a0 12)]) (k := 12) t176 [] d176_88 vt12_320 rfl rfl (Nat.le_of_ble_eq_true rfl) (Nat.le_of_ble_eq_true rfl) h1)
theorem b176_91 {d : Nat} {S : mm_S} {a0 : Nat} {x1 : Int32} {x2 : Int32} {x3 : Int32} {x4 : Int32} {x5 : Int32} {v6 : Value} {p0 : Int32} {p1 : Int32} (h0 : mm_rk S a0 = 12) : mm_ex (d + 1) 176 91 [.ref a0, .int x1, .int x2, .int x3, .int x4, .int x5, v6] [.int p0, .int p1] S =
    mm_bd (mm_cl d 172 [.ref a0] S) (fun v S2 => mm_ex (d + 1) 176 98 [.ref a0, .int x1, .int x2, .int x3, .int x4, .int x5, .int (p1 + p0)] (v.toList ++ []) S2) :=
  Eq.trans (mx_iadd t176 d176_91) <|
  Eq.trans (mx_istore t176 d176_92 (ls' := [.ref a0, .int x1, .int x2, .int x3, .int x4, .int x5, .int (p1 + p0)]) rfl rfl) <|
  Eq.trans (mx_aload_n t176 d176_94 (x := a0) rfl) <|
  (mx_virt (st := []) (k := 12) t176 [] d176_95 vt12_317 rfl rfl (Nat.le_of_ble_eq_true rfl) (Nat.le_of_ble_eq_true rfl) h0)
theorem b176_98 {d : Nat} {S : mm_S} {a0 : Nat} {x1 : Int32} {x2 : Int32} {x3 : Int32} {x4 : Int32} {x5 : Int32} {x6 : Int32} : mm_ex d 176 98 [.ref a0, .int x1, .int x2, .int x3, .int x4, .int x5, .int x6] [] S =
    if x3 = nI 0 then mm_ex d 176 109 [.ref a0, .int x1, .int x2, .int x3, .int x4, .int x5, .int x6] [] S else mm_ex d 176 102 [.ref a0, .int x1, .int x2, .int x3, .int x4, .int x5, .int x6] [] S :=
  Eq.trans (mx_iload_n t176 d176_98 (x := x3) rfl) <|
  (mx_ieq t176 d176_99 (tgt := 109) (by decide))
theorem b176_102 {d : Nat} {S : mm_S} {a0 : Nat} {x1 : Int32} {x2 : Int32} {x3 : Int32} {x4 : Int32} {x5 : Int32} {x6 : Int32} : mm_ex d 176 102 [.ref a0, .int x1, .int x2, .int x3, .int x4, .int x5, .int x6] [] S =
    if x6 ≤ x4 then mm_ex d 176 116 [.ref a0, .int x1, .int x2, .int x3, .int x4, .int x5, .int x6] [] S else mm_ex d 176 109 [.ref a0, .int x1, .int x2, .int x3, .int x4, .int x5, .int x6] [] S :=
  Eq.trans (mx_iload t176 d176_102 (x := x6) rfl) <|
  Eq.trans (mx_iload t176 d176_104 (x := x4) rfl) <|
  (mx_cle t176 d176_106 (tgt := 116) (by decide))
theorem b176_109 {d : Nat} {S : mm_S} {a0 : Nat} {x1 : Int32} {x2 : Int32} {x3 : Int32} {x4 : Int32} {x5 : Int32} {x6 : Int32} : mm_ex d 176 109 [.ref a0, .int x1, .int x2, .int x3, .int x4, .int x5, .int x6] [] S =
    mm_ex d 176 36 [.ref a0, .int x1, .int x2, .int x5, .int x6, .int (x5 + nI 1), .int x6] [] S :=
  Eq.trans (mx_iload t176 d176_109 (x := x5) rfl) <|
  Eq.trans (mx_istore_n t176 d176_111 (ls' := [.ref a0, .int x1, .int x2, .int x5, .int x4, .int x5, .int x6]) rfl rfl) <|
  Eq.trans (mx_iload t176 d176_112 (x := x6) rfl) <|
  Eq.trans (mx_istore t176 d176_114 (ls' := [.ref a0, .int x1, .int x2, .int x5, .int x6, .int x5, .int x6]) rfl rfl) <|
  Eq.trans (mx_iinc t176 d176_116 (x := x5) (v := nI 1) (ls' := [.ref a0, .int x1, .int x2, .int x5, .int x6, .int (x5 + nI 1), .int x6]) rfl rfl rfl rfl) <|
  (mx_goto t176 d176_119 (tgt := 36) (by decide))
theorem b176_116 {d : Nat} {S : mm_S} {a0 : Nat} {x1 : Int32} {x2 : Int32} {x3 : Int32} {x4 : Int32} {x5 : Int32} {v6 : Value} : mm_ex d 176 116 [.ref a0, .int x1, .int x2, .int x3, .int x4, .int x5, v6] [] S =
    mm_ex d 176 36 [.ref a0, .int x1, .int x2, .int x3, .int x4, .int (x5 + nI 1), v6] [] S :=
  Eq.trans (mx_iinc t176 d176_116 (x := x5) (v := nI 1) (ls' := [.ref a0, .int x1, .int x2, .int x3, .int x4, .int (x5 + nI 1), v6]) rfl rfl rfl rfl) <|
  (mx_goto t176 d176_119 (tgt := 36) (by decide))
theorem b176_122 {d : Nat} {S : mm_S} {a0 : Nat} {x1 : Int32} {x2 : Int32} {x3 : Int32} {x4 : Int32} {x5 : Int32} {v6 : Value} : mm_ex d 176 122 [.ref a0, .int x1, .int x2, .int x3, .int x4, .int x5, v6] [] S =
    some (some (.int x3), S) :=
  Eq.trans (mx_iload_n t176 d176_122 (x := x3) rfl) <|
  (mx_iret t176 d176_123 (ty := .int) rfl rfl (fun h => nomatch h))
theorem e176 {d : Nat} {S : mm_S} {a0 : Nat} {x1 : Int32} : mm_cl d 176 [.ref a0, .int x1] S = mm_ex d 176 0 [.ref a0, .int x1, .null, .null, .null, .null, .null] [] S := mm_cl_eq t176 (Nat.le_of_ble_eq_true rfl) rfl
/-! X12_orders -/
theorem d177_0 : decode prog_14_method_52_code 0 = .ok (.iconst 1, 1) := by decide +kernel
theorem d177_1 : decode prog_14_method_52_code 1 = .ok (.istore_n 1, 1) := by decide +kernel
theorem d177_2 : decode prog_14_method_52_code 2 = .ok (.iconst 2, 1) := by decide +kernel
theorem d177_3 : decode prog_14_method_52_code 3 = .ok (.istore_n 2, 1) := by decide +kernel
theorem d177_4 : decode prog_14_method_52_code 4 = .ok (.iload_n 2, 1) := by decide +kernel
theorem d177_5 : decode prog_14_method_52_code 5 = .ok (.iload_n 0, 1) := by decide +kernel
theorem d177_6 : decode prog_14_method_52_code 6 = .ok (.if_icmp .gt 13, 3) := by decide +kernel
theorem d177_9 : decode prog_14_method_52_code 9 = .ok (.iload_n 1, 1) := by decide +kernel
theorem d177_10 : decode prog_14_method_52_code 10 = .ok (.iload_n 2, 1) := by decide +kernel
theorem d177_11 : decode prog_14_method_52_code 11 = .ok (.imul, 1) := by decide +kernel
theorem d177_12 : decode prog_14_method_52_code 12 = .ok (.istore_n 1, 1) := by decide +kernel
theorem d177_13 : decode prog_14_method_52_code 13 = .ok (.iinc 2 1, 3) := by decide +kernel
theorem d177_16 : decode prog_14_method_52_code 16 = .ok (.goto (-12), 3) := by decide +kernel
theorem d177_19 : decode prog_14_method_52_code 19 = .ok (.iload_n 1, 1) := by decide +kernel
theorem d177_20 : decode prog_14_method_52_code 20 = .ok (.ireturn, 1) := by decide +kernel
theorem b177_0 {d : Nat} {S : mm_S} {x0 : Int32} : mm_ex d 177 0 [.int x0, .null, .null] [] S =
    mm_ex d 177 4 [.int x0, .int (nI 1), .int (nI 2)] [] S :=
  Eq.trans (mx_iconst t177 d177_0 (v := nI 1) rfl) <|
  Eq.trans (mx_istore_n t177 d177_1 (ls' := [.int x0, .int (nI 1), .null]) rfl rfl) <|
  Eq.trans (mx_iconst t177 d177_2 (v := nI 2) rfl) <|
  (mx_istore_n t177 d177_3 (ls' := [.int x0, .int (nI 1), .int (nI 2)]) rfl rfl)
theorem b177_4 {d : Nat} {S : mm_S} {x0 : Int32} {x1 : Int32} {x2 : Int32} : mm_ex d 177 4 [.int x0, .int x1, .int x2] [] S =
    if x0 < x2 then mm_ex d 177 19 [.int x0, .int x1, .int x2] [] S else mm_ex d 177 9 [.int x0, .int x1, .int x2] [] S :=
  Eq.trans (mx_iload_n t177 d177_4 (x := x2) rfl) <|
  Eq.trans (mx_iload_n t177 d177_5 (x := x0) rfl) <|
  (mx_cgt t177 d177_6 (tgt := 19) (by decide))
theorem b177_9 {d : Nat} {S : mm_S} {x0 : Int32} {x1 : Int32} {x2 : Int32} : mm_ex d 177 9 [.int x0, .int x1, .int x2] [] S =
    mm_ex d 177 4 [.int x0, .int (x1 * x2), .int (x2 + nI 1)] [] S :=
  Eq.trans (mx_iload_n t177 d177_9 (x := x1) rfl) <|
  Eq.trans (mx_iload_n t177 d177_10 (x := x2) rfl) <|
  Eq.trans (mx_imul t177 d177_11) <|
  Eq.trans (mx_istore_n t177 d177_12 (ls' := [.int x0, .int (x1 * x2), .int x2]) rfl rfl) <|
  Eq.trans (mx_iinc t177 d177_13 (x := x2) (v := nI 1) (ls' := [.int x0, .int (x1 * x2), .int (x2 + nI 1)]) rfl rfl rfl rfl) <|
  (mx_goto t177 d177_16 (tgt := 4) (by decide))
theorem b177_19 {d : Nat} {S : mm_S} {x0 : Int32} {x1 : Int32} {x2 : Int32} : mm_ex d 177 19 [.int x0, .int x1, .int x2] [] S =
    some (some (.int x1), S) :=
  Eq.trans (mx_iload_n t177 d177_19 (x := x1) rfl) <|
  (mx_iret t177 d177_20 (ty := .int) rfl rfl (fun h => nomatch h))
theorem e177 {d : Nat} {S : mm_S} {x0 : Int32} : mm_cl d 177 [.int x0] S = mm_ex d 177 0 [.int x0, .null, .null] [] S := mm_cl_eq t177 (Nat.le_of_ble_eq_true rfl) rfl
/-! X12_stands -/
theorem dd178_0 : (decode prog_14_method_53_code 0 = .ok (.iconst 0, 1)) ∧ (decode prog_14_method_53_code 1 = .ok (.istore_n 2, 1)) ∧ (decode prog_14_method_53_code 2 = .ok (.iconst 0, 1)) ∧ (decode prog_14_method_53_code 3 = .ok (.istore_n 3, 1)) ∧ (decode prog_14_method_53_code 4 = .ok (.iload_n 3, 1)) ∧ (decode prog_14_method_53_code 5 = .ok (.aload_n 0, 1)) ∧ (decode prog_14_method_53_code 6 = .ok (.getfield 159, 3)) ∧ (decode prog_14_method_53_code 9 = .ok (.if_icmp .ge 29, 3)) ∧ (decode prog_14_method_53_code 12 = .ok (.aload_n 0, 1)) ∧ (decode prog_14_method_53_code 13 = .ok (.iload_n 3, 1)) ∧ (decode prog_14_method_53_code 14 = .ok (.invokevirtual 173, 3)) ∧ (decode prog_14_method_53_code 17 = .ok (.bipush (-5), 2)) ∧ (decode prog_14_method_53_code 19 = .ok (.if_icmp .eq 13, 3)) ∧ (decode prog_14_method_53_code 22 = .ok (.aload_n 0, 1)) ∧ (decode prog_14_method_53_code 23 = .ok (.getfield 111, 3)) ∧ (decode prog_14_method_53_code 26 = .ok (.iload_n 2, 1)) := by decide +kernel
theorem d178_0 : decode prog_14_method_53_code 0 = .ok (.iconst 0, 1) := dd178_0.1
theorem d178_1 : decode prog_14_method_53_code 1 = .ok (.istore_n 2, 1) := dd178_0.2.1
theorem d178_2 : decode prog_14_method_53_code 2 = .ok (.iconst 0, 1) := dd178_0.2.2.1
theorem d178_3 : decode prog_14_method_53_code 3 = .ok (.istore_n 3, 1) := dd178_0.2.2.2.1
theorem d178_4 : decode prog_14_method_53_code 4 = .ok (.iload_n 3, 1) := dd178_0.2.2.2.2.1
theorem d178_5 : decode prog_14_method_53_code 5 = .ok (.aload_n 0, 1) := dd178_0.2.2.2.2.2.1
theorem d178_6 : decode prog_14_method_53_code 6 = .ok (.getfield 159, 3) := dd178_0.2.2.2.2.2.2.1
theorem d178_9 : decode prog_14_method_53_code 9 = .ok (.if_icmp .ge 29, 3) := dd178_0.2.2.2.2.2.2.2.1
theorem d178_12 : decode prog_14_method_53_code 12 = .ok (.aload_n 0, 1) := dd178_0.2.2.2.2.2.2.2.2.1
theorem d178_13 : decode prog_14_method_53_code 13 = .ok (.iload_n 3, 1) := dd178_0.2.2.2.2.2.2.2.2.2.1
theorem d178_14 : decode prog_14_method_53_code 14 = .ok (.invokevirtual 173, 3) := dd178_0.2.2.2.2.2.2.2.2.2.2.1
theorem d178_17 : decode prog_14_method_53_code 17 = .ok (.bipush (-5), 2) := dd178_0.2.2.2.2.2.2.2.2.2.2.2.1
theorem d178_19 : decode prog_14_method_53_code 19 = .ok (.if_icmp .eq 13, 3) := dd178_0.2.2.2.2.2.2.2.2.2.2.2.2.1
theorem d178_22 : decode prog_14_method_53_code 22 = .ok (.aload_n 0, 1) := dd178_0.2.2.2.2.2.2.2.2.2.2.2.2.2.1
theorem d178_23 : decode prog_14_method_53_code 23 = .ok (.getfield 111, 3) := dd178_0.2.2.2.2.2.2.2.2.2.2.2.2.2.2.1
theorem d178_26 : decode prog_14_method_53_code 26 = .ok (.iload_n 2, 1) := dd178_0.2.2.2.2.2.2.2.2.2.2.2.2.2.2.2
theorem dd178_27 : (decode prog_14_method_53_code 27 = .ok (.iload_n 3, 1)) ∧ (decode prog_14_method_53_code 28 = .ok (.iastore, 1)) ∧ (decode prog_14_method_53_code 29 = .ok (.iinc 2 1, 3)) ∧ (decode prog_14_method_53_code 32 = .ok (.iinc 3 1, 3)) ∧ (decode prog_14_method_53_code 35 = .ok (.goto (-31), 3)) ∧ (decode prog_14_method_53_code 38 = .ok (.iload_n 1, 1)) ∧ (decode prog_14_method_53_code 39 = .ok (.istore_n 3, 1)) ∧ (decode prog_14_method_53_code 40 = .ok (.iconst 0, 1)) ∧ (decode prog_14_method_53_code 41 = .ok (.istore 4, 2)) ∧ (decode prog_14_method_53_code 43 = .ok (.iload 4, 2)) ∧ (decode prog_14_method_53_code 45 = .ok (.aload_n 0, 1)) ∧ (decode prog_14_method_53_code 46 = .ok (.getfield 166, 3)) ∧ (decode prog_14_method_53_code 49 = .ok (.if_icmp .ge 85, 3)) ∧ (decode prog_14_method_53_code 52 = .ok (.aload_n 0, 1)) ∧ (decode prog_14_method_53_code 53 = .ok (.getfield 166, 3)) ∧ (decode prog_14_method_53_code 56 = .ok (.iconst 1, 1)) := by decide +kernel
theorem d178_27 : decode prog_14_method_53_code 27 = .ok (.iload_n 3, 1) := dd178_27.1
theorem d178_28 : decode prog_14_method_53_code 28 = .ok (.iastore, 1) := dd178_27.2.1
theorem d178_29 : decode prog_14_method_53_code 29 = .ok (.iinc 2 1, 3) := dd178_27.2.2.1
theorem d178_32 : decode prog_14_method_53_code 32 = .ok (.iinc 3 1, 3) := dd178_27.2.2.2.1
theorem d178_35 : decode prog_14_method_53_code 35 = .ok (.goto (-31), 3) := dd178_27.2.2.2.2.1
theorem d178_38 : decode prog_14_method_53_code 38 = .ok (.iload_n 1, 1) := dd178_27.2.2.2.2.2.1
theorem d178_39 : decode prog_14_method_53_code 39 = .ok (.istore_n 3, 1) := dd178_27.2.2.2.2.2.2.1
theorem d178_40 : decode prog_14_method_53_code 40 = .ok (.iconst 0, 1) := dd178_27.2.2.2.2.2.2.2.1
theorem d178_41 : decode prog_14_method_53_code 41 = .ok (.istore 4, 2) := dd178_27.2.2.2.2.2.2.2.2.1
theorem d178_43 : decode prog_14_method_53_code 43 = .ok (.iload 4, 2) := dd178_27.2.2.2.2.2.2.2.2.2.1
theorem d178_45 : decode prog_14_method_53_code 45 = .ok (.aload_n 0, 1) := dd178_27.2.2.2.2.2.2.2.2.2.2.1
theorem d178_46 : decode prog_14_method_53_code 46 = .ok (.getfield 166, 3) := dd178_27.2.2.2.2.2.2.2.2.2.2.2.1
theorem d178_49 : decode prog_14_method_53_code 49 = .ok (.if_icmp .ge 85, 3) := dd178_27.2.2.2.2.2.2.2.2.2.2.2.2.1
theorem d178_52 : decode prog_14_method_53_code 52 = .ok (.aload_n 0, 1) := dd178_27.2.2.2.2.2.2.2.2.2.2.2.2.2.1
theorem d178_53 : decode prog_14_method_53_code 53 = .ok (.getfield 166, 3) := dd178_27.2.2.2.2.2.2.2.2.2.2.2.2.2.2.1
theorem d178_56 : decode prog_14_method_53_code 56 = .ok (.iconst 1, 1) := dd178_27.2.2.2.2.2.2.2.2.2.2.2.2.2.2.2
theorem dd178_57 : (decode prog_14_method_53_code 57 = .ok (.isub, 1)) ∧ (decode prog_14_method_53_code 58 = .ok (.iload 4, 2)) ∧ (decode prog_14_method_53_code 60 = .ok (.isub, 1)) ∧ (decode prog_14_method_53_code 61 = .ok (.invokestatic 323, 3)) ∧ (decode prog_14_method_53_code 64 = .ok (.istore 5, 2)) ∧ (decode prog_14_method_53_code 66 = .ok (.iload_n 3, 1)) ∧ (decode prog_14_method_53_code 67 = .ok (.iload 5, 2)) ∧ (decode prog_14_method_53_code 69 = .ok (.idiv, 1)) ∧ (decode prog_14_method_53_code 70 = .ok (.istore 6, 2)) ∧ (decode prog_14_method_53_code 72 = .ok (.iload_n 3, 1)) ∧ (decode prog_14_method_53_code 73 = .ok (.iload 5, 2)) ∧ (decode prog_14_method_53_code 75 = .ok (.irem, 1)) ∧ (decode prog_14_method_53_code 76 = .ok (.istore_n 3, 1)) ∧ (decode prog_14_method_53_code 77 = .ok (.aload_n 0, 1)) ∧ (decode prog_14_method_53_code 78 = .ok (.getfield 33, 3)) ∧ (decode prog_14_method_53_code 81 = .ok (.iload 4, 2)) := by decide +kernel
theorem d178_57 : decode prog_14_method_53_code 57 = .ok (.isub, 1) := dd178_57.1
theorem d178_58 : decode prog_14_method_53_code 58 = .ok (.iload 4, 2) := dd178_57.2.1
theorem d178_60 : decode prog_14_method_53_code 60 = .ok (.isub, 1) := dd178_57.2.2.1
theorem d178_61 : decode prog_14_method_53_code 61 = .ok (.invokestatic 323, 3) := dd178_57.2.2.2.1
theorem d178_64 : decode prog_14_method_53_code 64 = .ok (.istore 5, 2) := dd178_57.2.2.2.2.1
theorem d178_66 : decode prog_14_method_53_code 66 = .ok (.iload_n 3, 1) := dd178_57.2.2.2.2.2.1
theorem d178_67 : decode prog_14_method_53_code 67 = .ok (.iload 5, 2) := dd178_57.2.2.2.2.2.2.1
theorem d178_69 : decode prog_14_method_53_code 69 = .ok (.idiv, 1) := dd178_57.2.2.2.2.2.2.2.1
theorem d178_70 : decode prog_14_method_53_code 70 = .ok (.istore 6, 2) := dd178_57.2.2.2.2.2.2.2.2.1
theorem d178_72 : decode prog_14_method_53_code 72 = .ok (.iload_n 3, 1) := dd178_57.2.2.2.2.2.2.2.2.2.1
theorem d178_73 : decode prog_14_method_53_code 73 = .ok (.iload 5, 2) := dd178_57.2.2.2.2.2.2.2.2.2.2.1
theorem d178_75 : decode prog_14_method_53_code 75 = .ok (.irem, 1) := dd178_57.2.2.2.2.2.2.2.2.2.2.2.1
theorem d178_76 : decode prog_14_method_53_code 76 = .ok (.istore_n 3, 1) := dd178_57.2.2.2.2.2.2.2.2.2.2.2.2.1
theorem d178_77 : decode prog_14_method_53_code 77 = .ok (.aload_n 0, 1) := dd178_57.2.2.2.2.2.2.2.2.2.2.2.2.2.1
theorem d178_78 : decode prog_14_method_53_code 78 = .ok (.getfield 33, 3) := dd178_57.2.2.2.2.2.2.2.2.2.2.2.2.2.2.1
theorem d178_81 : decode prog_14_method_53_code 81 = .ok (.iload 4, 2) := dd178_57.2.2.2.2.2.2.2.2.2.2.2.2.2.2.2
theorem dd178_83 : (decode prog_14_method_53_code 83 = .ok (.aload_n 0, 1)) ∧ (decode prog_14_method_53_code 84 = .ok (.getfield 111, 3)) ∧ (decode prog_14_method_53_code 87 = .ok (.iload 6, 2)) ∧ (decode prog_14_method_53_code 89 = .ok (.iaload, 1)) ∧ (decode prog_14_method_53_code 90 = .ok (.iastore, 1)) ∧ (decode prog_14_method_53_code 91 = .ok (.iload 6, 2)) ∧ (decode prog_14_method_53_code 93 = .ok (.istore 7, 2)) ∧ (decode prog_14_method_53_code 95 = .ok (.iload 7, 2)) ∧ (decode prog_14_method_53_code 97 = .ok (.iload_n 2, 1)) ∧ (decode prog_14_method_53_code 98 = .ok (.iconst 1, 1)) ∧ (decode prog_14_method_53_code 99 = .ok (.isub, 1)) ∧ (decode prog_14_method_53_code 100 = .ok (.if_icmp .ge 25, 3)) ∧ (decode prog_14_method_53_code 103 = .ok (.aload_n 0, 1)) ∧ (decode prog_14_method_53_code 104 = .ok (.getfield 111, 3)) ∧ (decode prog_14_method_53_code 107 = .ok (.iload 7, 2)) ∧ (decode prog_14_method_53_code 109 = .ok (.aload_n 0, 1)) := by decide +kernel
theorem d178_83 : decode prog_14_method_53_code 83 = .ok (.aload_n 0, 1) := dd178_83.1
theorem d178_84 : decode prog_14_method_53_code 84 = .ok (.getfield 111, 3) := dd178_83.2.1
theorem d178_87 : decode prog_14_method_53_code 87 = .ok (.iload 6, 2) := dd178_83.2.2.1
theorem d178_89 : decode prog_14_method_53_code 89 = .ok (.iaload, 1) := dd178_83.2.2.2.1
theorem d178_90 : decode prog_14_method_53_code 90 = .ok (.iastore, 1) := dd178_83.2.2.2.2.1
theorem d178_91 : decode prog_14_method_53_code 91 = .ok (.iload 6, 2) := dd178_83.2.2.2.2.2.1
theorem d178_93 : decode prog_14_method_53_code 93 = .ok (.istore 7, 2) := dd178_83.2.2.2.2.2.2.1
theorem d178_95 : decode prog_14_method_53_code 95 = .ok (.iload 7, 2) := dd178_83.2.2.2.2.2.2.2.1
theorem d178_97 : decode prog_14_method_53_code 97 = .ok (.iload_n 2, 1) := dd178_83.2.2.2.2.2.2.2.2.1
theorem d178_98 : decode prog_14_method_53_code 98 = .ok (.iconst 1, 1) := dd178_83.2.2.2.2.2.2.2.2.2.1
theorem d178_99 : decode prog_14_method_53_code 99 = .ok (.isub, 1) := dd178_83.2.2.2.2.2.2.2.2.2.2.1
theorem d178_100 : decode prog_14_method_53_code 100 = .ok (.if_icmp .ge 25, 3) := dd178_83.2.2.2.2.2.2.2.2.2.2.2.1
theorem d178_103 : decode prog_14_method_53_code 103 = .ok (.aload_n 0, 1) := dd178_83.2.2.2.2.2.2.2.2.2.2.2.2.1
theorem d178_104 : decode prog_14_method_53_code 104 = .ok (.getfield 111, 3) := dd178_83.2.2.2.2.2.2.2.2.2.2.2.2.2.1
theorem d178_107 : decode prog_14_method_53_code 107 = .ok (.iload 7, 2) := dd178_83.2.2.2.2.2.2.2.2.2.2.2.2.2.2.1
theorem d178_109 : decode prog_14_method_53_code 109 = .ok (.aload_n 0, 1) := dd178_83.2.2.2.2.2.2.2.2.2.2.2.2.2.2.2
theorem dd178_110 : (decode prog_14_method_53_code 110 = .ok (.getfield 111, 3)) ∧ (decode prog_14_method_53_code 113 = .ok (.iload 7, 2)) ∧ (decode prog_14_method_53_code 115 = .ok (.iconst 1, 1)) ∧ (decode prog_14_method_53_code 116 = .ok (.iadd, 1)) ∧ (decode prog_14_method_53_code 117 = .ok (.iaload, 1)) ∧ (decode prog_14_method_53_code 118 = .ok (.iastore, 1)) ∧ (decode prog_14_method_53_code 119 = .ok (.iinc 7 1, 3)) ∧ (decode prog_14_method_53_code 122 = .ok (.goto (-27), 3)) ∧ (decode prog_14_method_53_code 125 = .ok (.iinc 2 (-1), 3)) ∧ (decode prog_14_method_53_code 128 = .ok (.iinc 4 1, 3)) ∧ (decode prog_14_method_53_code 131 = .ok (.goto (-88), 3)) ∧ (decode prog_14_method_53_code 134 = .ok (.return_, 1)) := by decide +kernel
theorem d178_110 : decode prog_14_method_53_code 110 = .ok (.getfield 111, 3) := dd178_110.1
theorem d178_113 : decode prog_14_method_53_code 113 = .ok (.iload 7, 2) := dd178_110.2.1
theorem d178_115 : decode prog_14_method_53_code 115 = .ok (.iconst 1, 1) := dd178_110.2.2.1
theorem d178_116 : decode prog_14_method_53_code 116 = .ok (.iadd, 1) := dd178_110.2.2.2.1
theorem d178_117 : decode prog_14_method_53_code 117 = .ok (.iaload, 1) := dd178_110.2.2.2.2.1
theorem d178_118 : decode prog_14_method_53_code 118 = .ok (.iastore, 1) := dd178_110.2.2.2.2.2.1
theorem d178_119 : decode prog_14_method_53_code 119 = .ok (.iinc 7 1, 3) := dd178_110.2.2.2.2.2.2.1
theorem d178_122 : decode prog_14_method_53_code 122 = .ok (.goto (-27), 3) := dd178_110.2.2.2.2.2.2.2.1
theorem d178_125 : decode prog_14_method_53_code 125 = .ok (.iinc 2 (-1), 3) := dd178_110.2.2.2.2.2.2.2.2.1
theorem d178_128 : decode prog_14_method_53_code 128 = .ok (.iinc 4 1, 3) := dd178_110.2.2.2.2.2.2.2.2.2.1
theorem d178_131 : decode prog_14_method_53_code 131 = .ok (.goto (-88), 3) := dd178_110.2.2.2.2.2.2.2.2.2.2.1
theorem d178_134 : decode prog_14_method_53_code 134 = .ok (.return_, 1) := dd178_110.2.2.2.2.2.2.2.2.2.2.2
theorem b178_0 {d : Nat} {S : mm_S} {a0 : Nat} {x1 : Int32} : mm_ex d 178 0 [.ref a0, .int x1, .null, .null, .null, .null, .null, .null] [] S =
    mm_ex d 178 4 [.ref a0, .int x1, .int (nI 0), .int (nI 0), .null, .null, .null, .null] [] S :=
  Eq.trans (mx_iconst t178 d178_0 (v := nI 0) rfl) <|
  Eq.trans (mx_istore_n t178 d178_1 (ls' := [.ref a0, .int x1, .int (nI 0), .null, .null, .null, .null, .null]) rfl rfl) <|
  Eq.trans (mx_iconst t178 d178_2 (v := nI 0) rfl) <|
  (mx_istore_n t178 d178_3 (ls' := [.ref a0, .int x1, .int (nI 0), .int (nI 0), .null, .null, .null, .null]) rfl rfl)
theorem b178_4 {d : Nat} {S : mm_S} {a0 : Nat} {x1 : Int32} {x2 : Int32} {x3 : Int32} (h0 : mm_obj S a0 12 = true) : mm_ex d 178 4 [.ref a0, .int x1, .int x2, .int x3, .null, .null, .null, .null] [] S =
    if (mm_M S a0 0) ≤ x3 then mm_ex d 178 38 [.ref a0, .int x1, .int x2, .int x3, .null, .null, .null, .null] [] S else mm_ex d 178 12 [.ref a0, .int x1, .int x2, .int x3, .null, .null, .null, .null] [] S :=
  Eq.trans (mx_iload_n t178 d178_4 (x := x3) rfl) <|
  Eq.trans (mx_aload_n t178 d178_5 (x := a0) rfl) <|
  Eq.trans (mx_geti t178 d178_6 rfl fl12_159 h0) <|
  (mx_cge t178 d178_9 (tgt := 38) (by decide))
theorem b178_12 {d : Nat} {S : mm_S} {a0 : Nat} {x1 : Int32} {x2 : Int32} {x3 : Int32} (h0 : mm_rk S a0 = 12) : mm_ex (d + 1) 178 12 [.ref a0, .int x1, .int x2, .int x3, .null, .null, .null, .null] [] S =
    mm_bd (mm_cl d 130 [.ref a0, .int x3] S) (fun v S2 => mm_ex (d + 1) 178 17 [.ref a0, .int x1, .int x2, .int x3, .null, .null, .null, .null] (v.toList ++ []) S2) :=
  Eq.trans (mx_aload_n t178 d178_12 (x := a0) rfl) <|
  Eq.trans (mx_iload_n t178 d178_13 (x := x3) rfl) <|
  (mx_virt (st := []) (k := 12) t178 [.int x3] d178_14 vt12_173 rfl rfl (Nat.le_of_ble_eq_true rfl) (Nat.le_of_ble_eq_true rfl) h0)
theorem b178_17 {d : Nat} {S : mm_S} {a0 : Nat} {x1 : Int32} {x2 : Int32} {x3 : Int32} {p0 : Int32} : mm_ex d 178 17 [.ref a0, .int x1, .int x2, .int x3, .null, .null, .null, .null] [.int p0] S =
    if p0 = (-5) then mm_ex d 178 32 [.ref a0, .int x1, .int x2, .int x3, .null, .null, .null, .null] [] S else mm_ex d 178 22 [.ref a0, .int x1, .int x2, .int x3, .null, .null, .null, .null] [] S :=
  Eq.trans (mx_bipush t178 d178_17 (v := -5) rfl) <|
  (mx_ceq t178 d178_19 (tgt := 32) (by decide))
theorem b178_22 {d : Nat} {S : mm_S} {a0 : Nat} {x1 : Int32} {x2 : Int32} {x3 : Int32} (h0 : mm_obj S a0 12 = true) (h1 : (mm_R S a0 52).isSome = true) (h2 : mm_arr S (mm_rg S a0 52) 13 = true) (h3 : mm_inb x2 (mm_N S (mm_rg S a0 52)) = true) : mm_ex d 178 22 [.ref a0, .int x1, .int x2, .int x3, .null, .null, .null, .null] [] S =
    mm_ex d 178 4 [.ref a0, .int x1, .int (x2 + nI 1), .int (x3 + nI 1), .null, .null, .null, .null] [] (mm_uM S (mm_rg S a0 52) (x2).toNatClampNeg x3) :=
  Eq.trans (mx_aload_n t178 d178_22 (x := a0) rfl) <|
  Eq.trans (mx_getR t178 d178_23 rfl fl12_111 h0 h1) <|
  Eq.trans (mx_iload_n t178 d178_26 (x := x2) rfl) <|
  Eq.trans (mx_iload_n t178 d178_27 (x := x3) rfl) <|
  Eq.trans (mx_iast2 t178 d178_28 h2 h3) <|
  Eq.trans (mx_iinc t178 d178_29 (x := x2) (v := nI 1) (ls' := [.ref a0, .int x1, .int (x2 + nI 1), .int x3, .null, .null, .null, .null]) rfl rfl rfl rfl) <|
  Eq.trans (mx_iinc t178 d178_32 (x := x3) (v := nI 1) (ls' := [.ref a0, .int x1, .int (x2 + nI 1), .int (x3 + nI 1), .null, .null, .null, .null]) rfl rfl rfl rfl) <|
  (mx_goto t178 d178_35 (tgt := 4) (by decide))
theorem b178_32 {d : Nat} {S : mm_S} {a0 : Nat} {x1 : Int32} {x2 : Int32} {x3 : Int32} : mm_ex d 178 32 [.ref a0, .int x1, .int x2, .int x3, .null, .null, .null, .null] [] S =
    mm_ex d 178 4 [.ref a0, .int x1, .int x2, .int (x3 + nI 1), .null, .null, .null, .null] [] S :=
  Eq.trans (mx_iinc t178 d178_32 (x := x3) (v := nI 1) (ls' := [.ref a0, .int x1, .int x2, .int (x3 + nI 1), .null, .null, .null, .null]) rfl rfl rfl rfl) <|
  (mx_goto t178 d178_35 (tgt := 4) (by decide))
theorem b178_38 {d : Nat} {S : mm_S} {a0 : Nat} {x1 : Int32} {x2 : Int32} {x3 : Int32} : mm_ex d 178 38 [.ref a0, .int x1, .int x2, .int x3, .null, .null, .null, .null] [] S =
    mm_ex d 178 43 [.ref a0, .int x1, .int x2, .int x1, .int (nI 0), .null, .null, .null] [] S :=
  Eq.trans (mx_iload_n t178 d178_38 (x := x1) rfl) <|
  Eq.trans (mx_istore_n t178 d178_39 (ls' := [.ref a0, .int x1, .int x2, .int x1, .null, .null, .null, .null]) rfl rfl) <|
  Eq.trans (mx_iconst t178 d178_40 (v := nI 0) rfl) <|
  (mx_istore t178 d178_41 (ls' := [.ref a0, .int x1, .int x2, .int x1, .int (nI 0), .null, .null, .null]) rfl rfl)
theorem b178_43 {d : Nat} {S : mm_S} {a0 : Nat} {x1 : Int32} {x2 : Int32} {x3 : Int32} {x4 : Int32} {v5 : Value} {v6 : Value} {v7 : Value} (h0 : mm_obj S a0 12 = true) : mm_ex d 178 43 [.ref a0, .int x1, .int x2, .int x3, .int x4, v5, v6, v7] [] S =
    if (mm_M S a0 8) ≤ x4 then mm_ex d 178 134 [.ref a0, .int x1, .int x2, .int x3, .int x4, v5, v6, v7] [] S else mm_ex d 178 52 [.ref a0, .int x1, .int x2, .int x3, .int x4, v5, v6, v7] [] S :=
  Eq.trans (mx_iload t178 d178_43 (x := x4) rfl) <|
  Eq.trans (mx_aload_n t178 d178_45 (x := a0) rfl) <|
  Eq.trans (mx_geti t178 d178_46 rfl fl12_166 h0) <|
  (mx_cge t178 d178_49 (tgt := 134) (by decide))
theorem b178_52 {d : Nat} {S : mm_S} {a0 : Nat} {x1 : Int32} {x2 : Int32} {x3 : Int32} {x4 : Int32} {v5 : Value} {v6 : Value} {v7 : Value} (h0 : mm_obj S a0 12 = true) : mm_ex (d + 1) 178 52 [.ref a0, .int x1, .int x2, .int x3, .int x4, v5, v6, v7] [] S =
    mm_bd (mm_cl d 177 [.int (((mm_M S a0 8) - (nI 1)) - x4)] S) (fun v S2 => mm_ex (d + 1) 178 64 [.ref a0, .int x1, .int x2, .int x3, .int x4, v5, v6, v7] (v.toList ++ []) S2) :=
  Eq.trans (mx_aload_n t178 d178_52 (x := a0) rfl) <|
  Eq.trans (mx_geti t178 d178_53 rfl fl12_166 h0) <|
  Eq.trans (mx_iconst t178 d178_56 (v := nI 1) rfl) <|
  Eq.trans (mx_isub t178 d178_57) <|
  Eq.trans (mx_iload t178 d178_58 (x := x4) rfl) <|
  Eq.trans (mx_isub t178 d178_60) <|
  (mx_stat (st := []) t178 [.int (((mm_M S a0 8) - (nI 1)) - x4)] d178_61 acn12_323 mxn12_323 st12_323 rfl (Nat.le_of_ble_eq_true rfl) (Nat.le_of_ble_eq_true rfl))
theorem b178_64 {d : Nat} {S : mm_S} {a0 : Nat} {x1 : Int32} {x2 : Int32} {x3 : Int32} {x4 : Int32} {v5 : Value} {v6 : Value} {v7 : Value} {p0 : Int32} (h0 : ¬ p0 = nI 0) (h1 : mm_obj S a0 12 = true) (h2 : (mm_R S a0 9).isSome = true) (h3 : (mm_R S a0 52).isSome = true) (h4 : mm_inb (x3 / p0) (mm_N S (mm_rg S a0 52)) = true) (h5 : mm_arr S (mm_rg S a0 52) 13 = true) (h6 : mm_arr S (mm_rg S a0 9) 13 = true) (h7 : mm_inb x4 (mm_N S (mm_rg S a0 9)) = true) : mm_ex d 178 64 [.ref a0, .int x1, .int x2, .int x3, .int x4, v5, v6, v7] [.int p0] S =
    mm_ex d 178 95 [.ref a0, .int x1, .int x2, .int (x3 - x3 / p0 * p0), .int x4, .int p0, .int (x3 / p0), .int (x3 / p0)] [] (mm_uM S (mm_rg S a0 9) (x4).toNatClampNeg (mm_M S (mm_rg S a0 52) (x3 / p0).toNatClampNeg)) :=
  Eq.trans (mx_istore t178 d178_64 (ls' := [.ref a0, .int x1, .int x2, .int x3, .int x4, .int p0, v6, v7]) rfl rfl) <|
  Eq.trans (mx_iload_n t178 d178_66 (x := x3) rfl) <|
  Eq.trans (mx_iload t178 d178_67 (x := p0) rfl) <|
  Eq.trans (mx_idiv t178 d178_69 h0) <|
  Eq.trans (mx_istore t178 d178_70 (ls' := [.ref a0, .int x1, .int x2, .int x3, .int x4, .int p0, .int (x3 / p0), v7]) rfl rfl) <|
  Eq.trans (mx_iload_n t178 d178_72 (x := x3) rfl) <|
  Eq.trans (mx_iload t178 d178_73 (x := p0) rfl) <|
  Eq.trans (mx_irem t178 d178_75 h0) <|
  Eq.trans (mx_istore_n t178 d178_76 (ls' := [.ref a0, .int x1, .int x2, .int (x3 - x3 / p0 * p0), .int x4, .int p0, .int (x3 / p0), v7]) rfl rfl) <|
  Eq.trans (mx_aload_n t178 d178_77 (x := a0) rfl) <|
  Eq.trans (mx_getR t178 d178_78 rfl fl12_33 h1 h2) <|
  Eq.trans (mx_iload t178 d178_81 (x := x4) rfl) <|
  Eq.trans (mx_aload_n t178 d178_83 (x := a0) rfl) <|
  Eq.trans (mx_getR t178 d178_84 rfl fl12_111 h1 h3) <|
  Eq.trans (mx_iload t178 d178_87 (x := x3 / p0) rfl) <|
  Eq.trans (mx_iald t178 d178_89 h5 h4) <|
  Eq.trans (mx_iast2 t178 d178_90 h6 h7) <|
  Eq.trans (mx_iload t178 d178_91 (x := x3 / p0) rfl) <|
  (mx_istore t178 d178_93 (ls' := [.ref a0, .int x1, .int x2, .int (x3 - x3 / p0 * p0), .int x4, .int p0, .int (x3 / p0), .int (x3 / p0)]) rfl rfl)
theorem b178_95 {d : Nat} {S : mm_S} {a0 : Nat} {x1 : Int32} {x2 : Int32} {x3 : Int32} {x4 : Int32} {x5 : Int32} {x6 : Int32} {x7 : Int32} : mm_ex d 178 95 [.ref a0, .int x1, .int x2, .int x3, .int x4, .int x5, .int x6, .int x7] [] S =
    if (x2 - (nI 1)) ≤ x7 then mm_ex d 178 125 [.ref a0, .int x1, .int x2, .int x3, .int x4, .int x5, .int x6, .int x7] [] S else mm_ex d 178 103 [.ref a0, .int x1, .int x2, .int x3, .int x4, .int x5, .int x6, .int x7] [] S :=
  Eq.trans (mx_iload t178 d178_95 (x := x7) rfl) <|
  Eq.trans (mx_iload_n t178 d178_97 (x := x2) rfl) <|
  Eq.trans (mx_iconst t178 d178_98 (v := nI 1) rfl) <|
  Eq.trans (mx_isub t178 d178_99) <|
  (mx_cge t178 d178_100 (tgt := 125) (by decide))
theorem b178_103 {d : Nat} {S : mm_S} {a0 : Nat} {x1 : Int32} {x2 : Int32} {x3 : Int32} {x4 : Int32} {x5 : Int32} {x6 : Int32} {x7 : Int32} (h0 : mm_obj S a0 12 = true) (h1 : (mm_R S a0 52).isSome = true) (h2 : mm_inb (x7 + (nI 1)) (mm_N S (mm_rg S a0 52)) = true) (h3 : mm_arr S (mm_rg S a0 52) 13 = true) (h4 : mm_inb x7 (mm_N S (mm_rg S a0 52)) = true) : mm_ex d 178 103 [.ref a0, .int x1, .int x2, .int x3, .int x4, .int x5, .int x6, .int x7] [] S =
    mm_ex d 178 95 [.ref a0, .int x1, .int x2, .int x3, .int x4, .int x5, .int x6, .int (x7 + nI 1)] [] (mm_uM S (mm_rg S a0 52) (x7).toNatClampNeg (mm_M S (mm_rg S a0 52) (x7 + (nI 1)).toNatClampNeg)) :=
  Eq.trans (mx_aload_n t178 d178_103 (x := a0) rfl) <|
  Eq.trans (mx_getR t178 d178_104 rfl fl12_111 h0 h1) <|
  Eq.trans (mx_iload t178 d178_107 (x := x7) rfl) <|
  Eq.trans (mx_aload_n t178 d178_109 (x := a0) rfl) <|
  Eq.trans (mx_getR t178 d178_110 rfl fl12_111 h0 h1) <|
  Eq.trans (mx_iload t178 d178_113 (x := x7) rfl) <|
  Eq.trans (mx_iconst t178 d178_115 (v := nI 1) rfl) <|
  Eq.trans (mx_iadd t178 d178_116) <|
  Eq.trans (mx_iald t178 d178_117 h3 h2) <|
  Eq.trans (mx_iast2 t178 d178_118 h3 h4) <|
  Eq.trans (mx_iinc t178 d178_119 (x := x7) (v := nI 1) (ls' := [.ref a0, .int x1, .int x2, .int x3, .int x4, .int x5, .int x6, .int (x7 + nI 1)]) rfl rfl rfl rfl) <|
  (mx_goto t178 d178_122 (tgt := 95) (by decide))
theorem b178_125 {d : Nat} {S : mm_S} {a0 : Nat} {x1 : Int32} {x2 : Int32} {x3 : Int32} {x4 : Int32} {x5 : Int32} {x6 : Int32} {x7 : Int32} : mm_ex d 178 125 [.ref a0, .int x1, .int x2, .int x3, .int x4, .int x5, .int x6, .int x7] [] S =
    mm_ex d 178 43 [.ref a0, .int x1, .int (x2 + (-1)), .int x3, .int (x4 + nI 1), .int x5, .int x6, .int x7] [] S :=
  Eq.trans (mx_iinc t178 d178_125 (x := x2) (v := -1) (ls' := [.ref a0, .int x1, .int (x2 + (-1)), .int x3, .int x4, .int x5, .int x6, .int x7]) rfl rfl rfl rfl) <|
  Eq.trans (mx_iinc t178 d178_128 (x := x4) (v := nI 1) (ls' := [.ref a0, .int x1, .int (x2 + (-1)), .int x3, .int (x4 + nI 1), .int x5, .int x6, .int x7]) rfl rfl rfl rfl) <|
  (mx_goto t178 d178_131 (tgt := 43) (by decide))
theorem b178_134 {d : Nat} {S : mm_S} {a0 : Nat} {x1 : Int32} {x2 : Int32} {x3 : Int32} {x4 : Int32} {v5 : Value} {v6 : Value} {v7 : Value} : mm_ex d 178 134 [.ref a0, .int x1, .int x2, .int x3, .int x4, v5, v6, v7] [] S =
    some (none, S) :=
  (mx_vret t178 d178_134 rfl)
theorem e178 {d : Nat} {S : mm_S} {a0 : Nat} {x1 : Int32} : mm_cl d 178 [.ref a0, .int x1] S = mm_ex d 178 0 [.ref a0, .int x1, .null, .null, .null, .null, .null, .null] [] S := mm_cl_eq t178 (Nat.le_of_ble_eq_true rfl) rfl
/-! X12_order -/
theorem dd179_0 : (decode prog_14_method_54_code 0 = .ok (.iload_n 1, 1)) ∧ (decode prog_14_method_54_code 1 = .ok (.iconst 0, 1)) ∧ (decode prog_14_method_54_code 2 = .ok (.iconst 1, 1)) ∧ (decode prog_14_method_54_code 3 = .ok (.invokestatic 162, 3)) ∧ (decode prog_14_method_54_code 6 = .ok (.ifCond .eq 17, 3)) ∧ (decode prog_14_method_54_code 9 = .ok (.iload_n 2, 1)) ∧ (decode prog_14_method_54_code 10 = .ok (.iconst (-1), 1)) ∧ (decode prog_14_method_54_code 11 = .ok (.aload_n 0, 1)) ∧ (decode prog_14_method_54_code 12 = .ok (.getfield 166, 3)) ∧ (decode prog_14_method_54_code 15 = .ok (.iconst 1, 1)) ∧ (decode prog_14_method_54_code 16 = .ok (.isub, 1)) ∧ (decode prog_14_method_54_code 17 = .ok (.invokestatic 162, 3)) ∧ (decode prog_14_method_54_code 20 = .ok (.ifCond .ne 6, 3)) ∧ (decode prog_14_method_54_code 23 = .ok (.ldc 183, 2)) ∧ (decode prog_14_method_54_code 25 = .ok (.ireturn, 1)) ∧ (decode prog_14_method_54_code 26 = .ok (.aload_n 0, 1)) := by decide +kernel
theorem d179_0 : decode prog_14_method_54_code 0 = .ok (.iload_n 1, 1) := dd179_0.1
theorem d179_1 : decode prog_14_method_54_code 1 = .ok (.iconst 0, 1) := dd179_0.2.1
theorem d179_2 : decode prog_14_method_54_code 2 = .ok (.iconst 1, 1) := dd179_0.2.2.1
theorem d179_3 : decode prog_14_method_54_code 3 = .ok (.invokestatic 162, 3) := dd179_0.2.2.2.1
theorem d179_6 : decode prog_14_method_54_code 6 = .ok (.ifCond .eq 17, 3) := dd179_0.2.2.2.2.1
theorem d179_9 : decode prog_14_method_54_code 9 = .ok (.iload_n 2, 1) := dd179_0.2.2.2.2.2.1
theorem d179_10 : decode prog_14_method_54_code 10 = .ok (.iconst (-1), 1) := dd179_0.2.2.2.2.2.2.1
theorem d179_11 : decode prog_14_method_54_code 11 = .ok (.aload_n 0, 1) := dd179_0.2.2.2.2.2.2.2.1
theorem d179_12 : decode prog_14_method_54_code 12 = .ok (.getfield 166, 3) := dd179_0.2.2.2.2.2.2.2.2.1
theorem d179_15 : decode prog_14_method_54_code 15 = .ok (.iconst 1, 1) := dd179_0.2.2.2.2.2.2.2.2.2.1
theorem d179_16 : decode prog_14_method_54_code 16 = .ok (.isub, 1) := dd179_0.2.2.2.2.2.2.2.2.2.2.1
theorem d179_17 : decode prog_14_method_54_code 17 = .ok (.invokestatic 162, 3) := dd179_0.2.2.2.2.2.2.2.2.2.2.2.1
theorem d179_20 : decode prog_14_method_54_code 20 = .ok (.ifCond .ne 6, 3) := dd179_0.2.2.2.2.2.2.2.2.2.2.2.2.1
theorem d179_23 : decode prog_14_method_54_code 23 = .ok (.ldc 183, 2) := dd179_0.2.2.2.2.2.2.2.2.2.2.2.2.2.1
theorem d179_25 : decode prog_14_method_54_code 25 = .ok (.ireturn, 1) := dd179_0.2.2.2.2.2.2.2.2.2.2.2.2.2.2.1
theorem d179_26 : decode prog_14_method_54_code 26 = .ok (.aload_n 0, 1) := dd179_0.2.2.2.2.2.2.2.2.2.2.2.2.2.2.2
theorem dd179_27 : (decode prog_14_method_54_code 27 = .ok (.getfield 166, 3)) ∧ (decode prog_14_method_54_code 30 = .ok (.iconst 5, 1)) ∧ (decode prog_14_method_54_code 31 = .ok (.if_icmp .le 6, 3)) ∧ (decode prog_14_method_54_code 34 = .ok (.bipush (-9), 2)) ∧ (decode prog_14_method_54_code 36 = .ok (.ireturn, 1)) ∧ (decode prog_14_method_54_code 37 = .ok (.iconst (-1), 1)) ∧ (decode prog_14_method_54_code 38 = .ok (.istore_n 3, 1)) ∧ (decode prog_14_method_54_code 39 = .ok (.iconst 0, 1)) ∧ (decode prog_14_method_54_code 40 = .ok (.istore 4, 2)) ∧ (decode prog_14_method_54_code 42 = .ok (.iconst 0, 1)) ∧ (decode prog_14_method_54_code 43 = .ok (.istore 5, 2)) ∧ (decode prog_14_method_54_code 45 = .ok (.iload 5, 2)) ∧ (decode prog_14_method_54_code 47 = .ok (.aload_n 0, 1)) ∧ (decode prog_14_method_54_code 48 = .ok (.getfield 166, 3)) ∧ (decode prog_14_method_54_code 51 = .ok (.invokestatic 323, 3)) ∧ (decode prog_14_method_54_code 54 = .ok (.if_icmp .ge 63, 3)) := by decide +kernel
theorem d179_27 : decode prog_14_method_54_code 27 = .ok (.getfield 166, 3) := dd179_27.1
theorem d179_30 : decode prog_14_method_54_code 30 = .ok (.iconst 5, 1) := dd179_27.2.1
theorem d179_31 : decode prog_14_method_54_code 31 = .ok (.if_icmp .le 6, 3) := dd179_27.2.2.1
theorem d179_34 : decode prog_14_method_54_code 34 = .ok (.bipush (-9), 2) := dd179_27.2.2.2.1
theorem d179_36 : decode prog_14_method_54_code 36 = .ok (.ireturn, 1) := dd179_27.2.2.2.2.1
theorem d179_37 : decode prog_14_method_54_code 37 = .ok (.iconst (-1), 1) := dd179_27.2.2.2.2.2.1
theorem d179_38 : decode prog_14_method_54_code 38 = .ok (.istore_n 3, 1) := dd179_27.2.2.2.2.2.2.1
theorem d179_39 : decode prog_14_method_54_code 39 = .ok (.iconst 0, 1) := dd179_27.2.2.2.2.2.2.2.1
theorem d179_40 : decode prog_14_method_54_code 40 = .ok (.istore 4, 2) := dd179_27.2.2.2.2.2.2.2.2.1
theorem d179_42 : decode prog_14_method_54_code 42 = .ok (.iconst 0, 1) := dd179_27.2.2.2.2.2.2.2.2.2.1
theorem d179_43 : decode prog_14_method_54_code 43 = .ok (.istore 5, 2) := dd179_27.2.2.2.2.2.2.2.2.2.2.1
theorem d179_45 : decode prog_14_method_54_code 45 = .ok (.iload 5, 2) := dd179_27.2.2.2.2.2.2.2.2.2.2.2.1
theorem d179_47 : decode prog_14_method_54_code 47 = .ok (.aload_n 0, 1) := dd179_27.2.2.2.2.2.2.2.2.2.2.2.2.1
theorem d179_48 : decode prog_14_method_54_code 48 = .ok (.getfield 166, 3) := dd179_27.2.2.2.2.2.2.2.2.2.2.2.2.2.1
theorem d179_51 : decode prog_14_method_54_code 51 = .ok (.invokestatic 323, 3) := dd179_27.2.2.2.2.2.2.2.2.2.2.2.2.2.2.1
theorem d179_54 : decode prog_14_method_54_code 54 = .ok (.if_icmp .ge 63, 3) := dd179_27.2.2.2.2.2.2.2.2.2.2.2.2.2.2.2
theorem dd179_57 : (decode prog_14_method_54_code 57 = .ok (.aload_n 0, 1)) ∧ (decode prog_14_method_54_code 58 = .ok (.invokevirtual 311, 3)) ∧ (decode prog_14_method_54_code 61 = .ok (.aload_n 0, 1)) ∧ (decode prog_14_method_54_code 62 = .ok (.iload 5, 2)) ∧ (decode prog_14_method_54_code 64 = .ok (.invokevirtual 326, 3)) ∧ (decode prog_14_method_54_code 67 = .ok (.aload_n 0, 1)) ∧ (decode prog_14_method_54_code 68 = .ok (.invokevirtual 314, 3)) ∧ (decode prog_14_method_54_code 71 = .ok (.iload_n 1, 1)) ∧ (decode prog_14_method_54_code 72 = .ok (.ifCond .ne 10, 3)) ∧ (decode prog_14_method_54_code 75 = .ok (.aload_n 0, 1)) ∧ (decode prog_14_method_54_code 76 = .ok (.getfield 257, 3)) ∧ (decode prog_14_method_54_code 79 = .ok (.goto 7, 3)) ∧ (decode prog_14_method_54_code 82 = .ok (.aload_n 0, 1)) ∧ (decode prog_14_method_54_code 83 = .ok (.invokevirtual 320, 3)) ∧ (decode prog_14_method_54_code 86 = .ok (.istore 6, 2)) ∧ (decode prog_14_method_54_code 88 = .ok (.aload_n 0, 1)) := by decide +kernel
theorem d179_57 : decode prog_14_method_54_code 57 = .ok (.aload_n 0, 1) := dd179_57.1
theorem d179_58 : decode prog_14_method_54_code 58 = .ok (.invokevirtual 311, 3) := dd179_57.2.1
theorem d179_61 : decode prog_14_method_54_code 61 = .ok (.aload_n 0, 1) := dd179_57.2.2.1
theorem d179_62 : decode prog_14_method_54_code 62 = .ok (.iload 5, 2) := dd179_57.2.2.2.1
theorem d179_64 : decode prog_14_method_54_code 64 = .ok (.invokevirtual 326, 3) := dd179_57.2.2.2.2.1
theorem d179_67 : decode prog_14_method_54_code 67 = .ok (.aload_n 0, 1) := dd179_57.2.2.2.2.2.1
theorem d179_68 : decode prog_14_method_54_code 68 = .ok (.invokevirtual 314, 3) := dd179_57.2.2.2.2.2.2.1
theorem d179_71 : decode prog_14_method_54_code 71 = .ok (.iload_n 1, 1) := dd179_57.2.2.2.2.2.2.2.1
theorem d179_72 : decode prog_14_method_54_code 72 = .ok (.ifCond .ne 10, 3) := dd179_57.2.2.2.2.2.2.2.2.1
theorem d179_75 : decode prog_14_method_54_code 75 = .ok (.aload_n 0, 1) := dd179_57.2.2.2.2.2.2.2.2.2.1
theorem d179_76 : decode prog_14_method_54_code 76 = .ok (.getfield 257, 3) := dd179_57.2.2.2.2.2.2.2.2.2.2.1
theorem d179_79 : decode prog_14_method_54_code 79 = .ok (.goto 7, 3) := dd179_57.2.2.2.2.2.2.2.2.2.2.2.1
theorem d179_82 : decode prog_14_method_54_code 82 = .ok (.aload_n 0, 1) := dd179_57.2.2.2.2.2.2.2.2.2.2.2.2.1
theorem d179_83 : decode prog_14_method_54_code 83 = .ok (.invokevirtual 320, 3) := dd179_57.2.2.2.2.2.2.2.2.2.2.2.2.2.1
theorem d179_86 : decode prog_14_method_54_code 86 = .ok (.istore 6, 2) := dd179_57.2.2.2.2.2.2.2.2.2.2.2.2.2.2.1
theorem d179_88 : decode prog_14_method_54_code 88 = .ok (.aload_n 0, 1) := dd179_57.2.2.2.2.2.2.2.2.2.2.2.2.2.2.2
theorem dd179_89 : (decode prog_14_method_54_code 89 = .ok (.invokevirtual 317, 3)) ∧ (decode prog_14_method_54_code 92 = .ok (.iload_n 3, 1)) ∧ (decode prog_14_method_54_code 93 = .ok (.iconst (-1), 1)) ∧ (decode prog_14_method_54_code 94 = .ok (.if_icmp .eq 10, 3)) ∧ (decode prog_14_method_54_code 97 = .ok (.iload 6, 2)) ∧ (decode prog_14_method_54_code 99 = .ok (.iload 4, 2)) ∧ (decode prog_14_method_54_code 101 = .ok (.if_icmp .le 10, 3)) ∧ (decode prog_14_method_54_code 104 = .ok (.iload 5, 2)) ∧ (decode prog_14_method_54_code 106 = .ok (.istore_n 3, 1)) ∧ (decode prog_14_method_54_code 107 = .ok (.iload 6, 2)) ∧ (decode prog_14_method_54_code 109 = .ok (.istore 4, 2)) ∧ (decode prog_14_method_54_code 111 = .ok (.iinc 5 1, 3)) ∧ (decode prog_14_method_54_code 114 = .ok (.goto (-69), 3)) ∧ (decode prog_14_method_54_code 117 = .ok (.iload_n 2, 1)) ∧ (decode prog_14_method_54_code 118 = .ok (.iconst (-1), 1)) ∧ (decode prog_14_method_54_code 119 = .ok (.if_icmp .ne 6, 3)) := by decide +kernel
theorem d179_89 : decode prog_14_method_54_code 89 = .ok (.invokevirtual 317, 3) := dd179_89.1
theorem d179_92 : decode prog_14_method_54_code 92 = .ok (.iload_n 3, 1) := dd179_89.2.1
theorem d179_93 : decode prog_14_method_54_code 93 = .ok (.iconst (-1), 1) := dd179_89.2.2.1
theorem d179_94 : decode prog_14_method_54_code 94 = .ok (.if_icmp .eq 10, 3) := dd179_89.2.2.2.1
theorem d179_97 : decode prog_14_method_54_code 97 = .ok (.iload 6, 2) := dd179_89.2.2.2.2.1
theorem d179_99 : decode prog_14_method_54_code 99 = .ok (.iload 4, 2) := dd179_89.2.2.2.2.2.1
theorem d179_101 : decode prog_14_method_54_code 101 = .ok (.if_icmp .le 10, 3) := dd179_89.2.2.2.2.2.2.1
theorem d179_104 : decode prog_14_method_54_code 104 = .ok (.iload 5, 2) := dd179_89.2.2.2.2.2.2.2.1
theorem d179_106 : decode prog_14_method_54_code 106 = .ok (.istore_n 3, 1) := dd179_89.2.2.2.2.2.2.2.2.1
theorem d179_107 : decode prog_14_method_54_code 107 = .ok (.iload 6, 2) := dd179_89.2.2.2.2.2.2.2.2.2.1
theorem d179_109 : decode prog_14_method_54_code 109 = .ok (.istore 4, 2) := dd179_89.2.2.2.2.2.2.2.2.2.2.1
theorem d179_111 : decode prog_14_method_54_code 111 = .ok (.iinc 5 1, 3) := dd179_89.2.2.2.2.2.2.2.2.2.2.2.1
theorem d179_114 : decode prog_14_method_54_code 114 = .ok (.goto (-69), 3) := dd179_89.2.2.2.2.2.2.2.2.2.2.2.2.1
theorem d179_117 : decode prog_14_method_54_code 117 = .ok (.iload_n 2, 1) := dd179_89.2.2.2.2.2.2.2.2.2.2.2.2.2.1
theorem d179_118 : decode prog_14_method_54_code 118 = .ok (.iconst (-1), 1) := dd179_89.2.2.2.2.2.2.2.2.2.2.2.2.2.2.1
theorem d179_119 : decode prog_14_method_54_code 119 = .ok (.if_icmp .ne 6, 3) := dd179_89.2.2.2.2.2.2.2.2.2.2.2.2.2.2.2
theorem dd179_122 : (decode prog_14_method_54_code 122 = .ok (.iload 4, 2)) ∧ (decode prog_14_method_54_code 124 = .ok (.ireturn, 1)) ∧ (decode prog_14_method_54_code 125 = .ok (.aload_n 0, 1)) ∧ (decode prog_14_method_54_code 126 = .ok (.invokevirtual 311, 3)) ∧ (decode prog_14_method_54_code 129 = .ok (.aload_n 0, 1)) ∧ (decode prog_14_method_54_code 130 = .ok (.iload_n 3, 1)) ∧ (decode prog_14_method_54_code 131 = .ok (.invokevirtual 326, 3)) ∧ (decode prog_14_method_54_code 134 = .ok (.aload_n 0, 1)) ∧ (decode prog_14_method_54_code 135 = .ok (.getfield 33, 3)) ∧ (decode prog_14_method_54_code 138 = .ok (.iload_n 2, 1)) ∧ (decode prog_14_method_54_code 139 = .ok (.iaload, 1)) ∧ (decode prog_14_method_54_code 140 = .ok (.istore 5, 2)) ∧ (decode prog_14_method_54_code 142 = .ok (.aload_n 0, 1)) ∧ (decode prog_14_method_54_code 143 = .ok (.invokevirtual 317, 3)) ∧ (decode prog_14_method_54_code 146 = .ok (.iload 5, 2)) ∧ (decode prog_14_method_54_code 148 = .ok (.ireturn, 1)) := by decide +kernel
theorem d179_122 : decode prog_14_method_54_code 122 = .ok (.iload 4, 2) := dd179_122.1
theorem d179_124 : decode prog_14_method_54_code 124 = .ok (.ireturn, 1) := dd179_122.2.1
theorem d179_125 : decode prog_14_method_54_code 125 = .ok (.aload_n 0, 1) := dd179_122.2.2.1
theorem d179_126 : decode prog_14_method_54_code 126 = .ok (.invokevirtual 311, 3) := dd179_122.2.2.2.1
theorem d179_129 : decode prog_14_method_54_code 129 = .ok (.aload_n 0, 1) := dd179_122.2.2.2.2.1
theorem d179_130 : decode prog_14_method_54_code 130 = .ok (.iload_n 3, 1) := dd179_122.2.2.2.2.2.1
theorem d179_131 : decode prog_14_method_54_code 131 = .ok (.invokevirtual 326, 3) := dd179_122.2.2.2.2.2.2.1
theorem d179_134 : decode prog_14_method_54_code 134 = .ok (.aload_n 0, 1) := dd179_122.2.2.2.2.2.2.2.1
theorem d179_135 : decode prog_14_method_54_code 135 = .ok (.getfield 33, 3) := dd179_122.2.2.2.2.2.2.2.2.1
theorem d179_138 : decode prog_14_method_54_code 138 = .ok (.iload_n 2, 1) := dd179_122.2.2.2.2.2.2.2.2.2.1
theorem d179_139 : decode prog_14_method_54_code 139 = .ok (.iaload, 1) := dd179_122.2.2.2.2.2.2.2.2.2.2.1
theorem d179_140 : decode prog_14_method_54_code 140 = .ok (.istore 5, 2) := dd179_122.2.2.2.2.2.2.2.2.2.2.2.1
theorem d179_142 : decode prog_14_method_54_code 142 = .ok (.aload_n 0, 1) := dd179_122.2.2.2.2.2.2.2.2.2.2.2.2.1
theorem d179_143 : decode prog_14_method_54_code 143 = .ok (.invokevirtual 317, 3) := dd179_122.2.2.2.2.2.2.2.2.2.2.2.2.2.1
theorem d179_146 : decode prog_14_method_54_code 146 = .ok (.iload 5, 2) := dd179_122.2.2.2.2.2.2.2.2.2.2.2.2.2.2.1
theorem d179_148 : decode prog_14_method_54_code 148 = .ok (.ireturn, 1) := dd179_122.2.2.2.2.2.2.2.2.2.2.2.2.2.2.2
theorem b179_0 {d : Nat} {S : mm_S} {a0 : Nat} {x1 : Int32} {x2 : Int32} : mm_ex (d + 1) 179 0 [.ref a0, .int x1, .int x2, .null, .null, .null, .null] [] S =
    mm_bd (mm_cl d 128 [.int x1, .int (nI 0), .int (nI 1)] S) (fun v S2 => mm_ex (d + 1) 179 6 [.ref a0, .int x1, .int x2, .null, .null, .null, .null] (v.toList ++ []) S2) :=
  Eq.trans (mx_iload_n t179 d179_0 (x := x1) rfl) <|
  Eq.trans (mx_iconst t179 d179_1 (v := nI 0) rfl) <|
  Eq.trans (mx_iconst t179 d179_2 (v := nI 1) rfl) <|
  (mx_stat (st := []) t179 [.int x1, .int (nI 0), .int (nI 1)] d179_3 acn12_162 mxn12_162 st12_162 rfl (Nat.le_of_ble_eq_true rfl) (Nat.le_of_ble_eq_true rfl))
theorem b179_6 {d : Nat} {S : mm_S} {a0 : Nat} {x1 : Int32} {x2 : Int32} {p0 : Int32} : mm_ex d 179 6 [.ref a0, .int x1, .int x2, .null, .null, .null, .null] [.int p0] S =
    if p0 = nI 0 then mm_ex d 179 23 [.ref a0, .int x1, .int x2, .null, .null, .null, .null] [] S else mm_ex d 179 9 [.ref a0, .int x1, .int x2, .null, .null, .null, .null] [] S :=
  (mx_ieq t179 d179_6 (tgt := 23) (by decide))
theorem b179_9 {d : Nat} {S : mm_S} {a0 : Nat} {x1 : Int32} {x2 : Int32} (h0 : mm_obj S a0 12 = true) : mm_ex (d + 1) 179 9 [.ref a0, .int x1, .int x2, .null, .null, .null, .null] [] S =
    mm_bd (mm_cl d 128 [.int x2, .int (-1), .int ((mm_M S a0 8) - (nI 1))] S) (fun v S2 => mm_ex (d + 1) 179 20 [.ref a0, .int x1, .int x2, .null, .null, .null, .null] (v.toList ++ []) S2) :=
  Eq.trans (mx_iload_n t179 d179_9 (x := x2) rfl) <|
  Eq.trans (mx_iconst t179 d179_10 (v := -1) rfl) <|
  Eq.trans (mx_aload_n t179 d179_11 (x := a0) rfl) <|
  Eq.trans (mx_geti t179 d179_12 rfl fl12_166 h0) <|
  Eq.trans (mx_iconst t179 d179_15 (v := nI 1) rfl) <|
  Eq.trans (mx_isub t179 d179_16) <|
  (mx_stat (st := []) t179 [.int x2, .int (-1), .int ((mm_M S a0 8) - (nI 1))] d179_17 acn12_162 mxn12_162 st12_162 rfl (Nat.le_of_ble_eq_true rfl) (Nat.le_of_ble_eq_true rfl))
theorem b179_20 {d : Nat} {S : mm_S} {a0 : Nat} {x1 : Int32} {x2 : Int32} {p0 : Int32} : mm_ex d 179 20 [.ref a0, .int x1, .int x2, .null, .null, .null, .null] [.int p0] S =
    if p0 = nI 0 then mm_ex d 179 23 [.ref a0, .int x1, .int x2, .null, .null, .null, .null] [] S else mm_ex d 179 26 [.ref a0, .int x1, .int x2, .null, .null, .null, .null] [] S :=
  (mx_ine t179 d179_20 (tgt := 26) (by decide))
theorem b179_23 {d : Nat} {S : mm_S} {a0 : Nat} {x1 : Int32} {x2 : Int32} : mm_ex d 179 23 [.ref a0, .int x1, .int x2, .null, .null, .null, .null] [] S =
    some (some (.int (-100001)), S) :=
  Eq.trans (mx_ldc t179 d179_23 (v := .int (-100001)) lc12_183) <|
  (mx_iret t179 d179_25 (ty := .int) rfl rfl (fun h => nomatch h))
theorem b179_26 {d : Nat} {S : mm_S} {a0 : Nat} {x1 : Int32} {x2 : Int32} (h0 : mm_obj S a0 12 = true) : mm_ex d 179 26 [.ref a0, .int x1, .int x2, .null, .null, .null, .null] [] S =
    if (mm_M S a0 8) ≤ (nI 5) then mm_ex d 179 37 [.ref a0, .int x1, .int x2, .null, .null, .null, .null] [] S else mm_ex d 179 34 [.ref a0, .int x1, .int x2, .null, .null, .null, .null] [] S :=
  Eq.trans (mx_aload_n t179 d179_26 (x := a0) rfl) <|
  Eq.trans (mx_geti t179 d179_27 rfl fl12_166 h0) <|
  Eq.trans (mx_iconst t179 d179_30 (v := nI 5) rfl) <|
  (mx_cle t179 d179_31 (tgt := 37) (by decide))
theorem b179_34 {d : Nat} {S : mm_S} {a0 : Nat} {x1 : Int32} {x2 : Int32} : mm_ex d 179 34 [.ref a0, .int x1, .int x2, .null, .null, .null, .null] [] S =
    some (some (.int (-9)), S) :=
  Eq.trans (mx_bipush t179 d179_34 (v := -9) rfl) <|
  (mx_iret t179 d179_36 (ty := .int) rfl rfl (fun h => nomatch h))
theorem b179_37 {d : Nat} {S : mm_S} {a0 : Nat} {x1 : Int32} {x2 : Int32} : mm_ex d 179 37 [.ref a0, .int x1, .int x2, .null, .null, .null, .null] [] S =
    mm_ex d 179 45 [.ref a0, .int x1, .int x2, .int (-1), .int (nI 0), .int (nI 0), .null] [] S :=
  Eq.trans (mx_iconst t179 d179_37 (v := -1) rfl) <|
  Eq.trans (mx_istore_n t179 d179_38 (ls' := [.ref a0, .int x1, .int x2, .int (-1), .null, .null, .null]) rfl rfl) <|
  Eq.trans (mx_iconst t179 d179_39 (v := nI 0) rfl) <|
  Eq.trans (mx_istore t179 d179_40 (ls' := [.ref a0, .int x1, .int x2, .int (-1), .int (nI 0), .null, .null]) rfl rfl) <|
  Eq.trans (mx_iconst t179 d179_42 (v := nI 0) rfl) <|
  (mx_istore t179 d179_43 (ls' := [.ref a0, .int x1, .int x2, .int (-1), .int (nI 0), .int (nI 0), .null]) rfl rfl)
theorem b179_45 {d : Nat} {S : mm_S} {a0 : Nat} {x1 : Int32} {x2 : Int32} {x3 : Int32} {x4 : Int32} {x5 : Int32} {v6 : Value} (h0 : mm_obj S a0 12 = true) : mm_ex (d + 1) 179 45 [.ref a0, .int x1, .int x2, .int x3, .int x4, .int x5, v6] [] S =
    mm_bd (mm_cl d 177 [.int (mm_M S a0 8)] S) (fun v S2 => mm_ex (d + 1) 179 54 [.ref a0, .int x1, .int x2, .int x3, .int x4, .int x5, v6] (v.toList ++ [.int x5]) S2) :=
  Eq.trans (mx_iload t179 d179_45 (x := x5) rfl) <|
  Eq.trans (mx_aload_n t179 d179_47 (x := a0) rfl) <|
  Eq.trans (mx_geti t179 d179_48 rfl fl12_166 h0) <|
  (mx_stat (st := [.int x5]) t179 [.int (mm_M S a0 8)] d179_51 acn12_323 mxn12_323 st12_323 rfl (Nat.le_of_ble_eq_true rfl) (Nat.le_of_ble_eq_true rfl))
theorem b179_54 {d : Nat} {S : mm_S} {a0 : Nat} {x1 : Int32} {x2 : Int32} {x3 : Int32} {x4 : Int32} {x5 : Int32} {v6 : Value} {p0 : Int32} {p1 : Int32} : mm_ex d 179 54 [.ref a0, .int x1, .int x2, .int x3, .int x4, .int x5, v6] [.int p0, .int p1] S =
    if p0 ≤ p1 then mm_ex d 179 117 [.ref a0, .int x1, .int x2, .int x3, .int x4, .int x5, v6] [] S else mm_ex d 179 57 [.ref a0, .int x1, .int x2, .int x3, .int x4, .int x5, v6] [] S :=
  (mx_cge t179 d179_54 (tgt := 117) (by decide))
theorem b179_57 {d : Nat} {S : mm_S} {a0 : Nat} {x1 : Int32} {x2 : Int32} {x3 : Int32} {x4 : Int32} {x5 : Int32} {v6 : Value} (h0 : mm_rk S a0 = 12) : mm_ex (d + 1) 179 57 [.ref a0, .int x1, .int x2, .int x3, .int x4, .int x5, v6] [] S =
    mm_bd (mm_cl d 171 [.ref a0] S) (fun v S2 => mm_ex (d + 1) 179 61 [.ref a0, .int x1, .int x2, .int x3, .int x4, .int x5, v6] (v.toList ++ []) S2) :=
  Eq.trans (mx_aload_n t179 d179_57 (x := a0) rfl) <|
  (mx_virt (st := []) (k := 12) t179 [] d179_58 vt12_311 rfl rfl (Nat.le_of_ble_eq_true rfl) (Nat.le_of_ble_eq_true rfl) h0)
theorem b179_61 {d : Nat} {S : mm_S} {a0 : Nat} {x1 : Int32} {x2 : Int32} {x3 : Int32} {x4 : Int32} {x5 : Int32} {v6 : Value} (h0 : mm_rk S a0 = 12) : mm_ex (d + 1) 179 61 [.ref a0, .int x1, .int x2, .int x3, .int x4, .int x5, v6] [] S =
    mm_bd (mm_cl d 178 [.ref a0, .int x5] S) (fun v S2 => mm_ex (d + 1) 179 67 [.ref a0, .int x1, .int x2, .int x3, .int x4, .int x5, v6] (v.toList ++ []) S2) :=
  Eq.trans (mx_aload_n t179 d179_61 (x := a0) rfl) <|
  Eq.trans (mx_iload t179 d179_62 (x := x5) rfl) <|
  (mx_virt (st := []) (k := 12) t179 [.int x5] d179_64 vt12_326 rfl rfl (Nat.le_of_ble_eq_true rfl) (Nat.le_of_ble_eq_true rfl) h0)
theorem b179_67 {d : Nat} {S : mm_S} {a0 : Nat} {x1 : Int32} {x2 : Int32} {x3 : Int32} {x4 : Int32} {x5 : Int32} {v6 : Value} (h0 : mm_rk S a0 = 12) : mm_ex (d + 1) 179 67 [.ref a0, .int x1, .int x2, .int x3, .int x4, .int x5, v6] [] S =
    mm_bd (mm_cl d 173 [.ref a0] S) (fun v S2 => mm_ex (d + 1) 179 71 [.ref a0, .int x1, .int x2, .int x3, .int x4, .int x5, v6] (v.toList ++ []) S2) :=
  Eq.trans (mx_aload_n t179 d179_67 (x := a0) rfl) <|
  (mx_virt (st := []) (k := 12) t179 [] d179_68 vt12_314 rfl rfl (Nat.le_of_ble_eq_true rfl) (Nat.le_of_ble_eq_true rfl) h0)
theorem b179_71 {d : Nat} {S : mm_S} {a0 : Nat} {x1 : Int32} {x2 : Int32} {x3 : Int32} {x4 : Int32} {x5 : Int32} {v6 : Value} : mm_ex d 179 71 [.ref a0, .int x1, .int x2, .int x3, .int x4, .int x5, v6] [] S =
    if x1 = nI 0 then mm_ex d 179 75 [.ref a0, .int x1, .int x2, .int x3, .int x4, .int x5, v6] [] S else mm_ex d 179 82 [.ref a0, .int x1, .int x2, .int x3, .int x4, .int x5, v6] [] S :=
  Eq.trans (mx_iload_n t179 d179_71 (x := x1) rfl) <|
  (mx_ine t179 d179_72 (tgt := 82) (by decide))
theorem b179_75 {d : Nat} {S : mm_S} {a0 : Nat} {x1 : Int32} {x2 : Int32} {x3 : Int32} {x4 : Int32} {x5 : Int32} {v6 : Value} (h0 : mm_obj S a0 12 = true) (h1 : mm_rk S a0 = 12) : mm_ex (d + 1) 179 75 [.ref a0, .int x1, .int x2, .int x3, .int x4, .int x5, v6] [] S =
    mm_bd (mm_cl d 172 [.ref a0] S) (fun v S2 => mm_ex (d + 1) 179 92 [.ref a0, .int x1, .int x2, .int x3, .int x4, .int x5, .int (mm_M S a0 12)] (v.toList ++ []) S2) :=
  Eq.trans (mx_aload_n t179 d179_75 (x := a0) rfl) <|
  Eq.trans (mx_geti t179 d179_76 rfl fl12_257 h0) <|
  Eq.trans (mx_goto t179 d179_79 (tgt := 86) (by decide)) <|
  Eq.trans (mx_istore t179 d179_86 (ls' := [.ref a0, .int x1, .int x2, .int x3, .int x4, .int x5, .int (mm_M S a0 12)]) rfl rfl) <|
  Eq.trans (mx_aload_n t179 d179_88 (x := a0) rfl) <|
  (mx_virt (st := []) (k := 12) t179 [] d179_89 vt12_317 rfl rfl (Nat.le_of_ble_eq_true rfl) (Nat.le_of_ble_eq_true rfl) h1)
theorem b179_82 {d : Nat} {S : mm_S} {a0 : Nat} {x1 : Int32} {x2 : Int32} {x3 : Int32} {x4 : Int32} {x5 : Int32} {v6 : Value} (h0 : mm_rk S a0 = 12) : mm_ex (d + 1) 179 82 [.ref a0, .int x1, .int x2, .int x3, .int x4, .int x5, v6] [] S =
    mm_bd (mm_cl d 174 [.ref a0] S) (fun v S2 => mm_ex (d + 1) 179 86 [.ref a0, .int x1, .int x2, .int x3, .int x4, .int x5, v6] (v.toList ++ []) S2) :=
  Eq.trans (mx_aload_n t179 d179_82 (x := a0) rfl) <|
  (mx_virt (st := []) (k := 12) t179 [] d179_83 vt12_320 rfl rfl (Nat.le_of_ble_eq_true rfl) (Nat.le_of_ble_eq_true rfl) h0)
theorem b179_86 {d : Nat} {S : mm_S} {a0 : Nat} {x1 : Int32} {x2 : Int32} {x3 : Int32} {x4 : Int32} {x5 : Int32} {v6 : Value} {p0 : Int32} (h0 : mm_rk S a0 = 12) : mm_ex (d + 1) 179 86 [.ref a0, .int x1, .int x2, .int x3, .int x4, .int x5, v6] [.int p0] S =
    mm_bd (mm_cl d 172 [.ref a0] S) (fun v S2 => mm_ex (d + 1) 179 92 [.ref a0, .int x1, .int x2, .int x3, .int x4, .int x5, .int p0] (v.toList ++ []) S2) :=
  Eq.trans (mx_istore t179 d179_86 (ls' := [.ref a0, .int x1, .int x2, .int x3, .int x4, .int x5, .int p0]) rfl rfl) <|
  Eq.trans (mx_aload_n t179 d179_88 (x := a0) rfl) <|
  (mx_virt (st := []) (k := 12) t179 [] d179_89 vt12_317 rfl rfl (Nat.le_of_ble_eq_true rfl) (Nat.le_of_ble_eq_true rfl) h0)
theorem b179_92 {d : Nat} {S : mm_S} {a0 : Nat} {x1 : Int32} {x2 : Int32} {x3 : Int32} {x4 : Int32} {x5 : Int32} {x6 : Int32} : mm_ex d 179 92 [.ref a0, .int x1, .int x2, .int x3, .int x4, .int x5, .int x6] [] S =
    if x3 = (-1) then mm_ex d 179 104 [.ref a0, .int x1, .int x2, .int x3, .int x4, .int x5, .int x6] [] S else mm_ex d 179 97 [.ref a0, .int x1, .int x2, .int x3, .int x4, .int x5, .int x6] [] S :=
  Eq.trans (mx_iload_n t179 d179_92 (x := x3) rfl) <|
  Eq.trans (mx_iconst t179 d179_93 (v := -1) rfl) <|
  (mx_ceq t179 d179_94 (tgt := 104) (by decide))
theorem b179_97 {d : Nat} {S : mm_S} {a0 : Nat} {x1 : Int32} {x2 : Int32} {x3 : Int32} {x4 : Int32} {x5 : Int32} {x6 : Int32} : mm_ex d 179 97 [.ref a0, .int x1, .int x2, .int x3, .int x4, .int x5, .int x6] [] S =
    if x6 ≤ x4 then mm_ex d 179 111 [.ref a0, .int x1, .int x2, .int x3, .int x4, .int x5, .int x6] [] S else mm_ex d 179 104 [.ref a0, .int x1, .int x2, .int x3, .int x4, .int x5, .int x6] [] S :=
  Eq.trans (mx_iload t179 d179_97 (x := x6) rfl) <|
  Eq.trans (mx_iload t179 d179_99 (x := x4) rfl) <|
  (mx_cle t179 d179_101 (tgt := 111) (by decide))
theorem b179_104 {d : Nat} {S : mm_S} {a0 : Nat} {x1 : Int32} {x2 : Int32} {x3 : Int32} {x4 : Int32} {x5 : Int32} {x6 : Int32} : mm_ex d 179 104 [.ref a0, .int x1, .int x2, .int x3, .int x4, .int x5, .int x6] [] S =
    mm_ex d 179 45 [.ref a0, .int x1, .int x2, .int x5, .int x6, .int (x5 + nI 1), .int x6] [] S :=
  Eq.trans (mx_iload t179 d179_104 (x := x5) rfl) <|
  Eq.trans (mx_istore_n t179 d179_106 (ls' := [.ref a0, .int x1, .int x2, .int x5, .int x4, .int x5, .int x6]) rfl rfl) <|
  Eq.trans (mx_iload t179 d179_107 (x := x6) rfl) <|
  Eq.trans (mx_istore t179 d179_109 (ls' := [.ref a0, .int x1, .int x2, .int x5, .int x6, .int x5, .int x6]) rfl rfl) <|
  Eq.trans (mx_iinc t179 d179_111 (x := x5) (v := nI 1) (ls' := [.ref a0, .int x1, .int x2, .int x5, .int x6, .int (x5 + nI 1), .int x6]) rfl rfl rfl rfl) <|
  (mx_goto t179 d179_114 (tgt := 45) (by decide))
theorem b179_111 {d : Nat} {S : mm_S} {a0 : Nat} {x1 : Int32} {x2 : Int32} {x3 : Int32} {x4 : Int32} {x5 : Int32} {x6 : Int32} : mm_ex d 179 111 [.ref a0, .int x1, .int x2, .int x3, .int x4, .int x5, .int x6] [] S =
    mm_ex d 179 45 [.ref a0, .int x1, .int x2, .int x3, .int x4, .int (x5 + nI 1), .int x6] [] S :=
  Eq.trans (mx_iinc t179 d179_111 (x := x5) (v := nI 1) (ls' := [.ref a0, .int x1, .int x2, .int x3, .int x4, .int (x5 + nI 1), .int x6]) rfl rfl rfl rfl) <|
  (mx_goto t179 d179_114 (tgt := 45) (by decide))
theorem b179_117 {d : Nat} {S : mm_S} {a0 : Nat} {x1 : Int32} {x2 : Int32} {x3 : Int32} {x4 : Int32} {x5 : Int32} {v6 : Value} : mm_ex d 179 117 [.ref a0, .int x1, .int x2, .int x3, .int x4, .int x5, v6] [] S =
    if x2 = (-1) then mm_ex d 179 122 [.ref a0, .int x1, .int x2, .int x3, .int x4, .int x5, v6] [] S else mm_ex d 179 125 [.ref a0, .int x1, .int x2, .int x3, .int x4, .int x5, v6] [] S :=
  Eq.trans (mx_iload_n t179 d179_117 (x := x2) rfl) <|
  Eq.trans (mx_iconst t179 d179_118 (v := -1) rfl) <|
  (mx_cne t179 d179_119 (tgt := 125) (by decide))
theorem b179_122 {d : Nat} {S : mm_S} {a0 : Nat} {x1 : Int32} {x2 : Int32} {x3 : Int32} {x4 : Int32} {x5 : Int32} {v6 : Value} : mm_ex d 179 122 [.ref a0, .int x1, .int x2, .int x3, .int x4, .int x5, v6] [] S =
    some (some (.int x4), S) :=
  Eq.trans (mx_iload t179 d179_122 (x := x4) rfl) <|
  (mx_iret t179 d179_124 (ty := .int) rfl rfl (fun h => nomatch h))
theorem b179_125 {d : Nat} {S : mm_S} {a0 : Nat} {x1 : Int32} {x2 : Int32} {x3 : Int32} {x4 : Int32} {x5 : Int32} {v6 : Value} (h0 : mm_rk S a0 = 12) : mm_ex (d + 1) 179 125 [.ref a0, .int x1, .int x2, .int x3, .int x4, .int x5, v6] [] S =
    mm_bd (mm_cl d 171 [.ref a0] S) (fun v S2 => mm_ex (d + 1) 179 129 [.ref a0, .int x1, .int x2, .int x3, .int x4, .int x5, v6] (v.toList ++ []) S2) :=
  Eq.trans (mx_aload_n t179 d179_125 (x := a0) rfl) <|
  (mx_virt (st := []) (k := 12) t179 [] d179_126 vt12_311 rfl rfl (Nat.le_of_ble_eq_true rfl) (Nat.le_of_ble_eq_true rfl) h0)
theorem b179_129 {d : Nat} {S : mm_S} {a0 : Nat} {x1 : Int32} {x2 : Int32} {x3 : Int32} {x4 : Int32} {x5 : Int32} {v6 : Value} (h0 : mm_rk S a0 = 12) : mm_ex (d + 1) 179 129 [.ref a0, .int x1, .int x2, .int x3, .int x4, .int x5, v6] [] S =
    mm_bd (mm_cl d 178 [.ref a0, .int x3] S) (fun v S2 => mm_ex (d + 1) 179 134 [.ref a0, .int x1, .int x2, .int x3, .int x4, .int x5, v6] (v.toList ++ []) S2) :=
  Eq.trans (mx_aload_n t179 d179_129 (x := a0) rfl) <|
  Eq.trans (mx_iload_n t179 d179_130 (x := x3) rfl) <|
  (mx_virt (st := []) (k := 12) t179 [.int x3] d179_131 vt12_326 rfl rfl (Nat.le_of_ble_eq_true rfl) (Nat.le_of_ble_eq_true rfl) h0)
theorem b179_134 {d : Nat} {S : mm_S} {a0 : Nat} {x1 : Int32} {x2 : Int32} {x3 : Int32} {x4 : Int32} {x5 : Int32} {v6 : Value} (h0 : mm_obj S a0 12 = true) (h1 : (mm_R S a0 9).isSome = true) (h2 : mm_inb x2 (mm_N S (mm_rg S a0 9)) = true) (h3 : mm_arr S (mm_rg S a0 9) 13 = true) (h4 : mm_rk S a0 = 12) : mm_ex (d + 1) 179 134 [.ref a0, .int x1, .int x2, .int x3, .int x4, .int x5, v6] [] S =
    mm_bd (mm_cl d 172 [.ref a0] S) (fun v S2 => mm_ex (d + 1) 179 146 [.ref a0, .int x1, .int x2, .int x3, .int x4, .int (mm_M S (mm_rg S a0 9) (x2).toNatClampNeg), v6] (v.toList ++ []) S2) :=
  Eq.trans (mx_aload_n t179 d179_134 (x := a0) rfl) <|
  Eq.trans (mx_getR t179 d179_135 rfl fl12_33 h0 h1) <|
  Eq.trans (mx_iload_n t179 d179_138 (x := x2) rfl) <|
  Eq.trans (mx_iald t179 d179_139 h3 h2) <|
  Eq.trans (mx_istore t179 d179_140 (ls' := [.ref a0, .int x1, .int x2, .int x3, .int x4, .int (mm_M S (mm_rg S a0 9) (x2).toNatClampNeg), v6]) rfl rfl) <|
  Eq.trans (mx_aload_n t179 d179_142 (x := a0) rfl) <|
  (mx_virt (st := []) (k := 12) t179 [] d179_143 vt12_317 rfl rfl (Nat.le_of_ble_eq_true rfl) (Nat.le_of_ble_eq_true rfl) h4)
theorem b179_146 {d : Nat} {S : mm_S} {a0 : Nat} {x1 : Int32} {x2 : Int32} {x3 : Int32} {x4 : Int32} {x5 : Int32} {v6 : Value} : mm_ex d 179 146 [.ref a0, .int x1, .int x2, .int x3, .int x4, .int x5, v6] [] S =
    some (some (.int x5), S) :=
  Eq.trans (mx_iload t179 d179_146 (x := x5) rfl) <|
  (mx_iret t179 d179_148 (ty := .int) rfl rfl (fun h => nomatch h))
theorem e179 {d : Nat} {S : mm_S} {a0 : Nat} {x1 : Int32} {x2 : Int32} : mm_cl d 179 [.ref a0, .int x1, .int x2] S = mm_ex d 179 0 [.ref a0, .int x1, .int x2, .null, .null, .null, .null] [] S := mm_cl_eq t179 (Nat.le_of_ble_eq_true rfl) rfl
/-! X12_letBy -/
theorem dd180_0 : (decode prog_14_method_55_code 0 = .ok (.iload_n 1, 1)) ∧ (decode prog_14_method_55_code 1 = .ok (.iconst 0, 1)) ∧ (decode prog_14_method_55_code 2 = .ok (.iconst 1, 1)) ∧ (decode prog_14_method_55_code 3 = .ok (.invokestatic 162, 3)) ∧ (decode prog_14_method_55_code 6 = .ok (.ifCond .ne 5, 3)) ∧ (decode prog_14_method_55_code 9 = .ok (.iconst (-1), 1)) ∧ (decode prog_14_method_55_code 10 = .ok (.ireturn, 1)) ∧ (decode prog_14_method_55_code 11 = .ok (.iconst 0, 1)) ∧ (decode prog_14_method_55_code 12 = .ok (.istore_n 2, 1)) ∧ (decode prog_14_method_55_code 13 = .ok (.bipush (-5), 2)) ∧ (decode prog_14_method_55_code 15 = .ok (.istore_n 3, 1)) ∧ (decode prog_14_method_55_code 16 = .ok (.iconst 0, 1)) ∧ (decode prog_14_method_55_code 17 = .ok (.istore 4, 2)) ∧ (decode prog_14_method_55_code 19 = .ok (.iload 4, 2)) ∧ (decode prog_14_method_55_code 21 = .ok (.aload_n 0, 1)) ∧ (decode prog_14_method_55_code 22 = .ok (.getfield 166, 3)) := by decide +kernel
theorem d180_0 : decode prog_14_method_55_code 0 = .ok (.iload_n 1, 1) := dd180_0.1
theorem d180_1 : decode prog_14_method_55_code 1 = .ok (.iconst 0, 1) := dd180_0.2.1
theorem d180_2 : decode prog_14_method_55_code 2 = .ok (.iconst 1, 1) := dd180_0.2.2.1
theorem d180_3 : decode prog_14_method_55_code 3 = .ok (.invokestatic 162, 3) := dd180_0.2.2.2.1
theorem d180_6 : decode prog_14_method_55_code 6 = .ok (.ifCond .ne 5, 3) := dd180_0.2.2.2.2.1
theorem d180_9 : decode prog_14_method_55_code 9 = .ok (.iconst (-1), 1) := dd180_0.2.2.2.2.2.1
theorem d180_10 : decode prog_14_method_55_code 10 = .ok (.ireturn, 1) := dd180_0.2.2.2.2.2.2.1
theorem d180_11 : decode prog_14_method_55_code 11 = .ok (.iconst 0, 1) := dd180_0.2.2.2.2.2.2.2.1
theorem d180_12 : decode prog_14_method_55_code 12 = .ok (.istore_n 2, 1) := dd180_0.2.2.2.2.2.2.2.2.1
theorem d180_13 : decode prog_14_method_55_code 13 = .ok (.bipush (-5), 2) := dd180_0.2.2.2.2.2.2.2.2.2.1
theorem d180_15 : decode prog_14_method_55_code 15 = .ok (.istore_n 3, 1) := dd180_0.2.2.2.2.2.2.2.2.2.2.1
theorem d180_16 : decode prog_14_method_55_code 16 = .ok (.iconst 0, 1) := dd180_0.2.2.2.2.2.2.2.2.2.2.2.1
theorem d180_17 : decode prog_14_method_55_code 17 = .ok (.istore 4, 2) := dd180_0.2.2.2.2.2.2.2.2.2.2.2.2.1
theorem d180_19 : decode prog_14_method_55_code 19 = .ok (.iload 4, 2) := dd180_0.2.2.2.2.2.2.2.2.2.2.2.2.2.1
theorem d180_21 : decode prog_14_method_55_code 21 = .ok (.aload_n 0, 1) := dd180_0.2.2.2.2.2.2.2.2.2.2.2.2.2.2.1
theorem d180_22 : decode prog_14_method_55_code 22 = .ok (.getfield 166, 3) := dd180_0.2.2.2.2.2.2.2.2.2.2.2.2.2.2.2
theorem dd180_25 : (decode prog_14_method_55_code 25 = .ok (.iconst 1, 1)) ∧ (decode prog_14_method_55_code 26 = .ok (.isub, 1)) ∧ (decode prog_14_method_55_code 27 = .ok (.if_icmp .ge 167, 3)) ∧ (decode prog_14_method_55_code 30 = .ok (.aload_n 0, 1)) ∧ (decode prog_14_method_55_code 31 = .ok (.getfield 33, 3)) ∧ (decode prog_14_method_55_code 34 = .ok (.iload 4, 2)) ∧ (decode prog_14_method_55_code 36 = .ok (.iaload, 1)) ∧ (decode prog_14_method_55_code 37 = .ok (.istore 5, 2)) ∧ (decode prog_14_method_55_code 39 = .ok (.aload_n 0, 1)) ∧ (decode prog_14_method_55_code 40 = .ok (.getfield 33, 3)) ∧ (decode prog_14_method_55_code 43 = .ok (.iload 4, 2)) ∧ (decode prog_14_method_55_code 45 = .ok (.iconst 1, 1)) ∧ (decode prog_14_method_55_code 46 = .ok (.iadd, 1)) ∧ (decode prog_14_method_55_code 47 = .ok (.iaload, 1)) ∧ (decode prog_14_method_55_code 48 = .ok (.istore 6, 2)) ∧ (decode prog_14_method_55_code 50 = .ok (.aload_n 0, 1)) := by decide +kernel
theorem d180_25 : decode prog_14_method_55_code 25 = .ok (.iconst 1, 1) := dd180_25.1
theorem d180_26 : decode prog_14_method_55_code 26 = .ok (.isub, 1) := dd180_25.2.1
theorem d180_27 : decode prog_14_method_55_code 27 = .ok (.if_icmp .ge 167, 3) := dd180_25.2.2.1
theorem d180_30 : decode prog_14_method_55_code 30 = .ok (.aload_n 0, 1) := dd180_25.2.2.2.1
theorem d180_31 : decode prog_14_method_55_code 31 = .ok (.getfield 33, 3) := dd180_25.2.2.2.2.1
theorem d180_34 : decode prog_14_method_55_code 34 = .ok (.iload 4, 2) := dd180_25.2.2.2.2.2.1
theorem d180_36 : decode prog_14_method_55_code 36 = .ok (.iaload, 1) := dd180_25.2.2.2.2.2.2.1
theorem d180_37 : decode prog_14_method_55_code 37 = .ok (.istore 5, 2) := dd180_25.2.2.2.2.2.2.2.1
theorem d180_39 : decode prog_14_method_55_code 39 = .ok (.aload_n 0, 1) := dd180_25.2.2.2.2.2.2.2.2.1
theorem d180_40 : decode prog_14_method_55_code 40 = .ok (.getfield 33, 3) := dd180_25.2.2.2.2.2.2.2.2.2.1
theorem d180_43 : decode prog_14_method_55_code 43 = .ok (.iload 4, 2) := dd180_25.2.2.2.2.2.2.2.2.2.2.1
theorem d180_45 : decode prog_14_method_55_code 45 = .ok (.iconst 1, 1) := dd180_25.2.2.2.2.2.2.2.2.2.2.2.1
theorem d180_46 : decode prog_14_method_55_code 46 = .ok (.iadd, 1) := dd180_25.2.2.2.2.2.2.2.2.2.2.2.2.1
theorem d180_47 : decode prog_14_method_55_code 47 = .ok (.iaload, 1) := dd180_25.2.2.2.2.2.2.2.2.2.2.2.2.2.1
theorem d180_48 : decode prog_14_method_55_code 48 = .ok (.istore 6, 2) := dd180_25.2.2.2.2.2.2.2.2.2.2.2.2.2.2.1
theorem d180_50 : decode prog_14_method_55_code 50 = .ok (.aload_n 0, 1) := dd180_25.2.2.2.2.2.2.2.2.2.2.2.2.2.2.2
theorem dd180_51 : (decode prog_14_method_55_code 51 = .ok (.invokevirtual 311, 3)) ∧ (decode prog_14_method_55_code 54 = .ok (.aload_n 0, 1)) ∧ (decode prog_14_method_55_code 55 = .ok (.invokevirtual 314, 3)) ∧ (decode prog_14_method_55_code 58 = .ok (.aload_n 0, 1)) ∧ (decode prog_14_method_55_code 59 = .ok (.getfield 27, 3)) ∧ (decode prog_14_method_55_code 62 = .ok (.iload 5, 2)) ∧ (decode prog_14_method_55_code 64 = .ok (.iaload, 1)) ∧ (decode prog_14_method_55_code 65 = .ok (.istore 7, 2)) ∧ (decode prog_14_method_55_code 67 = .ok (.aload_n 0, 1)) ∧ (decode prog_14_method_55_code 68 = .ok (.getfield 27, 3)) ∧ (decode prog_14_method_55_code 71 = .ok (.iload 6, 2)) ∧ (decode prog_14_method_55_code 73 = .ok (.iaload, 1)) ∧ (decode prog_14_method_55_code 74 = .ok (.istore 8, 2)) ∧ (decode prog_14_method_55_code 76 = .ok (.aload_n 0, 1)) ∧ (decode prog_14_method_55_code 77 = .ok (.invokevirtual 317, 3)) ∧ (decode prog_14_method_55_code 80 = .ok (.aload_n 0, 1)) := by decide +kernel
theorem d180_51 : decode prog_14_method_55_code 51 = .ok (.invokevirtual 311, 3) := dd180_51.1
theorem d180_54 : decode prog_14_method_55_code 54 = .ok (.aload_n 0, 1) := dd180_51.2.1
theorem d180_55 : decode prog_14_method_55_code 55 = .ok (.invokevirtual 314, 3) := dd180_51.2.2.1
theorem d180_58 : decode prog_14_method_55_code 58 = .ok (.aload_n 0, 1) := dd180_51.2.2.2.1
theorem d180_59 : decode prog_14_method_55_code 59 = .ok (.getfield 27, 3) := dd180_51.2.2.2.2.1
theorem d180_62 : decode prog_14_method_55_code 62 = .ok (.iload 5, 2) := dd180_51.2.2.2.2.2.1
theorem d180_64 : decode prog_14_method_55_code 64 = .ok (.iaload, 1) := dd180_51.2.2.2.2.2.2.1
theorem d180_65 : decode prog_14_method_55_code 65 = .ok (.istore 7, 2) := dd180_51.2.2.2.2.2.2.2.1
theorem d180_67 : decode prog_14_method_55_code 67 = .ok (.aload_n 0, 1) := dd180_51.2.2.2.2.2.2.2.2.1
theorem d180_68 : decode prog_14_method_55_code 68 = .ok (.getfield 27, 3) := dd180_51.2.2.2.2.2.2.2.2.2.1
theorem d180_71 : decode prog_14_method_55_code 71 = .ok (.iload 6, 2) := dd180_51.2.2.2.2.2.2.2.2.2.2.1
theorem d180_73 : decode prog_14_method_55_code 73 = .ok (.iaload, 1) := dd180_51.2.2.2.2.2.2.2.2.2.2.2.1
theorem d180_74 : decode prog_14_method_55_code 74 = .ok (.istore 8, 2) := dd180_51.2.2.2.2.2.2.2.2.2.2.2.2.1
theorem d180_76 : decode prog_14_method_55_code 76 = .ok (.aload_n 0, 1) := dd180_51.2.2.2.2.2.2.2.2.2.2.2.2.2.1
theorem d180_77 : decode prog_14_method_55_code 77 = .ok (.invokevirtual 317, 3) := dd180_51.2.2.2.2.2.2.2.2.2.2.2.2.2.2.1
theorem d180_80 : decode prog_14_method_55_code 80 = .ok (.aload_n 0, 1) := dd180_51.2.2.2.2.2.2.2.2.2.2.2.2.2.2.2
theorem dd180_81 : (decode prog_14_method_55_code 81 = .ok (.getfield 33, 3)) ∧ (decode prog_14_method_55_code 84 = .ok (.iload 4, 2)) ∧ (decode prog_14_method_55_code 86 = .ok (.iload 6, 2)) ∧ (decode prog_14_method_55_code 88 = .ok (.iastore, 1)) ∧ (decode prog_14_method_55_code 89 = .ok (.aload_n 0, 1)) ∧ (decode prog_14_method_55_code 90 = .ok (.getfield 33, 3)) ∧ (decode prog_14_method_55_code 93 = .ok (.iload 4, 2)) ∧ (decode prog_14_method_55_code 95 = .ok (.iconst 1, 1)) ∧ (decode prog_14_method_55_code 96 = .ok (.iadd, 1)) ∧ (decode prog_14_method_55_code 97 = .ok (.iload 5, 2)) ∧ (decode prog_14_method_55_code 99 = .ok (.iastore, 1)) ∧ (decode prog_14_method_55_code 100 = .ok (.aload_n 0, 1)) ∧ (decode prog_14_method_55_code 101 = .ok (.invokevirtual 311, 3)) ∧ (decode prog_14_method_55_code 104 = .ok (.aload_n 0, 1)) ∧ (decode prog_14_method_55_code 105 = .ok (.invokevirtual 314, 3)) ∧ (decode prog_14_method_55_code 108 = .ok (.aload_n 0, 1)) := by decide +kernel
theorem d180_81 : decode prog_14_method_55_code 81 = .ok (.getfield 33, 3) := dd180_81.1
theorem d180_84 : decode prog_14_method_55_code 84 = .ok (.iload 4, 2) := dd180_81.2.1
theorem d180_86 : decode prog_14_method_55_code 86 = .ok (.iload 6, 2) := dd180_81.2.2.1
theorem d180_88 : decode prog_14_method_55_code 88 = .ok (.iastore, 1) := dd180_81.2.2.2.1
theorem d180_89 : decode prog_14_method_55_code 89 = .ok (.aload_n 0, 1) := dd180_81.2.2.2.2.1
theorem d180_90 : decode prog_14_method_55_code 90 = .ok (.getfield 33, 3) := dd180_81.2.2.2.2.2.1
theorem d180_93 : decode prog_14_method_55_code 93 = .ok (.iload 4, 2) := dd180_81.2.2.2.2.2.2.1
theorem d180_95 : decode prog_14_method_55_code 95 = .ok (.iconst 1, 1) := dd180_81.2.2.2.2.2.2.2.1
theorem d180_96 : decode prog_14_method_55_code 96 = .ok (.iadd, 1) := dd180_81.2.2.2.2.2.2.2.2.1
theorem d180_97 : decode prog_14_method_55_code 97 = .ok (.iload 5, 2) := dd180_81.2.2.2.2.2.2.2.2.2.1
theorem d180_99 : decode prog_14_method_55_code 99 = .ok (.iastore, 1) := dd180_81.2.2.2.2.2.2.2.2.2.2.1
theorem d180_100 : decode prog_14_method_55_code 100 = .ok (.aload_n 0, 1) := dd180_81.2.2.2.2.2.2.2.2.2.2.2.1
theorem d180_101 : decode prog_14_method_55_code 101 = .ok (.invokevirtual 311, 3) := dd180_81.2.2.2.2.2.2.2.2.2.2.2.2.1
theorem d180_104 : decode prog_14_method_55_code 104 = .ok (.aload_n 0, 1) := dd180_81.2.2.2.2.2.2.2.2.2.2.2.2.2.1
theorem d180_105 : decode prog_14_method_55_code 105 = .ok (.invokevirtual 314, 3) := dd180_81.2.2.2.2.2.2.2.2.2.2.2.2.2.2.1
theorem d180_108 : decode prog_14_method_55_code 108 = .ok (.aload_n 0, 1) := dd180_81.2.2.2.2.2.2.2.2.2.2.2.2.2.2.2
theorem dd180_109 : (decode prog_14_method_55_code 109 = .ok (.getfield 27, 3)) ∧ (decode prog_14_method_55_code 112 = .ok (.iload 5, 2)) ∧ (decode prog_14_method_55_code 114 = .ok (.iaload, 1)) ∧ (decode prog_14_method_55_code 115 = .ok (.iload 7, 2)) ∧ (decode prog_14_method_55_code 117 = .ok (.isub, 1)) ∧ (decode prog_14_method_55_code 118 = .ok (.istore 9, 2)) ∧ (decode prog_14_method_55_code 120 = .ok (.aload_n 0, 1)) ∧ (decode prog_14_method_55_code 121 = .ok (.getfield 27, 3)) ∧ (decode prog_14_method_55_code 124 = .ok (.iload 6, 2)) ∧ (decode prog_14_method_55_code 126 = .ok (.iaload, 1)) ∧ (decode prog_14_method_55_code 127 = .ok (.iload 8, 2)) ∧ (decode prog_14_method_55_code 129 = .ok (.isub, 1)) ∧ (decode prog_14_method_55_code 130 = .ok (.istore 10, 2)) ∧ (decode prog_14_method_55_code 132 = .ok (.aload_n 0, 1)) ∧ (decode prog_14_method_55_code 133 = .ok (.invokevirtual 317, 3)) ∧ (decode prog_14_method_55_code 136 = .ok (.aload_n 0, 1)) := by decide +kernel
theorem d180_109 : decode prog_14_method_55_code 109 = .ok (.getfield 27, 3) := dd180_109.1
theorem d180_112 : decode prog_14_method_55_code 112 = .ok (.iload 5, 2) := dd180_109.2.1
theorem d180_114 : decode prog_14_method_55_code 114 = .ok (.iaload, 1) := dd180_109.2.2.1
theorem d180_115 : decode prog_14_method_55_code 115 = .ok (.iload 7, 2) := dd180_109.2.2.2.1
theorem d180_117 : decode prog_14_method_55_code 117 = .ok (.isub, 1) := dd180_109.2.2.2.2.1
theorem d180_118 : decode prog_14_method_55_code 118 = .ok (.istore 9, 2) := dd180_109.2.2.2.2.2.1
theorem d180_120 : decode prog_14_method_55_code 120 = .ok (.aload_n 0, 1) := dd180_109.2.2.2.2.2.2.1
theorem d180_121 : decode prog_14_method_55_code 121 = .ok (.getfield 27, 3) := dd180_109.2.2.2.2.2.2.2.1
theorem d180_124 : decode prog_14_method_55_code 124 = .ok (.iload 6, 2) := dd180_109.2.2.2.2.2.2.2.2.1
theorem d180_126 : decode prog_14_method_55_code 126 = .ok (.iaload, 1) := dd180_109.2.2.2.2.2.2.2.2.2.1
theorem d180_127 : decode prog_14_method_55_code 127 = .ok (.iload 8, 2) := dd180_109.2.2.2.2.2.2.2.2.2.2.1
theorem d180_129 : decode prog_14_method_55_code 129 = .ok (.isub, 1) := dd180_109.2.2.2.2.2.2.2.2.2.2.2.1
theorem d180_130 : decode prog_14_method_55_code 130 = .ok (.istore 10, 2) := dd180_109.2.2.2.2.2.2.2.2.2.2.2.2.1
theorem d180_132 : decode prog_14_method_55_code 132 = .ok (.aload_n 0, 1) := dd180_109.2.2.2.2.2.2.2.2.2.2.2.2.2.1
theorem d180_133 : decode prog_14_method_55_code 133 = .ok (.invokevirtual 317, 3) := dd180_109.2.2.2.2.2.2.2.2.2.2.2.2.2.2.1
theorem d180_136 : decode prog_14_method_55_code 136 = .ok (.aload_n 0, 1) := dd180_109.2.2.2.2.2.2.2.2.2.2.2.2.2.2.2
theorem dd180_137 : (decode prog_14_method_55_code 137 = .ok (.getfield 33, 3)) ∧ (decode prog_14_method_55_code 140 = .ok (.iload 4, 2)) ∧ (decode prog_14_method_55_code 142 = .ok (.iload 5, 2)) ∧ (decode prog_14_method_55_code 144 = .ok (.iastore, 1)) ∧ (decode prog_14_method_55_code 145 = .ok (.aload_n 0, 1)) ∧ (decode prog_14_method_55_code 146 = .ok (.getfield 33, 3)) ∧ (decode prog_14_method_55_code 149 = .ok (.iload 4, 2)) ∧ (decode prog_14_method_55_code 151 = .ok (.iconst 1, 1)) ∧ (decode prog_14_method_55_code 152 = .ok (.iadd, 1)) ∧ (decode prog_14_method_55_code 153 = .ok (.iload 6, 2)) ∧ (decode prog_14_method_55_code 155 = .ok (.iastore, 1)) ∧ (decode prog_14_method_55_code 156 = .ok (.iload 9, 2)) ∧ (decode prog_14_method_55_code 158 = .ok (.ifCond .lt 30, 3)) ∧ (decode prog_14_method_55_code 161 = .ok (.iload 10, 2)) ∧ (decode prog_14_method_55_code 163 = .ok (.ifCond .lt 25, 3)) ∧ (decode prog_14_method_55_code 166 = .ok (.iload 9, 2)) := by decide +kernel
theorem d180_137 : decode prog_14_method_55_code 137 = .ok (.getfield 33, 3) := dd180_137.1
theorem d180_140 : decode prog_14_method_55_code 140 = .ok (.iload 4, 2) := dd180_137.2.1
theorem d180_142 : decode prog_14_method_55_code 142 = .ok (.iload 5, 2) := dd180_137.2.2.1
theorem d180_144 : decode prog_14_method_55_code 144 = .ok (.iastore, 1) := dd180_137.2.2.2.1
theorem d180_145 : decode prog_14_method_55_code 145 = .ok (.aload_n 0, 1) := dd180_137.2.2.2.2.1
theorem d180_146 : decode prog_14_method_55_code 146 = .ok (.getfield 33, 3) := dd180_137.2.2.2.2.2.1
theorem d180_149 : decode prog_14_method_55_code 149 = .ok (.iload 4, 2) := dd180_137.2.2.2.2.2.2.1
theorem d180_151 : decode prog_14_method_55_code 151 = .ok (.iconst 1, 1) := dd180_137.2.2.2.2.2.2.2.1
theorem d180_152 : decode prog_14_method_55_code 152 = .ok (.iadd, 1) := dd180_137.2.2.2.2.2.2.2.2.1
theorem d180_153 : decode prog_14_method_55_code 153 = .ok (.iload 6, 2) := dd180_137.2.2.2.2.2.2.2.2.2.1
theorem d180_155 : decode prog_14_method_55_code 155 = .ok (.iastore, 1) := dd180_137.2.2.2.2.2.2.2.2.2.2.1
theorem d180_156 : decode prog_14_method_55_code 156 = .ok (.iload 9, 2) := dd180_137.2.2.2.2.2.2.2.2.2.2.2.1
theorem d180_158 : decode prog_14_method_55_code 158 = .ok (.ifCond .lt 30, 3) := dd180_137.2.2.2.2.2.2.2.2.2.2.2.2.1
theorem d180_161 : decode prog_14_method_55_code 161 = .ok (.iload 10, 2) := dd180_137.2.2.2.2.2.2.2.2.2.2.2.2.2.1
theorem d180_163 : decode prog_14_method_55_code 163 = .ok (.ifCond .lt 25, 3) := dd180_137.2.2.2.2.2.2.2.2.2.2.2.2.2.2.1
theorem d180_166 : decode prog_14_method_55_code 166 = .ok (.iload 9, 2) := dd180_137.2.2.2.2.2.2.2.2.2.2.2.2.2.2.2
theorem dd180_168 : (decode prog_14_method_55_code 168 = .ok (.iload 10, 2)) ∧ (decode prog_14_method_55_code 170 = .ok (.iadd, 1)) ∧ (decode prog_14_method_55_code 171 = .ok (.ifCond .le 17, 3)) ∧ (decode prog_14_method_55_code 174 = .ok (.iload_n 2, 1)) ∧ (decode prog_14_method_55_code 175 = .ok (.ifCond .ne 8, 3)) ∧ (decode prog_14_method_55_code 178 = .ok (.iload 4, 2)) ∧ (decode prog_14_method_55_code 180 = .ok (.goto 4, 3)) ∧ (decode prog_14_method_55_code 183 = .ok (.iload_n 3, 1)) ∧ (decode prog_14_method_55_code 184 = .ok (.istore_n 3, 1)) ∧ (decode prog_14_method_55_code 185 = .ok (.iinc 2 1, 3)) ∧ (decode prog_14_method_55_code 188 = .ok (.iinc 4 1, 3)) ∧ (decode prog_14_method_55_code 191 = .ok (.goto (-172), 3)) ∧ (decode prog_14_method_55_code 194 = .ok (.iload_n 1, 1)) ∧ (decode prog_14_method_55_code 195 = .ok (.ifCond .ne 7, 3)) ∧ (decode prog_14_method_55_code 198 = .ok (.iload_n 2, 1)) ∧ (decode prog_14_method_55_code 199 = .ok (.goto 4, 3)) := by decide +kernel
theorem d180_168 : decode prog_14_method_55_code 168 = .ok (.iload 10, 2) := dd180_168.1
theorem d180_170 : decode prog_14_method_55_code 170 = .ok (.iadd, 1) := dd180_168.2.1
theorem d180_171 : decode prog_14_method_55_code 171 = .ok (.ifCond .le 17, 3) := dd180_168.2.2.1
theorem d180_174 : decode prog_14_method_55_code 174 = .ok (.iload_n 2, 1) := dd180_168.2.2.2.1
theorem d180_175 : decode prog_14_method_55_code 175 = .ok (.ifCond .ne 8, 3) := dd180_168.2.2.2.2.1
theorem d180_178 : decode prog_14_method_55_code 178 = .ok (.iload 4, 2) := dd180_168.2.2.2.2.2.1
theorem d180_180 : decode prog_14_method_55_code 180 = .ok (.goto 4, 3) := dd180_168.2.2.2.2.2.2.1
theorem d180_183 : decode prog_14_method_55_code 183 = .ok (.iload_n 3, 1) := dd180_168.2.2.2.2.2.2.2.1
theorem d180_184 : decode prog_14_method_55_code 184 = .ok (.istore_n 3, 1) := dd180_168.2.2.2.2.2.2.2.2.1
theorem d180_185 : decode prog_14_method_55_code 185 = .ok (.iinc 2 1, 3) := dd180_168.2.2.2.2.2.2.2.2.2.1
theorem d180_188 : decode prog_14_method_55_code 188 = .ok (.iinc 4 1, 3) := dd180_168.2.2.2.2.2.2.2.2.2.2.1
theorem d180_191 : decode prog_14_method_55_code 191 = .ok (.goto (-172), 3) := dd180_168.2.2.2.2.2.2.2.2.2.2.2.1
theorem d180_194 : decode prog_14_method_55_code 194 = .ok (.iload_n 1, 1) := dd180_168.2.2.2.2.2.2.2.2.2.2.2.2.1
theorem d180_195 : decode prog_14_method_55_code 195 = .ok (.ifCond .ne 7, 3) := dd180_168.2.2.2.2.2.2.2.2.2.2.2.2.2.1
theorem d180_198 : decode prog_14_method_55_code 198 = .ok (.iload_n 2, 1) := dd180_168.2.2.2.2.2.2.2.2.2.2.2.2.2.2.1
theorem d180_199 : decode prog_14_method_55_code 199 = .ok (.goto 4, 3) := dd180_168.2.2.2.2.2.2.2.2.2.2.2.2.2.2.2
theorem dd180_202 : (decode prog_14_method_55_code 202 = .ok (.iload_n 3, 1)) ∧ (decode prog_14_method_55_code 203 = .ok (.ireturn, 1)) := by decide +kernel
theorem d180_202 : decode prog_14_method_55_code 202 = .ok (.iload_n 3, 1) := dd180_202.1
theorem d180_203 : decode prog_14_method_55_code 203 = .ok (.ireturn, 1) := dd180_202.2
theorem b180_0 {d : Nat} {S : mm_S} {a0 : Nat} {x1 : Int32} : mm_ex (d + 1) 180 0 [.ref a0, .int x1, .null, .null, .null, .null, .null, .null, .null, .null, .null] [] S =
    mm_bd (mm_cl d 128 [.int x1, .int (nI 0), .int (nI 1)] S) (fun v S2 => mm_ex (d + 1) 180 6 [.ref a0, .int x1, .null, .null, .null, .null, .null, .null, .null, .null, .null] (v.toList ++ []) S2) :=
  Eq.trans (mx_iload_n t180 d180_0 (x := x1) rfl) <|
  Eq.trans (mx_iconst t180 d180_1 (v := nI 0) rfl) <|
  Eq.trans (mx_iconst t180 d180_2 (v := nI 1) rfl) <|
  (mx_stat (st := []) t180 [.int x1, .int (nI 0), .int (nI 1)] d180_3 acn12_162 mxn12_162 st12_162 rfl (Nat.le_of_ble_eq_true rfl) (Nat.le_of_ble_eq_true rfl))
theorem b180_6 {d : Nat} {S : mm_S} {a0 : Nat} {x1 : Int32} {p0 : Int32} : mm_ex d 180 6 [.ref a0, .int x1, .null, .null, .null, .null, .null, .null, .null, .null, .null] [.int p0] S =
    if p0 = nI 0 then mm_ex d 180 9 [.ref a0, .int x1, .null, .null, .null, .null, .null, .null, .null, .null, .null] [] S else mm_ex d 180 11 [.ref a0, .int x1, .null, .null, .null, .null, .null, .null, .null, .null, .null] [] S :=
  (mx_ine t180 d180_6 (tgt := 11) (by decide))
theorem b180_9 {d : Nat} {S : mm_S} {a0 : Nat} {x1 : Int32} : mm_ex d 180 9 [.ref a0, .int x1, .null, .null, .null, .null, .null, .null, .null, .null, .null] [] S =
    some (some (.int (-1)), S) :=
  Eq.trans (mx_iconst t180 d180_9 (v := -1) rfl) <|
  (mx_iret t180 d180_10 (ty := .int) rfl rfl (fun h => nomatch h))
theorem b180_11 {d : Nat} {S : mm_S} {a0 : Nat} {x1 : Int32} : mm_ex d 180 11 [.ref a0, .int x1, .null, .null, .null, .null, .null, .null, .null, .null, .null] [] S =
    mm_ex d 180 19 [.ref a0, .int x1, .int (nI 0), .int (-5), .int (nI 0), .null, .null, .null, .null, .null, .null] [] S :=
  Eq.trans (mx_iconst t180 d180_11 (v := nI 0) rfl) <|
  Eq.trans (mx_istore_n t180 d180_12 (ls' := [.ref a0, .int x1, .int (nI 0), .null, .null, .null, .null, .null, .null, .null, .null]) rfl rfl) <|
  Eq.trans (mx_bipush t180 d180_13 (v := -5) rfl) <|
  Eq.trans (mx_istore_n t180 d180_15 (ls' := [.ref a0, .int x1, .int (nI 0), .int (-5), .null, .null, .null, .null, .null, .null, .null]) rfl rfl) <|
  Eq.trans (mx_iconst t180 d180_16 (v := nI 0) rfl) <|
  (mx_istore t180 d180_17 (ls' := [.ref a0, .int x1, .int (nI 0), .int (-5), .int (nI 0), .null, .null, .null, .null, .null, .null]) rfl rfl)
theorem b180_19 {d : Nat} {S : mm_S} {a0 : Nat} {x1 : Int32} {x2 : Int32} {x3 : Int32} {x4 : Int32} {v5 : Value} {v6 : Value} {v7 : Value} {v8 : Value} {v9 : Value} {v10 : Value} (h0 : mm_obj S a0 12 = true) : mm_ex d 180 19 [.ref a0, .int x1, .int x2, .int x3, .int x4, v5, v6, v7, v8, v9, v10] [] S =
    if ((mm_M S a0 8) - (nI 1)) ≤ x4 then mm_ex d 180 194 [.ref a0, .int x1, .int x2, .int x3, .int x4, v5, v6, v7, v8, v9, v10] [] S else mm_ex d 180 30 [.ref a0, .int x1, .int x2, .int x3, .int x4, v5, v6, v7, v8, v9, v10] [] S :=
  Eq.trans (mx_iload t180 d180_19 (x := x4) rfl) <|
  Eq.trans (mx_aload_n t180 d180_21 (x := a0) rfl) <|
  Eq.trans (mx_geti t180 d180_22 rfl fl12_166 h0) <|
  Eq.trans (mx_iconst t180 d180_25 (v := nI 1) rfl) <|
  Eq.trans (mx_isub t180 d180_26) <|
  (mx_cge t180 d180_27 (tgt := 194) (by decide))
theorem b180_30 {d : Nat} {S : mm_S} {a0 : Nat} {x1 : Int32} {x2 : Int32} {x3 : Int32} {x4 : Int32} {v5 : Value} {v6 : Value} {v7 : Value} {v8 : Value} {v9 : Value} {v10 : Value} (h0 : mm_obj S a0 12 = true) (h1 : (mm_R S a0 9).isSome = true) (h2 : mm_inb x4 (mm_N S (mm_rg S a0 9)) = true) (h3 : mm_arr S (mm_rg S a0 9) 13 = true) (h4 : mm_inb (x4 + (nI 1)) (mm_N S (mm_rg S a0 9)) = true) (h5 : mm_rk S a0 = 12) : mm_ex (d + 1) 180 30 [.ref a0, .int x1, .int x2, .int x3, .int x4, v5, v6, v7, v8, v9, v10] [] S =
    mm_bd (mm_cl d 171 [.ref a0] S) (fun v S2 => mm_ex (d + 1) 180 54 [.ref a0, .int x1, .int x2, .int x3, .int x4, .int (mm_M S (mm_rg S a0 9) (x4).toNatClampNeg), .int (mm_M S (mm_rg S a0 9) (x4 + (nI 1)).toNatClampNeg), v7, v8, v9, v10] (v.toList ++ []) S2) :=
  Eq.trans (mx_aload_n t180 d180_30 (x := a0) rfl) <|
  Eq.trans (mx_getR t180 d180_31 rfl fl12_33 h0 h1) <|
  Eq.trans (mx_iload t180 d180_34 (x := x4) rfl) <|
  Eq.trans (mx_iald t180 d180_36 h3 h2) <|
  Eq.trans (mx_istore t180 d180_37 (ls' := [.ref a0, .int x1, .int x2, .int x3, .int x4, .int (mm_M S (mm_rg S a0 9) (x4).toNatClampNeg), v6, v7, v8, v9, v10]) rfl rfl) <|
  Eq.trans (mx_aload_n t180 d180_39 (x := a0) rfl) <|
  Eq.trans (mx_getR t180 d180_40 rfl fl12_33 h0 h1) <|
  Eq.trans (mx_iload t180 d180_43 (x := x4) rfl) <|
  Eq.trans (mx_iconst t180 d180_45 (v := nI 1) rfl) <|
  Eq.trans (mx_iadd t180 d180_46) <|
  Eq.trans (mx_iald t180 d180_47 h3 h4) <|
  Eq.trans (mx_istore t180 d180_48 (ls' := [.ref a0, .int x1, .int x2, .int x3, .int x4, .int (mm_M S (mm_rg S a0 9) (x4).toNatClampNeg), .int (mm_M S (mm_rg S a0 9) (x4 + (nI 1)).toNatClampNeg), v7, v8, v9, v10]) rfl rfl) <|
  Eq.trans (mx_aload_n t180 d180_50 (x := a0) rfl) <|
  (mx_virt (st := []) (k := 12) t180 [] d180_51 vt12_311 rfl rfl (Nat.le_of_ble_eq_true rfl) (Nat.le_of_ble_eq_true rfl) h5)
theorem b180_54 {d : Nat} {S : mm_S} {a0 : Nat} {x1 : Int32} {x2 : Int32} {x3 : Int32} {x4 : Int32} {x5 : Int32} {x6 : Int32} {v7 : Value} {v8 : Value} {v9 : Value} {v10 : Value} (h0 : mm_rk S a0 = 12) : mm_ex (d + 1) 180 54 [.ref a0, .int x1, .int x2, .int x3, .int x4, .int x5, .int x6, v7, v8, v9, v10] [] S =
    mm_bd (mm_cl d 173 [.ref a0] S) (fun v S2 => mm_ex (d + 1) 180 58 [.ref a0, .int x1, .int x2, .int x3, .int x4, .int x5, .int x6, v7, v8, v9, v10] (v.toList ++ []) S2) :=
  Eq.trans (mx_aload_n t180 d180_54 (x := a0) rfl) <|
  (mx_virt (st := []) (k := 12) t180 [] d180_55 vt12_314 rfl rfl (Nat.le_of_ble_eq_true rfl) (Nat.le_of_ble_eq_true rfl) h0)
theorem b180_58 {d : Nat} {S : mm_S} {a0 : Nat} {x1 : Int32} {x2 : Int32} {x3 : Int32} {x4 : Int32} {x5 : Int32} {x6 : Int32} {v7 : Value} {v8 : Value} {v9 : Value} {v10 : Value} (h0 : mm_obj S a0 12 = true) (h1 : (mm_R S a0 6).isSome = true) (h2 : mm_inb x5 (mm_N S (mm_rg S a0 6)) = true) (h3 : mm_arr S (mm_rg S a0 6) 13 = true) (h4 : mm_inb x6 (mm_N S (mm_rg S a0 6)) = true) (h5 : mm_rk S a0 = 12) : mm_ex (d + 1) 180 58 [.ref a0, .int x1, .int x2, .int x3, .int x4, .int x5, .int x6, v7, v8, v9, v10] [] S =
    mm_bd (mm_cl d 172 [.ref a0] S) (fun v S2 => mm_ex (d + 1) 180 80 [.ref a0, .int x1, .int x2, .int x3, .int x4, .int x5, .int x6, .int (mm_M S (mm_rg S a0 6) (x5).toNatClampNeg), .int (mm_M S (mm_rg S a0 6) (x6).toNatClampNeg), v9, v10] (v.toList ++ []) S2) :=
  Eq.trans (mx_aload_n t180 d180_58 (x := a0) rfl) <|
  Eq.trans (mx_getR t180 d180_59 rfl fl12_27 h0 h1) <|
  Eq.trans (mx_iload t180 d180_62 (x := x5) rfl) <|
  Eq.trans (mx_iald t180 d180_64 h3 h2) <|
  Eq.trans (mx_istore t180 d180_65 (ls' := [.ref a0, .int x1, .int x2, .int x3, .int x4, .int x5, .int x6, .int (mm_M S (mm_rg S a0 6) (x5).toNatClampNeg), v8, v9, v10]) rfl rfl) <|
  Eq.trans (mx_aload_n t180 d180_67 (x := a0) rfl) <|
  Eq.trans (mx_getR t180 d180_68 rfl fl12_27 h0 h1) <|
  Eq.trans (mx_iload t180 d180_71 (x := x6) rfl) <|
  Eq.trans (mx_iald t180 d180_73 h3 h4) <|
  Eq.trans (mx_istore t180 d180_74 (ls' := [.ref a0, .int x1, .int x2, .int x3, .int x4, .int x5, .int x6, .int (mm_M S (mm_rg S a0 6) (x5).toNatClampNeg), .int (mm_M S (mm_rg S a0 6) (x6).toNatClampNeg), v9, v10]) rfl rfl) <|
  Eq.trans (mx_aload_n t180 d180_76 (x := a0) rfl) <|
  (mx_virt (st := []) (k := 12) t180 [] d180_77 vt12_317 rfl rfl (Nat.le_of_ble_eq_true rfl) (Nat.le_of_ble_eq_true rfl) h5)
theorem b180_80 {d : Nat} {S : mm_S} {a0 : Nat} {x1 : Int32} {x2 : Int32} {x3 : Int32} {x4 : Int32} {x5 : Int32} {x6 : Int32} {x7 : Int32} {x8 : Int32} {v9 : Value} {v10 : Value} (h0 : mm_obj S a0 12 = true) (h1 : (mm_R S a0 9).isSome = true) (h2 : mm_arr S (mm_rg S a0 9) 13 = true) (h3 : mm_inb x4 (mm_N S (mm_rg S a0 9)) = true) (h4 : mm_inb (x4 + (nI 1)) (mm_N S (mm_rg S a0 9)) = true) (h5 : mm_rk S a0 = 12) : mm_ex (d + 1) 180 80 [.ref a0, .int x1, .int x2, .int x3, .int x4, .int x5, .int x6, .int x7, .int x8, v9, v10] [] S =
    mm_bd (mm_cl d 171 [.ref a0] (mm_uM (mm_uM S (mm_rg S a0 9) (x4).toNatClampNeg x6) (mm_rg S a0 9) (x4 + (nI 1)).toNatClampNeg x5)) (fun v S2 => mm_ex (d + 1) 180 104 [.ref a0, .int x1, .int x2, .int x3, .int x4, .int x5, .int x6, .int x7, .int x8, v9, v10] (v.toList ++ []) S2) :=
  Eq.trans (mx_aload_n t180 d180_80 (x := a0) rfl) <|
  Eq.trans (mx_getR t180 d180_81 rfl fl12_33 h0 h1) <|
  Eq.trans (mx_iload t180 d180_84 (x := x4) rfl) <|
  Eq.trans (mx_iload t180 d180_86 (x := x6) rfl) <|
  Eq.trans (mx_iast2 t180 d180_88 h2 h3) <|
  Eq.trans (mx_aload_n t180 d180_89 (x := a0) rfl) <|
  Eq.trans (mx_getR t180 d180_90 rfl fl12_33 h0 h1) <|
  Eq.trans (mx_iload t180 d180_93 (x := x4) rfl) <|
  Eq.trans (mx_iconst t180 d180_95 (v := nI 1) rfl) <|
  Eq.trans (mx_iadd t180 d180_96) <|
  Eq.trans (mx_iload t180 d180_97 (x := x5) rfl) <|
  Eq.trans (mx_iast2 t180 d180_99 h2 h4) <|
  Eq.trans (mx_aload_n t180 d180_100 (x := a0) rfl) <|
  (mx_virt (st := []) (k := 12) t180 [] d180_101 vt12_311 rfl rfl (Nat.le_of_ble_eq_true rfl) (Nat.le_of_ble_eq_true rfl) h5)
theorem b180_104 {d : Nat} {S : mm_S} {a0 : Nat} {x1 : Int32} {x2 : Int32} {x3 : Int32} {x4 : Int32} {x5 : Int32} {x6 : Int32} {x7 : Int32} {x8 : Int32} {v9 : Value} {v10 : Value} (h0 : mm_rk S a0 = 12) : mm_ex (d + 1) 180 104 [.ref a0, .int x1, .int x2, .int x3, .int x4, .int x5, .int x6, .int x7, .int x8, v9, v10] [] S =
    mm_bd (mm_cl d 173 [.ref a0] S) (fun v S2 => mm_ex (d + 1) 180 108 [.ref a0, .int x1, .int x2, .int x3, .int x4, .int x5, .int x6, .int x7, .int x8, v9, v10] (v.toList ++ []) S2) :=
  Eq.trans (mx_aload_n t180 d180_104 (x := a0) rfl) <|
  (mx_virt (st := []) (k := 12) t180 [] d180_105 vt12_314 rfl rfl (Nat.le_of_ble_eq_true rfl) (Nat.le_of_ble_eq_true rfl) h0)
theorem b180_108 {d : Nat} {S : mm_S} {a0 : Nat} {x1 : Int32} {x2 : Int32} {x3 : Int32} {x4 : Int32} {x5 : Int32} {x6 : Int32} {x7 : Int32} {x8 : Int32} {v9 : Value} {v10 : Value} (h0 : mm_obj S a0 12 = true) (h1 : (mm_R S a0 6).isSome = true) (h2 : mm_inb x5 (mm_N S (mm_rg S a0 6)) = true) (h3 : mm_arr S (mm_rg S a0 6) 13 = true) (h4 : mm_inb x6 (mm_N S (mm_rg S a0 6)) = true) (h5 : mm_rk S a0 = 12) : mm_ex (d + 1) 180 108 [.ref a0, .int x1, .int x2, .int x3, .int x4, .int x5, .int x6, .int x7, .int x8, v9, v10] [] S =
    mm_bd (mm_cl d 172 [.ref a0] S) (fun v S2 => mm_ex (d + 1) 180 136 [.ref a0, .int x1, .int x2, .int x3, .int x4, .int x5, .int x6, .int x7, .int x8, .int ((mm_M S (mm_rg S a0 6) (x5).toNatClampNeg) - x7), .int ((mm_M S (mm_rg S a0 6) (x6).toNatClampNeg) - x8)] (v.toList ++ []) S2) :=
  Eq.trans (mx_aload_n t180 d180_108 (x := a0) rfl) <|
  Eq.trans (mx_getR t180 d180_109 rfl fl12_27 h0 h1) <|
  Eq.trans (mx_iload t180 d180_112 (x := x5) rfl) <|
  Eq.trans (mx_iald t180 d180_114 h3 h2) <|
  Eq.trans (mx_iload t180 d180_115 (x := x7) rfl) <|
  Eq.trans (mx_isub t180 d180_117) <|
  Eq.trans (mx_istore t180 d180_118 (ls' := [.ref a0, .int x1, .int x2, .int x3, .int x4, .int x5, .int x6, .int x7, .int x8, .int ((mm_M S (mm_rg S a0 6) (x5).toNatClampNeg) - x7), v10]) rfl rfl) <|
  Eq.trans (mx_aload_n t180 d180_120 (x := a0) rfl) <|
  Eq.trans (mx_getR t180 d180_121 rfl fl12_27 h0 h1) <|
  Eq.trans (mx_iload t180 d180_124 (x := x6) rfl) <|
  Eq.trans (mx_iald t180 d180_126 h3 h4) <|
  Eq.trans (mx_iload t180 d180_127 (x := x8) rfl) <|
  Eq.trans (mx_isub t180 d180_129) <|
  Eq.trans (mx_istore t180 d180_130 (ls' := [.ref a0, .int x1, .int x2, .int x3, .int x4, .int x5, .int x6, .int x7, .int x8, .int ((mm_M S (mm_rg S a0 6) (x5).toNatClampNeg) - x7), .int ((mm_M S (mm_rg S a0 6) (x6).toNatClampNeg) - x8)]) rfl rfl) <|
  Eq.trans (mx_aload_n t180 d180_132 (x := a0) rfl) <|
  (mx_virt (st := []) (k := 12) t180 [] d180_133 vt12_317 rfl rfl (Nat.le_of_ble_eq_true rfl) (Nat.le_of_ble_eq_true rfl) h5)
theorem b180_136 {d : Nat} {S : mm_S} {a0 : Nat} {x1 : Int32} {x2 : Int32} {x3 : Int32} {x4 : Int32} {x5 : Int32} {x6 : Int32} {x7 : Int32} {x8 : Int32} {x9 : Int32} {x10 : Int32} (h0 : mm_obj S a0 12 = true) (h1 : (mm_R S a0 9).isSome = true) (h2 : mm_arr S (mm_rg S a0 9) 13 = true) (h3 : mm_inb x4 (mm_N S (mm_rg S a0 9)) = true) (h4 : mm_inb (x4 + (nI 1)) (mm_N S (mm_rg S a0 9)) = true) : mm_ex d 180 136 [.ref a0, .int x1, .int x2, .int x3, .int x4, .int x5, .int x6, .int x7, .int x8, .int x9, .int x10] [] S =
    if x9 < nI 0 then mm_ex d 180 188 [.ref a0, .int x1, .int x2, .int x3, .int x4, .int x5, .int x6, .int x7, .int x8, .int x9, .int x10] [] (mm_uM (mm_uM S (mm_rg S a0 9) (x4).toNatClampNeg x5) (mm_rg S a0 9) (x4 + (nI 1)).toNatClampNeg x6) else mm_ex d 180 161 [.ref a0, .int x1, .int x2, .int x3, .int x4, .int x5, .int x6, .int x7, .int x8, .int x9, .int x10] [] (mm_uM (mm_uM S (mm_rg S a0 9) (x4).toNatClampNeg x5) (mm_rg S a0 9) (x4 + (nI 1)).toNatClampNeg x6) :=
  Eq.trans (mx_aload_n t180 d180_136 (x := a0) rfl) <|
  Eq.trans (mx_getR t180 d180_137 rfl fl12_33 h0 h1) <|
  Eq.trans (mx_iload t180 d180_140 (x := x4) rfl) <|
  Eq.trans (mx_iload t180 d180_142 (x := x5) rfl) <|
  Eq.trans (mx_iast2 t180 d180_144 h2 h3) <|
  Eq.trans (mx_aload_n t180 d180_145 (x := a0) rfl) <|
  Eq.trans (mx_getR t180 d180_146 rfl fl12_33 h0 h1) <|
  Eq.trans (mx_iload t180 d180_149 (x := x4) rfl) <|
  Eq.trans (mx_iconst t180 d180_151 (v := nI 1) rfl) <|
  Eq.trans (mx_iadd t180 d180_152) <|
  Eq.trans (mx_iload t180 d180_153 (x := x6) rfl) <|
  Eq.trans (mx_iast2 t180 d180_155 h2 h4) <|
  Eq.trans (mx_iload t180 d180_156 (x := x9) rfl) <|
  (mx_ilt t180 d180_158 (tgt := 188) (by decide))
theorem b180_161 {d : Nat} {S : mm_S} {a0 : Nat} {x1 : Int32} {x2 : Int32} {x3 : Int32} {x4 : Int32} {x5 : Int32} {x6 : Int32} {x7 : Int32} {x8 : Int32} {x9 : Int32} {x10 : Int32} : mm_ex d 180 161 [.ref a0, .int x1, .int x2, .int x3, .int x4, .int x5, .int x6, .int x7, .int x8, .int x9, .int x10] [] S =
    if x10 < nI 0 then mm_ex d 180 188 [.ref a0, .int x1, .int x2, .int x3, .int x4, .int x5, .int x6, .int x7, .int x8, .int x9, .int x10] [] S else mm_ex d 180 166 [.ref a0, .int x1, .int x2, .int x3, .int x4, .int x5, .int x6, .int x7, .int x8, .int x9, .int x10] [] S :=
  Eq.trans (mx_iload t180 d180_161 (x := x10) rfl) <|
  (mx_ilt t180 d180_163 (tgt := 188) (by decide))
theorem b180_166 {d : Nat} {S : mm_S} {a0 : Nat} {x1 : Int32} {x2 : Int32} {x3 : Int32} {x4 : Int32} {x5 : Int32} {x6 : Int32} {x7 : Int32} {x8 : Int32} {x9 : Int32} {x10 : Int32} : mm_ex d 180 166 [.ref a0, .int x1, .int x2, .int x3, .int x4, .int x5, .int x6, .int x7, .int x8, .int x9, .int x10] [] S =
    if (x9 + x10) ≤ nI 0 then mm_ex d 180 188 [.ref a0, .int x1, .int x2, .int x3, .int x4, .int x5, .int x6, .int x7, .int x8, .int x9, .int x10] [] S else mm_ex d 180 174 [.ref a0, .int x1, .int x2, .int x3, .int x4, .int x5, .int x6, .int x7, .int x8, .int x9, .int x10] [] S :=
  Eq.trans (mx_iload t180 d180_166 (x := x9) rfl) <|
  Eq.trans (mx_iload t180 d180_168 (x := x10) rfl) <|
  Eq.trans (mx_iadd t180 d180_170) <|
  (mx_ile t180 d180_171 (tgt := 188) (by decide))
theorem b180_174 {d : Nat} {S : mm_S} {a0 : Nat} {x1 : Int32} {x2 : Int32} {x3 : Int32} {x4 : Int32} {x5 : Int32} {x6 : Int32} {x7 : Int32} {x8 : Int32} {x9 : Int32} {x10 : Int32} : mm_ex d 180 174 [.ref a0, .int x1, .int x2, .int x3, .int x4, .int x5, .int x6, .int x7, .int x8, .int x9, .int x10] [] S =
    if x2 = nI 0 then mm_ex d 180 178 [.ref a0, .int x1, .int x2, .int x3, .int x4, .int x5, .int x6, .int x7, .int x8, .int x9, .int x10] [] S else mm_ex d 180 183 [.ref a0, .int x1, .int x2, .int x3, .int x4, .int x5, .int x6, .int x7, .int x8, .int x9, .int x10] [] S :=
  Eq.trans (mx_iload_n t180 d180_174 (x := x2) rfl) <|
  (mx_ine t180 d180_175 (tgt := 183) (by decide))
theorem b180_178 {d : Nat} {S : mm_S} {a0 : Nat} {x1 : Int32} {x2 : Int32} {x3 : Int32} {x4 : Int32} {x5 : Int32} {x6 : Int32} {x7 : Int32} {x8 : Int32} {x9 : Int32} {x10 : Int32} : mm_ex d 180 178 [.ref a0, .int x1, .int x2, .int x3, .int x4, .int x5, .int x6, .int x7, .int x8, .int x9, .int x10] [] S =
    mm_ex d 180 19 [.ref a0, .int x1, .int (x2 + nI 1), .int x4, .int (x4 + nI 1), .int x5, .int x6, .int x7, .int x8, .int x9, .int x10] [] S :=
  Eq.trans (mx_iload t180 d180_178 (x := x4) rfl) <|
  Eq.trans (mx_goto t180 d180_180 (tgt := 184) (by decide)) <|
  Eq.trans (mx_istore_n t180 d180_184 (ls' := [.ref a0, .int x1, .int x2, .int x4, .int x4, .int x5, .int x6, .int x7, .int x8, .int x9, .int x10]) rfl rfl) <|
  Eq.trans (mx_iinc t180 d180_185 (x := x2) (v := nI 1) (ls' := [.ref a0, .int x1, .int (x2 + nI 1), .int x4, .int x4, .int x5, .int x6, .int x7, .int x8, .int x9, .int x10]) rfl rfl rfl rfl) <|
  Eq.trans (mx_iinc t180 d180_188 (x := x4) (v := nI 1) (ls' := [.ref a0, .int x1, .int (x2 + nI 1), .int x4, .int (x4 + nI 1), .int x5, .int x6, .int x7, .int x8, .int x9, .int x10]) rfl rfl rfl rfl) <|
  (mx_goto t180 d180_191 (tgt := 19) (by decide))
theorem b180_183 {d : Nat} {S : mm_S} {a0 : Nat} {x1 : Int32} {x2 : Int32} {x3 : Int32} {x4 : Int32} {x5 : Int32} {x6 : Int32} {x7 : Int32} {x8 : Int32} {x9 : Int32} {x10 : Int32} : mm_ex d 180 183 [.ref a0, .int x1, .int x2, .int x3, .int x4, .int x5, .int x6, .int x7, .int x8, .int x9, .int x10] [] S =
    mm_ex d 180 19 [.ref a0, .int x1, .int (x2 + nI 1), .int x3, .int (x4 + nI 1), .int x5, .int x6, .int x7, .int x8, .int x9, .int x10] [] S :=
  Eq.trans (mx_iload_n t180 d180_183 (x := x3) rfl) <|
  Eq.trans (mx_istore_n t180 d180_184 (ls' := [.ref a0, .int x1, .int x2, .int x3, .int x4, .int x5, .int x6, .int x7, .int x8, .int x9, .int x10]) rfl rfl) <|
  Eq.trans (mx_iinc t180 d180_185 (x := x2) (v := nI 1) (ls' := [.ref a0, .int x1, .int (x2 + nI 1), .int x3, .int x4, .int x5, .int x6, .int x7, .int x8, .int x9, .int x10]) rfl rfl rfl rfl) <|
  Eq.trans (mx_iinc t180 d180_188 (x := x4) (v := nI 1) (ls' := [.ref a0, .int x1, .int (x2 + nI 1), .int x3, .int (x4 + nI 1), .int x5, .int x6, .int x7, .int x8, .int x9, .int x10]) rfl rfl rfl rfl) <|
  (mx_goto t180 d180_191 (tgt := 19) (by decide))
theorem b180_188 {d : Nat} {S : mm_S} {a0 : Nat} {x1 : Int32} {x2 : Int32} {x3 : Int32} {x4 : Int32} {x5 : Int32} {x6 : Int32} {x7 : Int32} {x8 : Int32} {x9 : Int32} {x10 : Int32} : mm_ex d 180 188 [.ref a0, .int x1, .int x2, .int x3, .int x4, .int x5, .int x6, .int x7, .int x8, .int x9, .int x10] [] S =
    mm_ex d 180 19 [.ref a0, .int x1, .int x2, .int x3, .int (x4 + nI 1), .int x5, .int x6, .int x7, .int x8, .int x9, .int x10] [] S :=
  Eq.trans (mx_iinc t180 d180_188 (x := x4) (v := nI 1) (ls' := [.ref a0, .int x1, .int x2, .int x3, .int (x4 + nI 1), .int x5, .int x6, .int x7, .int x8, .int x9, .int x10]) rfl rfl rfl rfl) <|
  (mx_goto t180 d180_191 (tgt := 19) (by decide))
theorem b180_194 {d : Nat} {S : mm_S} {a0 : Nat} {x1 : Int32} {x2 : Int32} {x3 : Int32} {x4 : Int32} {v5 : Value} {v6 : Value} {v7 : Value} {v8 : Value} {v9 : Value} {v10 : Value} : mm_ex d 180 194 [.ref a0, .int x1, .int x2, .int x3, .int x4, v5, v6, v7, v8, v9, v10] [] S =
    if x1 = nI 0 then mm_ex d 180 198 [.ref a0, .int x1, .int x2, .int x3, .int x4, v5, v6, v7, v8, v9, v10] [] S else mm_ex d 180 202 [.ref a0, .int x1, .int x2, .int x3, .int x4, v5, v6, v7, v8, v9, v10] [] S :=
  Eq.trans (mx_iload_n t180 d180_194 (x := x1) rfl) <|
  (mx_ine t180 d180_195 (tgt := 202) (by decide))
theorem b180_198 {d : Nat} {S : mm_S} {a0 : Nat} {x1 : Int32} {x2 : Int32} {x3 : Int32} {x4 : Int32} {v5 : Value} {v6 : Value} {v7 : Value} {v8 : Value} {v9 : Value} {v10 : Value} : mm_ex d 180 198 [.ref a0, .int x1, .int x2, .int x3, .int x4, v5, v6, v7, v8, v9, v10] [] S =
    some (some (.int x2), S) :=
  Eq.trans (mx_iload_n t180 d180_198 (x := x2) rfl) <|
  Eq.trans (mx_goto t180 d180_199 (tgt := 203) (by decide)) <|
  (mx_iret t180 d180_203 (ty := .int) rfl rfl (fun h => nomatch h))
theorem b180_202 {d : Nat} {S : mm_S} {a0 : Nat} {x1 : Int32} {x2 : Int32} {x3 : Int32} {x4 : Int32} {v5 : Value} {v6 : Value} {v7 : Value} {v8 : Value} {v9 : Value} {v10 : Value} : mm_ex d 180 202 [.ref a0, .int x1, .int x2, .int x3, .int x4, v5, v6, v7, v8, v9, v10] [] S =
    some (some (.int x3), S) :=
  Eq.trans (mx_iload_n t180 d180_202 (x := x3) rfl) <|
  (mx_iret t180 d180_203 (ty := .int) rfl rfl (fun h => nomatch h))
theorem e180 {d : Nat} {S : mm_S} {a0 : Nat} {x1 : Int32} : mm_cl d 180 [.ref a0, .int x1] S = mm_ex d 180 0 [.ref a0, .int x1, .null, .null, .null, .null, .null, .null, .null, .null, .null] [] S := mm_cl_eq t180 (Nat.le_of_ble_eq_true rfl) rfl
