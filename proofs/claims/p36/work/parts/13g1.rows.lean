/-! X12_testRead -/
theorem dd145_0 : (decode prog_14_method_20_code 0 = .ok (.iconst (-1), 1)) ∧ (decode prog_14_method_20_code 1 = .ok (.istore_n 1, 1)) ∧ (decode prog_14_method_20_code 2 = .ok (.iconst 0, 1)) ∧ (decode prog_14_method_20_code 3 = .ok (.istore_n 2, 1)) ∧ (decode prog_14_method_20_code 4 = .ok (.iload_n 2, 1)) ∧ (decode prog_14_method_20_code 5 = .ok (.bipush 7, 2)) ∧ (decode prog_14_method_20_code 7 = .ok (.if_icmp .ge 28, 3)) ∧ (decode prog_14_method_20_code 10 = .ok (.aload_n 0, 1)) ∧ (decode prog_14_method_20_code 11 = .ok (.invokevirtual 190, 3)) ∧ (decode prog_14_method_20_code 14 = .ok (.aload_n 0, 1)) ∧ (decode prog_14_method_20_code 15 = .ok (.getfield 92, 3)) ∧ (decode prog_14_method_20_code 18 = .ok (.iload_n 2, 1)) ∧ (decode prog_14_method_20_code 19 = .ok (.iaload, 1)) ∧ (decode prog_14_method_20_code 20 = .ok (.if_icmp .ne 7, 3)) ∧ (decode prog_14_method_20_code 23 = .ok (.iload_n 2, 1)) ∧ (decode prog_14_method_20_code 24 = .ok (.goto 4, 3)) := by decide +kernel
theorem d145_0 : decode prog_14_method_20_code 0 = .ok (.iconst (-1), 1) := dd145_0.1
theorem d145_1 : decode prog_14_method_20_code 1 = .ok (.istore_n 1, 1) := dd145_0.2.1
theorem d145_2 : decode prog_14_method_20_code 2 = .ok (.iconst 0, 1) := dd145_0.2.2.1
theorem d145_3 : decode prog_14_method_20_code 3 = .ok (.istore_n 2, 1) := dd145_0.2.2.2.1
theorem d145_4 : decode prog_14_method_20_code 4 = .ok (.iload_n 2, 1) := dd145_0.2.2.2.2.1
theorem d145_5 : decode prog_14_method_20_code 5 = .ok (.bipush 7, 2) := dd145_0.2.2.2.2.2.1
theorem d145_7 : decode prog_14_method_20_code 7 = .ok (.if_icmp .ge 28, 3) := dd145_0.2.2.2.2.2.2.1
theorem d145_10 : decode prog_14_method_20_code 10 = .ok (.aload_n 0, 1) := dd145_0.2.2.2.2.2.2.2.1
theorem d145_11 : decode prog_14_method_20_code 11 = .ok (.invokevirtual 190, 3) := dd145_0.2.2.2.2.2.2.2.2.1
theorem d145_14 : decode prog_14_method_20_code 14 = .ok (.aload_n 0, 1) := dd145_0.2.2.2.2.2.2.2.2.2.1
theorem d145_15 : decode prog_14_method_20_code 15 = .ok (.getfield 92, 3) := dd145_0.2.2.2.2.2.2.2.2.2.2.1
theorem d145_18 : decode prog_14_method_20_code 18 = .ok (.iload_n 2, 1) := dd145_0.2.2.2.2.2.2.2.2.2.2.2.1
theorem d145_19 : decode prog_14_method_20_code 19 = .ok (.iaload, 1) := dd145_0.2.2.2.2.2.2.2.2.2.2.2.2.1
theorem d145_20 : decode prog_14_method_20_code 20 = .ok (.if_icmp .ne 7, 3) := dd145_0.2.2.2.2.2.2.2.2.2.2.2.2.2.1
theorem d145_23 : decode prog_14_method_20_code 23 = .ok (.iload_n 2, 1) := dd145_0.2.2.2.2.2.2.2.2.2.2.2.2.2.2.1
theorem d145_24 : decode prog_14_method_20_code 24 = .ok (.goto 4, 3) := dd145_0.2.2.2.2.2.2.2.2.2.2.2.2.2.2.2
theorem dd145_27 : (decode prog_14_method_20_code 27 = .ok (.iload_n 1, 1)) ∧ (decode prog_14_method_20_code 28 = .ok (.istore_n 1, 1)) ∧ (decode prog_14_method_20_code 29 = .ok (.iinc 2 1, 3)) ∧ (decode prog_14_method_20_code 32 = .ok (.goto (-28), 3)) ∧ (decode prog_14_method_20_code 35 = .ok (.iload_n 1, 1)) ∧ (decode prog_14_method_20_code 36 = .ok (.iconst (-1), 1)) ∧ (decode prog_14_method_20_code 37 = .ok (.if_icmp .ne 5, 3)) ∧ (decode prog_14_method_20_code 40 = .ok (.iconst 0, 1)) ∧ (decode prog_14_method_20_code 41 = .ok (.ireturn, 1)) ∧ (decode prog_14_method_20_code 42 = .ok (.aload_n 0, 1)) ∧ (decode prog_14_method_20_code 43 = .ok (.dup, 1)) ∧ (decode prog_14_method_20_code 44 = .ok (.getfield 187, 3)) ∧ (decode prog_14_method_20_code 47 = .ok (.iconst 1, 1)) ∧ (decode prog_14_method_20_code 48 = .ok (.iadd, 1)) ∧ (decode prog_14_method_20_code 49 = .ok (.putfield 187, 3)) ∧ (decode prog_14_method_20_code 52 = .ok (.aload_n 0, 1)) := by decide +kernel
theorem d145_27 : decode prog_14_method_20_code 27 = .ok (.iload_n 1, 1) := dd145_27.1
theorem d145_28 : decode prog_14_method_20_code 28 = .ok (.istore_n 1, 1) := dd145_27.2.1
theorem d145_29 : decode prog_14_method_20_code 29 = .ok (.iinc 2 1, 3) := dd145_27.2.2.1
theorem d145_32 : decode prog_14_method_20_code 32 = .ok (.goto (-28), 3) := dd145_27.2.2.2.1
theorem d145_35 : decode prog_14_method_20_code 35 = .ok (.iload_n 1, 1) := dd145_27.2.2.2.2.1
theorem d145_36 : decode prog_14_method_20_code 36 = .ok (.iconst (-1), 1) := dd145_27.2.2.2.2.2.1
theorem d145_37 : decode prog_14_method_20_code 37 = .ok (.if_icmp .ne 5, 3) := dd145_27.2.2.2.2.2.2.1
theorem d145_40 : decode prog_14_method_20_code 40 = .ok (.iconst 0, 1) := dd145_27.2.2.2.2.2.2.2.1
theorem d145_41 : decode prog_14_method_20_code 41 = .ok (.ireturn, 1) := dd145_27.2.2.2.2.2.2.2.2.1
theorem d145_42 : decode prog_14_method_20_code 42 = .ok (.aload_n 0, 1) := dd145_27.2.2.2.2.2.2.2.2.2.1
theorem d145_43 : decode prog_14_method_20_code 43 = .ok (.dup, 1) := dd145_27.2.2.2.2.2.2.2.2.2.2.1
theorem d145_44 : decode prog_14_method_20_code 44 = .ok (.getfield 187, 3) := dd145_27.2.2.2.2.2.2.2.2.2.2.2.1
theorem d145_47 : decode prog_14_method_20_code 47 = .ok (.iconst 1, 1) := dd145_27.2.2.2.2.2.2.2.2.2.2.2.2.1
theorem d145_48 : decode prog_14_method_20_code 48 = .ok (.iadd, 1) := dd145_27.2.2.2.2.2.2.2.2.2.2.2.2.2.1
theorem d145_49 : decode prog_14_method_20_code 49 = .ok (.putfield 187, 3) := dd145_27.2.2.2.2.2.2.2.2.2.2.2.2.2.2.1
theorem d145_52 : decode prog_14_method_20_code 52 = .ok (.aload_n 0, 1) := dd145_27.2.2.2.2.2.2.2.2.2.2.2.2.2.2.2
theorem dd145_53 : (decode prog_14_method_20_code 53 = .ok (.invokevirtual 190, 3)) ∧ (decode prog_14_method_20_code 56 = .ok (.bipush 60, 2)) ∧ (decode prog_14_method_20_code 58 = .ok (.if_icmp .ne 7, 3)) ∧ (decode prog_14_method_20_code 61 = .ok (.iconst 0, 1)) ∧ (decode prog_14_method_20_code 62 = .ok (.goto 30, 3)) ∧ (decode prog_14_method_20_code 65 = .ok (.aload_n 0, 1)) ∧ (decode prog_14_method_20_code 66 = .ok (.invokevirtual 190, 3)) ∧ (decode prog_14_method_20_code 69 = .ok (.bipush 61, 2)) ∧ (decode prog_14_method_20_code 71 = .ok (.if_icmp .ne 7, 3)) ∧ (decode prog_14_method_20_code 74 = .ok (.iconst 1, 1)) ∧ (decode prog_14_method_20_code 75 = .ok (.goto 17, 3)) ∧ (decode prog_14_method_20_code 78 = .ok (.aload_n 0, 1)) ∧ (decode prog_14_method_20_code 79 = .ok (.invokevirtual 190, 3)) ∧ (decode prog_14_method_20_code 82 = .ok (.bipush 62, 2)) ∧ (decode prog_14_method_20_code 84 = .ok (.if_icmp .ne 7, 3)) ∧ (decode prog_14_method_20_code 87 = .ok (.iconst 2, 1)) := by decide +kernel
theorem d145_53 : decode prog_14_method_20_code 53 = .ok (.invokevirtual 190, 3) := dd145_53.1
theorem d145_56 : decode prog_14_method_20_code 56 = .ok (.bipush 60, 2) := dd145_53.2.1
theorem d145_58 : decode prog_14_method_20_code 58 = .ok (.if_icmp .ne 7, 3) := dd145_53.2.2.1
theorem d145_61 : decode prog_14_method_20_code 61 = .ok (.iconst 0, 1) := dd145_53.2.2.2.1
theorem d145_62 : decode prog_14_method_20_code 62 = .ok (.goto 30, 3) := dd145_53.2.2.2.2.1
theorem d145_65 : decode prog_14_method_20_code 65 = .ok (.aload_n 0, 1) := dd145_53.2.2.2.2.2.1
theorem d145_66 : decode prog_14_method_20_code 66 = .ok (.invokevirtual 190, 3) := dd145_53.2.2.2.2.2.2.1
theorem d145_69 : decode prog_14_method_20_code 69 = .ok (.bipush 61, 2) := dd145_53.2.2.2.2.2.2.2.1
theorem d145_71 : decode prog_14_method_20_code 71 = .ok (.if_icmp .ne 7, 3) := dd145_53.2.2.2.2.2.2.2.2.1
theorem d145_74 : decode prog_14_method_20_code 74 = .ok (.iconst 1, 1) := dd145_53.2.2.2.2.2.2.2.2.2.1
theorem d145_75 : decode prog_14_method_20_code 75 = .ok (.goto 17, 3) := dd145_53.2.2.2.2.2.2.2.2.2.2.1
theorem d145_78 : decode prog_14_method_20_code 78 = .ok (.aload_n 0, 1) := dd145_53.2.2.2.2.2.2.2.2.2.2.2.1
theorem d145_79 : decode prog_14_method_20_code 79 = .ok (.invokevirtual 190, 3) := dd145_53.2.2.2.2.2.2.2.2.2.2.2.2.1
theorem d145_82 : decode prog_14_method_20_code 82 = .ok (.bipush 62, 2) := dd145_53.2.2.2.2.2.2.2.2.2.2.2.2.2.1
theorem d145_84 : decode prog_14_method_20_code 84 = .ok (.if_icmp .ne 7, 3) := dd145_53.2.2.2.2.2.2.2.2.2.2.2.2.2.2.1
theorem d145_87 : decode prog_14_method_20_code 87 = .ok (.iconst 2, 1) := dd145_53.2.2.2.2.2.2.2.2.2.2.2.2.2.2.2
theorem dd145_88 : (decode prog_14_method_20_code 88 = .ok (.goto 4, 3)) ∧ (decode prog_14_method_20_code 91 = .ok (.iconst (-1), 1)) ∧ (decode prog_14_method_20_code 92 = .ok (.istore_n 2, 1)) ∧ (decode prog_14_method_20_code 93 = .ok (.iload_n 2, 1)) ∧ (decode prog_14_method_20_code 94 = .ok (.iconst (-1), 1)) ∧ (decode prog_14_method_20_code 95 = .ok (.if_icmp .ne 5, 3)) ∧ (decode prog_14_method_20_code 98 = .ok (.iconst 0, 1)) ∧ (decode prog_14_method_20_code 99 = .ok (.ireturn, 1)) ∧ (decode prog_14_method_20_code 100 = .ok (.aload_n 0, 1)) ∧ (decode prog_14_method_20_code 101 = .ok (.dup, 1)) ∧ (decode prog_14_method_20_code 102 = .ok (.getfield 187, 3)) ∧ (decode prog_14_method_20_code 105 = .ok (.iconst 1, 1)) ∧ (decode prog_14_method_20_code 106 = .ok (.iadd, 1)) ∧ (decode prog_14_method_20_code 107 = .ok (.putfield 187, 3)) ∧ (decode prog_14_method_20_code 110 = .ok (.aload_n 0, 1)) ∧ (decode prog_14_method_20_code 111 = .ok (.invokevirtual 203, 3)) := by decide +kernel
theorem d145_88 : decode prog_14_method_20_code 88 = .ok (.goto 4, 3) := dd145_88.1
theorem d145_91 : decode prog_14_method_20_code 91 = .ok (.iconst (-1), 1) := dd145_88.2.1
theorem d145_92 : decode prog_14_method_20_code 92 = .ok (.istore_n 2, 1) := dd145_88.2.2.1
theorem d145_93 : decode prog_14_method_20_code 93 = .ok (.iload_n 2, 1) := dd145_88.2.2.2.1
theorem d145_94 : decode prog_14_method_20_code 94 = .ok (.iconst (-1), 1) := dd145_88.2.2.2.2.1
theorem d145_95 : decode prog_14_method_20_code 95 = .ok (.if_icmp .ne 5, 3) := dd145_88.2.2.2.2.2.1
theorem d145_98 : decode prog_14_method_20_code 98 = .ok (.iconst 0, 1) := dd145_88.2.2.2.2.2.2.1
theorem d145_99 : decode prog_14_method_20_code 99 = .ok (.ireturn, 1) := dd145_88.2.2.2.2.2.2.2.1
theorem d145_100 : decode prog_14_method_20_code 100 = .ok (.aload_n 0, 1) := dd145_88.2.2.2.2.2.2.2.2.1
theorem d145_101 : decode prog_14_method_20_code 101 = .ok (.dup, 1) := dd145_88.2.2.2.2.2.2.2.2.2.1
theorem d145_102 : decode prog_14_method_20_code 102 = .ok (.getfield 187, 3) := dd145_88.2.2.2.2.2.2.2.2.2.2.1
theorem d145_105 : decode prog_14_method_20_code 105 = .ok (.iconst 1, 1) := dd145_88.2.2.2.2.2.2.2.2.2.2.2.1
theorem d145_106 : decode prog_14_method_20_code 106 = .ok (.iadd, 1) := dd145_88.2.2.2.2.2.2.2.2.2.2.2.2.1
theorem d145_107 : decode prog_14_method_20_code 107 = .ok (.putfield 187, 3) := dd145_88.2.2.2.2.2.2.2.2.2.2.2.2.2.1
theorem d145_110 : decode prog_14_method_20_code 110 = .ok (.aload_n 0, 1) := dd145_88.2.2.2.2.2.2.2.2.2.2.2.2.2.2.1
theorem d145_111 : decode prog_14_method_20_code 111 = .ok (.invokevirtual 203, 3) := dd145_88.2.2.2.2.2.2.2.2.2.2.2.2.2.2.2
theorem dd145_114 : (decode prog_14_method_20_code 114 = .ok (.istore_n 3, 1)) ∧ (decode prog_14_method_20_code 115 = .ok (.iload_n 3, 1)) ∧ (decode prog_14_method_20_code 116 = .ok (.iconst (-1), 1)) ∧ (decode prog_14_method_20_code 117 = .ok (.if_icmp .ne 5, 3)) ∧ (decode prog_14_method_20_code 120 = .ok (.iconst 0, 1)) ∧ (decode prog_14_method_20_code 121 = .ok (.ireturn, 1)) ∧ (decode prog_14_method_20_code 122 = .ok (.aload_n 0, 1)) ∧ (decode prog_14_method_20_code 123 = .ok (.sipush 1000, 3)) ∧ (decode prog_14_method_20_code 126 = .ok (.iconst 1, 1)) ∧ (decode prog_14_method_20_code 127 = .ok (.iconst 3, 1)) ∧ (decode prog_14_method_20_code 128 = .ok (.iload_n 1, 1)) ∧ (decode prog_14_method_20_code 129 = .ok (.imul, 1)) ∧ (decode prog_14_method_20_code 130 = .ok (.iadd, 1)) ∧ (decode prog_14_method_20_code 131 = .ok (.iload_n 2, 1)) ∧ (decode prog_14_method_20_code 132 = .ok (.iadd, 1)) ∧ (decode prog_14_method_20_code 133 = .ok (.imul, 1)) := by decide +kernel
theorem d145_114 : decode prog_14_method_20_code 114 = .ok (.istore_n 3, 1) := dd145_114.1
theorem d145_115 : decode prog_14_method_20_code 115 = .ok (.iload_n 3, 1) := dd145_114.2.1
theorem d145_116 : decode prog_14_method_20_code 116 = .ok (.iconst (-1), 1) := dd145_114.2.2.1
theorem d145_117 : decode prog_14_method_20_code 117 = .ok (.if_icmp .ne 5, 3) := dd145_114.2.2.2.1
theorem d145_120 : decode prog_14_method_20_code 120 = .ok (.iconst 0, 1) := dd145_114.2.2.2.2.1
theorem d145_121 : decode prog_14_method_20_code 121 = .ok (.ireturn, 1) := dd145_114.2.2.2.2.2.1
theorem d145_122 : decode prog_14_method_20_code 122 = .ok (.aload_n 0, 1) := dd145_114.2.2.2.2.2.2.1
theorem d145_123 : decode prog_14_method_20_code 123 = .ok (.sipush 1000, 3) := dd145_114.2.2.2.2.2.2.2.1
theorem d145_126 : decode prog_14_method_20_code 126 = .ok (.iconst 1, 1) := dd145_114.2.2.2.2.2.2.2.2.1
theorem d145_127 : decode prog_14_method_20_code 127 = .ok (.iconst 3, 1) := dd145_114.2.2.2.2.2.2.2.2.2.1
theorem d145_128 : decode prog_14_method_20_code 128 = .ok (.iload_n 1, 1) := dd145_114.2.2.2.2.2.2.2.2.2.2.1
theorem d145_129 : decode prog_14_method_20_code 129 = .ok (.imul, 1) := dd145_114.2.2.2.2.2.2.2.2.2.2.2.1
theorem d145_130 : decode prog_14_method_20_code 130 = .ok (.iadd, 1) := dd145_114.2.2.2.2.2.2.2.2.2.2.2.2.1
theorem d145_131 : decode prog_14_method_20_code 131 = .ok (.iload_n 2, 1) := dd145_114.2.2.2.2.2.2.2.2.2.2.2.2.2.1
theorem d145_132 : decode prog_14_method_20_code 132 = .ok (.iadd, 1) := dd145_114.2.2.2.2.2.2.2.2.2.2.2.2.2.2.1
theorem d145_133 : decode prog_14_method_20_code 133 = .ok (.imul, 1) := dd145_114.2.2.2.2.2.2.2.2.2.2.2.2.2.2.2
theorem dd145_134 : (decode prog_14_method_20_code 134 = .ok (.iload_n 3, 1)) ∧ (decode prog_14_method_20_code 135 = .ok (.iadd, 1)) ∧ (decode prog_14_method_20_code 136 = .ok (.invokevirtual 206, 3)) ∧ (decode prog_14_method_20_code 139 = .ok (.iconst 1, 1)) ∧ (decode prog_14_method_20_code 140 = .ok (.ireturn, 1)) := by decide +kernel
theorem d145_134 : decode prog_14_method_20_code 134 = .ok (.iload_n 3, 1) := dd145_134.1
theorem d145_135 : decode prog_14_method_20_code 135 = .ok (.iadd, 1) := dd145_134.2.1
theorem d145_136 : decode prog_14_method_20_code 136 = .ok (.invokevirtual 206, 3) := dd145_134.2.2.1
theorem d145_139 : decode prog_14_method_20_code 139 = .ok (.iconst 1, 1) := dd145_134.2.2.2.1
theorem d145_140 : decode prog_14_method_20_code 140 = .ok (.ireturn, 1) := dd145_134.2.2.2.2
theorem b145_0 {d : Nat} {S : mm_S} {a0 : Nat} : mm_ex d 145 0 [.ref a0, .null, .null, .null] [] S =
    mm_ex d 145 4 [.ref a0, .int (-1), .int (nI 0), .null] [] S :=
  Eq.trans (mx_iconst t145 d145_0 (v := -1) rfl) <|
  Eq.trans (mx_istore_n t145 d145_1 (ls' := [.ref a0, .int (-1), .null, .null]) rfl rfl) <|
  Eq.trans (mx_iconst t145 d145_2 (v := nI 0) rfl) <|
  (mx_istore_n t145 d145_3 (ls' := [.ref a0, .int (-1), .int (nI 0), .null]) rfl rfl)
theorem b145_4 {d : Nat} {S : mm_S} {a0 : Nat} {x1 : Int32} {x2 : Int32} : mm_ex d 145 4 [.ref a0, .int x1, .int x2, .null] [] S =
    if (nI 7) ≤ x2 then mm_ex d 145 35 [.ref a0, .int x1, .int x2, .null] [] S else mm_ex d 145 10 [.ref a0, .int x1, .int x2, .null] [] S :=
  Eq.trans (mx_iload_n t145 d145_4 (x := x2) rfl) <|
  Eq.trans (mx_bipush t145 d145_5 (v := nI 7) rfl) <|
  (mx_cge t145 d145_7 (tgt := 35) (by decide))
theorem b145_10 {d : Nat} {S : mm_S} {a0 : Nat} {x1 : Int32} {x2 : Int32} (h0 : mm_rk S a0 = 12) : mm_ex (d + 1) 145 10 [.ref a0, .int x1, .int x2, .null] [] S =
    mm_bd (mm_cl d 139 [.ref a0] S) (fun v S2 => mm_ex (d + 1) 145 14 [.ref a0, .int x1, .int x2, .null] (v.toList ++ []) S2) :=
  Eq.trans (mx_aload_n t145 d145_10 (x := a0) rfl) <|
  (mx_virt (st := []) (k := 12) t145 [] d145_11 vt12_190 rfl rfl (Nat.le_of_ble_eq_true rfl) (Nat.le_of_ble_eq_true rfl) h0)
theorem b145_14 {d : Nat} {S : mm_S} {a0 : Nat} {x1 : Int32} {x2 : Int32} {p0 : Int32} (h0 : mm_obj S a0 12 = true) (h1 : (mm_R S a0 35).isSome = true) (h2 : mm_inb x2 (mm_N S (mm_rg S a0 35)) = true) (h3 : mm_arr S (mm_rg S a0 35) 13 = true) : mm_ex d 145 14 [.ref a0, .int x1, .int x2, .null] [.int p0] S =
    if p0 = (mm_M S (mm_rg S a0 35) (x2).toNatClampNeg) then mm_ex d 145 23 [.ref a0, .int x1, .int x2, .null] [] S else mm_ex d 145 27 [.ref a0, .int x1, .int x2, .null] [] S :=
  Eq.trans (mx_aload_n t145 d145_14 (x := a0) rfl) <|
  Eq.trans (mx_getR t145 d145_15 rfl fl12_92 h0 h1) <|
  Eq.trans (mx_iload_n t145 d145_18 (x := x2) rfl) <|
  Eq.trans (mx_iald t145 d145_19 h3 h2) <|
  (mx_cne t145 d145_20 (tgt := 27) (by decide))
theorem b145_23 {d : Nat} {S : mm_S} {a0 : Nat} {x1 : Int32} {x2 : Int32} : mm_ex d 145 23 [.ref a0, .int x1, .int x2, .null] [] S =
    mm_ex d 145 4 [.ref a0, .int x2, .int (x2 + nI 1), .null] [] S :=
  Eq.trans (mx_iload_n t145 d145_23 (x := x2) rfl) <|
  Eq.trans (mx_goto t145 d145_24 (tgt := 28) (by decide)) <|
  Eq.trans (mx_istore_n t145 d145_28 (ls' := [.ref a0, .int x2, .int x2, .null]) rfl rfl) <|
  Eq.trans (mx_iinc t145 d145_29 (x := x2) (v := nI 1) (ls' := [.ref a0, .int x2, .int (x2 + nI 1), .null]) rfl rfl rfl rfl) <|
  (mx_goto t145 d145_32 (tgt := 4) (by decide))
theorem b145_27 {d : Nat} {S : mm_S} {a0 : Nat} {x1 : Int32} {x2 : Int32} : mm_ex d 145 27 [.ref a0, .int x1, .int x2, .null] [] S =
    mm_ex d 145 4 [.ref a0, .int x1, .int (x2 + nI 1), .null] [] S :=
  Eq.trans (mx_iload_n t145 d145_27 (x := x1) rfl) <|
  Eq.trans (mx_istore_n t145 d145_28 (ls' := [.ref a0, .int x1, .int x2, .null]) rfl rfl) <|
  Eq.trans (mx_iinc t145 d145_29 (x := x2) (v := nI 1) (ls' := [.ref a0, .int x1, .int (x2 + nI 1), .null]) rfl rfl rfl rfl) <|
  (mx_goto t145 d145_32 (tgt := 4) (by decide))
theorem b145_35 {d : Nat} {S : mm_S} {a0 : Nat} {x1 : Int32} {x2 : Int32} : mm_ex d 145 35 [.ref a0, .int x1, .int x2, .null] [] S =
    if x1 = (-1) then mm_ex d 145 40 [.ref a0, .int x1, .int x2, .null] [] S else mm_ex d 145 42 [.ref a0, .int x1, .int x2, .null] [] S :=
  Eq.trans (mx_iload_n t145 d145_35 (x := x1) rfl) <|
  Eq.trans (mx_iconst t145 d145_36 (v := -1) rfl) <|
  (mx_cne t145 d145_37 (tgt := 42) (by decide))
theorem b145_40 {d : Nat} {S : mm_S} {a0 : Nat} {x1 : Int32} {x2 : Int32} : mm_ex d 145 40 [.ref a0, .int x1, .int x2, .null] [] S =
    some (some (.int (nI 0)), S) :=
  Eq.trans (mx_iconst t145 d145_40 (v := nI 0) rfl) <|
  (mx_iret t145 d145_41 (ty := .boolean) rfl rfl (fun h => nomatch h))
theorem b145_42 {d : Nat} {S : mm_S} {a0 : Nat} {x1 : Int32} {x2 : Int32} (h0 : mm_obj S a0 12 = true) (h1 : mm_rk S a0 = 12) : mm_ex (d + 1) 145 42 [.ref a0, .int x1, .int x2, .null] [] S =
    mm_bd (mm_cl d 139 [.ref a0] (mm_uM S a0 36 ((mm_M S a0 36) + (nI 1)))) (fun v S2 => mm_ex (d + 1) 145 56 [.ref a0, .int x1, .int x2, .null] (v.toList ++ []) S2) :=
  Eq.trans (mx_aload_n t145 d145_42 (x := a0) rfl) <|
  Eq.trans (mx_dupr t145 d145_43) <|
  Eq.trans (mx_geti t145 d145_44 rfl fl12_187 h0) <|
  Eq.trans (mx_iconst t145 d145_47 (v := nI 1) rfl) <|
  Eq.trans (mx_iadd t145 d145_48) <|
  Eq.trans (mx_puti2 t145 d145_49 fl12_187 rfl h0) <|
  Eq.trans (mx_aload_n t145 d145_52 (x := a0) rfl) <|
  (mx_virt (st := []) (k := 12) t145 [] d145_53 vt12_190 rfl rfl (Nat.le_of_ble_eq_true rfl) (Nat.le_of_ble_eq_true rfl) h1)
theorem b145_56 {d : Nat} {S : mm_S} {a0 : Nat} {x1 : Int32} {x2 : Int32} {p0 : Int32} : mm_ex d 145 56 [.ref a0, .int x1, .int x2, .null] [.int p0] S =
    if p0 = (nI 60) then mm_ex d 145 61 [.ref a0, .int x1, .int x2, .null] [] S else mm_ex d 145 65 [.ref a0, .int x1, .int x2, .null] [] S :=
  Eq.trans (mx_bipush t145 d145_56 (v := nI 60) rfl) <|
  (mx_cne t145 d145_58 (tgt := 65) (by decide))
theorem b145_61 {d : Nat} {S : mm_S} {a0 : Nat} {x1 : Int32} {x2 : Int32} : mm_ex d 145 61 [.ref a0, .int x1, .int x2, .null] [] S =
    if (nI 0) = (-1) then mm_ex d 145 98 [.ref a0, .int x1, .int (nI 0), .null] [] S else mm_ex d 145 100 [.ref a0, .int x1, .int (nI 0), .null] [] S :=
  Eq.trans (mx_iconst t145 d145_61 (v := nI 0) rfl) <|
  Eq.trans (mx_goto t145 d145_62 (tgt := 92) (by decide)) <|
  Eq.trans (mx_istore_n t145 d145_92 (ls' := [.ref a0, .int x1, .int (nI 0), .null]) rfl rfl) <|
  Eq.trans (mx_iload_n t145 d145_93 (x := nI 0) rfl) <|
  Eq.trans (mx_iconst t145 d145_94 (v := -1) rfl) <|
  (mx_cne t145 d145_95 (tgt := 100) (by decide))
theorem b145_65 {d : Nat} {S : mm_S} {a0 : Nat} {x1 : Int32} {x2 : Int32} (h0 : mm_rk S a0 = 12) : mm_ex (d + 1) 145 65 [.ref a0, .int x1, .int x2, .null] [] S =
    mm_bd (mm_cl d 139 [.ref a0] S) (fun v S2 => mm_ex (d + 1) 145 69 [.ref a0, .int x1, .int x2, .null] (v.toList ++ []) S2) :=
  Eq.trans (mx_aload_n t145 d145_65 (x := a0) rfl) <|
  (mx_virt (st := []) (k := 12) t145 [] d145_66 vt12_190 rfl rfl (Nat.le_of_ble_eq_true rfl) (Nat.le_of_ble_eq_true rfl) h0)
theorem b145_69 {d : Nat} {S : mm_S} {a0 : Nat} {x1 : Int32} {x2 : Int32} {p0 : Int32} : mm_ex d 145 69 [.ref a0, .int x1, .int x2, .null] [.int p0] S =
    if p0 = (nI 61) then mm_ex d 145 74 [.ref a0, .int x1, .int x2, .null] [] S else mm_ex d 145 78 [.ref a0, .int x1, .int x2, .null] [] S :=
  Eq.trans (mx_bipush t145 d145_69 (v := nI 61) rfl) <|
  (mx_cne t145 d145_71 (tgt := 78) (by decide))
theorem b145_74 {d : Nat} {S : mm_S} {a0 : Nat} {x1 : Int32} {x2 : Int32} : mm_ex d 145 74 [.ref a0, .int x1, .int x2, .null] [] S =
    if (nI 1) = (-1) then mm_ex d 145 98 [.ref a0, .int x1, .int (nI 1), .null] [] S else mm_ex d 145 100 [.ref a0, .int x1, .int (nI 1), .null] [] S :=
  Eq.trans (mx_iconst t145 d145_74 (v := nI 1) rfl) <|
  Eq.trans (mx_goto t145 d145_75 (tgt := 92) (by decide)) <|
  Eq.trans (mx_istore_n t145 d145_92 (ls' := [.ref a0, .int x1, .int (nI 1), .null]) rfl rfl) <|
  Eq.trans (mx_iload_n t145 d145_93 (x := nI 1) rfl) <|
  Eq.trans (mx_iconst t145 d145_94 (v := -1) rfl) <|
  (mx_cne t145 d145_95 (tgt := 100) (by decide))
theorem b145_78 {d : Nat} {S : mm_S} {a0 : Nat} {x1 : Int32} {x2 : Int32} (h0 : mm_rk S a0 = 12) : mm_ex (d + 1) 145 78 [.ref a0, .int x1, .int x2, .null] [] S =
    mm_bd (mm_cl d 139 [.ref a0] S) (fun v S2 => mm_ex (d + 1) 145 82 [.ref a0, .int x1, .int x2, .null] (v.toList ++ []) S2) :=
  Eq.trans (mx_aload_n t145 d145_78 (x := a0) rfl) <|
  (mx_virt (st := []) (k := 12) t145 [] d145_79 vt12_190 rfl rfl (Nat.le_of_ble_eq_true rfl) (Nat.le_of_ble_eq_true rfl) h0)
theorem b145_82 {d : Nat} {S : mm_S} {a0 : Nat} {x1 : Int32} {x2 : Int32} {p0 : Int32} : mm_ex d 145 82 [.ref a0, .int x1, .int x2, .null] [.int p0] S =
    if p0 = (nI 62) then mm_ex d 145 87 [.ref a0, .int x1, .int x2, .null] [] S else mm_ex d 145 91 [.ref a0, .int x1, .int x2, .null] [] S :=
  Eq.trans (mx_bipush t145 d145_82 (v := nI 62) rfl) <|
  (mx_cne t145 d145_84 (tgt := 91) (by decide))
theorem b145_87 {d : Nat} {S : mm_S} {a0 : Nat} {x1 : Int32} {x2 : Int32} : mm_ex d 145 87 [.ref a0, .int x1, .int x2, .null] [] S =
    if (nI 2) = (-1) then mm_ex d 145 98 [.ref a0, .int x1, .int (nI 2), .null] [] S else mm_ex d 145 100 [.ref a0, .int x1, .int (nI 2), .null] [] S :=
  Eq.trans (mx_iconst t145 d145_87 (v := nI 2) rfl) <|
  Eq.trans (mx_goto t145 d145_88 (tgt := 92) (by decide)) <|
  Eq.trans (mx_istore_n t145 d145_92 (ls' := [.ref a0, .int x1, .int (nI 2), .null]) rfl rfl) <|
  Eq.trans (mx_iload_n t145 d145_93 (x := nI 2) rfl) <|
  Eq.trans (mx_iconst t145 d145_94 (v := -1) rfl) <|
  (mx_cne t145 d145_95 (tgt := 100) (by decide))
theorem b145_91 {d : Nat} {S : mm_S} {a0 : Nat} {x1 : Int32} {x2 : Int32} : mm_ex d 145 91 [.ref a0, .int x1, .int x2, .null] [] S =
    if (-1) = (-1) then mm_ex d 145 98 [.ref a0, .int x1, .int (-1), .null] [] S else mm_ex d 145 100 [.ref a0, .int x1, .int (-1), .null] [] S :=
  Eq.trans (mx_iconst t145 d145_91 (v := -1) rfl) <|
  Eq.trans (mx_istore_n t145 d145_92 (ls' := [.ref a0, .int x1, .int (-1), .null]) rfl rfl) <|
  Eq.trans (mx_iload_n t145 d145_93 (x := -1) rfl) <|
  Eq.trans (mx_iconst t145 d145_94 (v := -1) rfl) <|
  (mx_cne t145 d145_95 (tgt := 100) (by decide))
theorem b145_98 {d : Nat} {S : mm_S} {a0 : Nat} {x1 : Int32} {x2 : Int32} : mm_ex d 145 98 [.ref a0, .int x1, .int x2, .null] [] S =
    some (some (.int (nI 0)), S) :=
  Eq.trans (mx_iconst t145 d145_98 (v := nI 0) rfl) <|
  (mx_iret t145 d145_99 (ty := .boolean) rfl rfl (fun h => nomatch h))
theorem b145_100 {d : Nat} {S : mm_S} {a0 : Nat} {x1 : Int32} {x2 : Int32} (h0 : mm_obj S a0 12 = true) (h1 : mm_rk S a0 = 12) : mm_ex (d + 1) 145 100 [.ref a0, .int x1, .int x2, .null] [] S =
    mm_bd (mm_cl d 142 [.ref a0] (mm_uM S a0 36 ((mm_M S a0 36) + (nI 1)))) (fun v S2 => mm_ex (d + 1) 145 114 [.ref a0, .int x1, .int x2, .null] (v.toList ++ []) S2) :=
  Eq.trans (mx_aload_n t145 d145_100 (x := a0) rfl) <|
  Eq.trans (mx_dupr t145 d145_101) <|
  Eq.trans (mx_geti t145 d145_102 rfl fl12_187 h0) <|
  Eq.trans (mx_iconst t145 d145_105 (v := nI 1) rfl) <|
  Eq.trans (mx_iadd t145 d145_106) <|
  Eq.trans (mx_puti2 t145 d145_107 fl12_187 rfl h0) <|
  Eq.trans (mx_aload_n t145 d145_110 (x := a0) rfl) <|
  (mx_virt (st := []) (k := 12) t145 [] d145_111 vt12_203 rfl rfl (Nat.le_of_ble_eq_true rfl) (Nat.le_of_ble_eq_true rfl) h1)
theorem b145_114 {d : Nat} {S : mm_S} {a0 : Nat} {x1 : Int32} {x2 : Int32} {p0 : Int32} : mm_ex d 145 114 [.ref a0, .int x1, .int x2, .null] [.int p0] S =
    if p0 = (-1) then mm_ex d 145 120 [.ref a0, .int x1, .int x2, .int p0] [] S else mm_ex d 145 122 [.ref a0, .int x1, .int x2, .int p0] [] S :=
  Eq.trans (mx_istore_n t145 d145_114 (ls' := [.ref a0, .int x1, .int x2, .int p0]) rfl rfl) <|
  Eq.trans (mx_iload_n t145 d145_115 (x := p0) rfl) <|
  Eq.trans (mx_iconst t145 d145_116 (v := -1) rfl) <|
  (mx_cne t145 d145_117 (tgt := 122) (by decide))
theorem b145_120 {d : Nat} {S : mm_S} {a0 : Nat} {x1 : Int32} {x2 : Int32} {x3 : Int32} : mm_ex d 145 120 [.ref a0, .int x1, .int x2, .int x3] [] S =
    some (some (.int (nI 0)), S) :=
  Eq.trans (mx_iconst t145 d145_120 (v := nI 0) rfl) <|
  (mx_iret t145 d145_121 (ty := .boolean) rfl rfl (fun h => nomatch h))
theorem b145_122 {d : Nat} {S : mm_S} {a0 : Nat} {x1 : Int32} {x2 : Int32} {x3 : Int32} (h0 : mm_rk S a0 = 12) : mm_ex (d + 1) 145 122 [.ref a0, .int x1, .int x2, .int x3] [] S =
    mm_bd (mm_cl d 144 [.ref a0, .int (((nI 1000) * (((nI 1) + ((nI 3) * x1)) + x2)) + x3)] S) (fun v S2 => mm_ex (d + 1) 145 139 [.ref a0, .int x1, .int x2, .int x3] (v.toList ++ []) S2) :=
  Eq.trans (mx_aload_n t145 d145_122 (x := a0) rfl) <|
  Eq.trans (mx_sipush t145 d145_123 (v := nI 1000) rfl) <|
  Eq.trans (mx_iconst t145 d145_126 (v := nI 1) rfl) <|
  Eq.trans (mx_iconst t145 d145_127 (v := nI 3) rfl) <|
  Eq.trans (mx_iload_n t145 d145_128 (x := x1) rfl) <|
  Eq.trans (mx_imul t145 d145_129) <|
  Eq.trans (mx_iadd t145 d145_130) <|
  Eq.trans (mx_iload_n t145 d145_131 (x := x2) rfl) <|
  Eq.trans (mx_iadd t145 d145_132) <|
  Eq.trans (mx_imul t145 d145_133) <|
  Eq.trans (mx_iload_n t145 d145_134 (x := x3) rfl) <|
  Eq.trans (mx_iadd t145 d145_135) <|
  (mx_virt (st := []) (k := 12) t145 [.int (((nI 1000) * (((nI 1) + ((nI 3) * x1)) + x2)) + x3)] d145_136 vt12_206 rfl rfl (Nat.le_of_ble_eq_true rfl) (Nat.le_of_ble_eq_true rfl) h0)
theorem b145_139 {d : Nat} {S : mm_S} {a0 : Nat} {x1 : Int32} {x2 : Int32} {x3 : Int32} : mm_ex d 145 139 [.ref a0, .int x1, .int x2, .int x3] [] S =
    some (some (.int (nI 1)), S) :=
  Eq.trans (mx_iconst t145 d145_139 (v := nI 1) rfl) <|
  (mx_iret t145 d145_140 (ty := .boolean) rfl rfl (fun h => nomatch h))
theorem e145 {d : Nat} {S : mm_S} {a0 : Nat} : mm_cl d 145 [.ref a0] S = mm_ex d 145 0 [.ref a0, .null, .null, .null] [] S := mm_cl_eq t145 (Nat.le_of_ble_eq_true rfl) rfl
/-! X12_noMoreNots -/
theorem dd146_0 : (decode prog_14_method_21_code 0 = .ok (.aload_n 0, 1)) ∧ (decode prog_14_method_21_code 1 = .ok (.getfield 209, 3)) ∧ (decode prog_14_method_21_code 4 = .ok (.ifCond .le 46, 3)) ∧ (decode prog_14_method_21_code 7 = .ok (.aload_n 0, 1)) ∧ (decode prog_14_method_21_code 8 = .ok (.getfield 95, 3)) ∧ (decode prog_14_method_21_code 11 = .ok (.aload_n 0, 1)) ∧ (decode prog_14_method_21_code 12 = .ok (.getfield 209, 3)) ∧ (decode prog_14_method_21_code 15 = .ok (.iconst 1, 1)) ∧ (decode prog_14_method_21_code 16 = .ok (.isub, 1)) ∧ (decode prog_14_method_21_code 17 = .ok (.iaload, 1)) ∧ (decode prog_14_method_21_code 18 = .ok (.iconst 3, 1)) ∧ (decode prog_14_method_21_code 19 = .ok (.if_icmp .ne 31, 3)) ∧ (decode prog_14_method_21_code 22 = .ok (.aload_n 0, 1)) ∧ (decode prog_14_method_21_code 23 = .ok (.iconst 3, 1)) ∧ (decode prog_14_method_21_code 24 = .ok (.invokevirtual 206, 3)) ∧ (decode prog_14_method_21_code 27 = .ok (.aload_n 0, 1)) := by decide +kernel
theorem d146_0 : decode prog_14_method_21_code 0 = .ok (.aload_n 0, 1) := dd146_0.1
theorem d146_1 : decode prog_14_method_21_code 1 = .ok (.getfield 209, 3) := dd146_0.2.1
theorem d146_4 : decode prog_14_method_21_code 4 = .ok (.ifCond .le 46, 3) := dd146_0.2.2.1
theorem d146_7 : decode prog_14_method_21_code 7 = .ok (.aload_n 0, 1) := dd146_0.2.2.2.1
theorem d146_8 : decode prog_14_method_21_code 8 = .ok (.getfield 95, 3) := dd146_0.2.2.2.2.1
theorem d146_11 : decode prog_14_method_21_code 11 = .ok (.aload_n 0, 1) := dd146_0.2.2.2.2.2.1
theorem d146_12 : decode prog_14_method_21_code 12 = .ok (.getfield 209, 3) := dd146_0.2.2.2.2.2.2.1
theorem d146_15 : decode prog_14_method_21_code 15 = .ok (.iconst 1, 1) := dd146_0.2.2.2.2.2.2.2.1
theorem d146_16 : decode prog_14_method_21_code 16 = .ok (.isub, 1) := dd146_0.2.2.2.2.2.2.2.2.1
theorem d146_17 : decode prog_14_method_21_code 17 = .ok (.iaload, 1) := dd146_0.2.2.2.2.2.2.2.2.2.1
theorem d146_18 : decode prog_14_method_21_code 18 = .ok (.iconst 3, 1) := dd146_0.2.2.2.2.2.2.2.2.2.2.1
theorem d146_19 : decode prog_14_method_21_code 19 = .ok (.if_icmp .ne 31, 3) := dd146_0.2.2.2.2.2.2.2.2.2.2.2.1
theorem d146_22 : decode prog_14_method_21_code 22 = .ok (.aload_n 0, 1) := dd146_0.2.2.2.2.2.2.2.2.2.2.2.2.1
theorem d146_23 : decode prog_14_method_21_code 23 = .ok (.iconst 3, 1) := dd146_0.2.2.2.2.2.2.2.2.2.2.2.2.2.1
theorem d146_24 : decode prog_14_method_21_code 24 = .ok (.invokevirtual 206, 3) := dd146_0.2.2.2.2.2.2.2.2.2.2.2.2.2.2.1
theorem d146_27 : decode prog_14_method_21_code 27 = .ok (.aload_n 0, 1) := dd146_0.2.2.2.2.2.2.2.2.2.2.2.2.2.2.2
theorem dd146_28 : (decode prog_14_method_21_code 28 = .ok (.dup, 1)) ∧ (decode prog_14_method_21_code 29 = .ok (.getfield 209, 3)) ∧ (decode prog_14_method_21_code 32 = .ok (.iconst 1, 1)) ∧ (decode prog_14_method_21_code 33 = .ok (.isub, 1)) ∧ (decode prog_14_method_21_code 34 = .ok (.putfield 209, 3)) ∧ (decode prog_14_method_21_code 37 = .ok (.aload_n 0, 1)) ∧ (decode prog_14_method_21_code 38 = .ok (.dup, 1)) ∧ (decode prog_14_method_21_code 39 = .ok (.getfield 212, 3)) ∧ (decode prog_14_method_21_code 42 = .ok (.iconst 1, 1)) ∧ (decode prog_14_method_21_code 43 = .ok (.isub, 1)) ∧ (decode prog_14_method_21_code 44 = .ok (.putfield 212, 3)) ∧ (decode prog_14_method_21_code 47 = .ok (.goto (-47), 3)) ∧ (decode prog_14_method_21_code 50 = .ok (.return_, 1)) := by decide +kernel
theorem d146_28 : decode prog_14_method_21_code 28 = .ok (.dup, 1) := dd146_28.1
theorem d146_29 : decode prog_14_method_21_code 29 = .ok (.getfield 209, 3) := dd146_28.2.1
theorem d146_32 : decode prog_14_method_21_code 32 = .ok (.iconst 1, 1) := dd146_28.2.2.1
theorem d146_33 : decode prog_14_method_21_code 33 = .ok (.isub, 1) := dd146_28.2.2.2.1
theorem d146_34 : decode prog_14_method_21_code 34 = .ok (.putfield 209, 3) := dd146_28.2.2.2.2.1
theorem d146_37 : decode prog_14_method_21_code 37 = .ok (.aload_n 0, 1) := dd146_28.2.2.2.2.2.1
theorem d146_38 : decode prog_14_method_21_code 38 = .ok (.dup, 1) := dd146_28.2.2.2.2.2.2.1
theorem d146_39 : decode prog_14_method_21_code 39 = .ok (.getfield 212, 3) := dd146_28.2.2.2.2.2.2.2.1
theorem d146_42 : decode prog_14_method_21_code 42 = .ok (.iconst 1, 1) := dd146_28.2.2.2.2.2.2.2.2.1
theorem d146_43 : decode prog_14_method_21_code 43 = .ok (.isub, 1) := dd146_28.2.2.2.2.2.2.2.2.2.1
theorem d146_44 : decode prog_14_method_21_code 44 = .ok (.putfield 212, 3) := dd146_28.2.2.2.2.2.2.2.2.2.2.1
theorem d146_47 : decode prog_14_method_21_code 47 = .ok (.goto (-47), 3) := dd146_28.2.2.2.2.2.2.2.2.2.2.2.1
theorem d146_50 : decode prog_14_method_21_code 50 = .ok (.return_, 1) := dd146_28.2.2.2.2.2.2.2.2.2.2.2.2
theorem b146_0 {d : Nat} {S : mm_S} {a0 : Nat} (h0 : mm_obj S a0 12 = true) : mm_ex d 146 0 [.ref a0] [] S =
    if (mm_M S a0 39) ≤ nI 0 then mm_ex d 146 50 [.ref a0] [] S else mm_ex d 146 7 [.ref a0] [] S :=
  Eq.trans (mx_aload_n t146 d146_0 (x := a0) rfl) <|
  Eq.trans (mx_geti t146 d146_1 rfl fl12_209 h0) <|
  (mx_ile t146 d146_4 (tgt := 50) (by decide))
theorem b146_7 {d : Nat} {S : mm_S} {a0 : Nat} (h0 : mm_obj S a0 12 = true) (h1 : (mm_R S a0 38).isSome = true) (h2 : mm_inb ((mm_M S a0 39) - (nI 1)) (mm_N S (mm_rg S a0 38)) = true) (h3 : mm_arr S (mm_rg S a0 38) 13 = true) : mm_ex d 146 7 [.ref a0] [] S =
    if (mm_M S (mm_rg S a0 38) ((mm_M S a0 39) - (nI 1)).toNatClampNeg) = (nI 3) then mm_ex d 146 22 [.ref a0] [] S else mm_ex d 146 50 [.ref a0] [] S :=
  Eq.trans (mx_aload_n t146 d146_7 (x := a0) rfl) <|
  Eq.trans (mx_getR t146 d146_8 rfl fl12_95 h0 h1) <|
  Eq.trans (mx_aload_n t146 d146_11 (x := a0) rfl) <|
  Eq.trans (mx_geti t146 d146_12 rfl fl12_209 h0) <|
  Eq.trans (mx_iconst t146 d146_15 (v := nI 1) rfl) <|
  Eq.trans (mx_isub t146 d146_16) <|
  Eq.trans (mx_iald t146 d146_17 h3 h2) <|
  Eq.trans (mx_iconst t146 d146_18 (v := nI 3) rfl) <|
  (mx_cne t146 d146_19 (tgt := 50) (by decide))
theorem b146_22 {d : Nat} {S : mm_S} {a0 : Nat} (h0 : mm_rk S a0 = 12) : mm_ex (d + 1) 146 22 [.ref a0] [] S =
    mm_bd (mm_cl d 144 [.ref a0, .int (nI 3)] S) (fun v S2 => mm_ex (d + 1) 146 27 [.ref a0] (v.toList ++ []) S2) :=
  Eq.trans (mx_aload_n t146 d146_22 (x := a0) rfl) <|
  Eq.trans (mx_iconst t146 d146_23 (v := nI 3) rfl) <|
  (mx_virt (st := []) (k := 12) t146 [.int (nI 3)] d146_24 vt12_206 rfl rfl (Nat.le_of_ble_eq_true rfl) (Nat.le_of_ble_eq_true rfl) h0)
theorem b146_27 {d : Nat} {S : mm_S} {a0 : Nat} (h0 : mm_obj S a0 12 = true) : mm_ex d 146 27 [.ref a0] [] S =
    mm_ex d 146 39 [.ref a0] [.ref a0, .ref a0] (mm_uM S a0 39 ((mm_M S a0 39) - (nI 1))) :=
  Eq.trans (mx_aload_n t146 d146_27 (x := a0) rfl) <|
  Eq.trans (mx_dupr t146 d146_28) <|
  Eq.trans (mx_geti t146 d146_29 rfl fl12_209 h0) <|
  Eq.trans (mx_iconst t146 d146_32 (v := nI 1) rfl) <|
  Eq.trans (mx_isub t146 d146_33) <|
  Eq.trans (mx_puti2 t146 d146_34 fl12_209 rfl h0) <|
  Eq.trans (mx_aload_n t146 d146_37 (x := a0) rfl) <|
  (mx_dupr t146 d146_38)
theorem b146_39 {d : Nat} {S : mm_S} {a0 : Nat} {p0 : Nat} {p1 : Nat} (h0 : mm_obj S p0 12 = true) (h1 : mm_obj S p1 12 = true) : mm_ex d 146 39 [.ref a0] [.ref p0, .ref p1] S =
    mm_ex d 146 0 [.ref a0] [] (mm_uM S p1 40 ((mm_M S p0 40) - (nI 1))) :=
  Eq.trans (mx_geti t146 d146_39 rfl fl12_212 h0) <|
  Eq.trans (mx_iconst t146 d146_42 (v := nI 1) rfl) <|
  Eq.trans (mx_isub t146 d146_43) <|
  Eq.trans (mx_puti2 t146 d146_44 fl12_212 rfl h1) <|
  (mx_goto t146 d146_47 (tgt := 0) (by decide))
theorem b146_50 {d : Nat} {S : mm_S} {a0 : Nat} : mm_ex d 146 50 [.ref a0] [] S =
    some (none, S) :=
  (mx_vret t146 d146_50 rfl)
theorem e146 {d : Nat} {S : mm_S} {a0 : Nat} : mm_cl d 146 [.ref a0] S = mm_ex d 146 0 [.ref a0] [] S := mm_cl_eq t146 (Nat.le_of_ble_eq_true rfl) rfl
/-! X12_unwinds -/
theorem dd147_0 : (decode prog_14_method_22_code 0 = .ok (.aload_n 0, 1)) ∧ (decode prog_14_method_22_code 1 = .ok (.getfield 209, 3)) ∧ (decode prog_14_method_22_code 4 = .ok (.ifCond .le 60, 3)) ∧ (decode prog_14_method_22_code 7 = .ok (.aload_n 0, 1)) ∧ (decode prog_14_method_22_code 8 = .ok (.getfield 95, 3)) ∧ (decode prog_14_method_22_code 11 = .ok (.aload_n 0, 1)) ∧ (decode prog_14_method_22_code 12 = .ok (.getfield 209, 3)) ∧ (decode prog_14_method_22_code 15 = .ok (.iconst 1, 1)) ∧ (decode prog_14_method_22_code 16 = .ok (.isub, 1)) ∧ (decode prog_14_method_22_code 17 = .ok (.iaload, 1)) ∧ (decode prog_14_method_22_code 18 = .ok (.ifCond .eq 46, 3)) ∧ (decode prog_14_method_22_code 21 = .ok (.aload_n 0, 1)) ∧ (decode prog_14_method_22_code 22 = .ok (.getfield 95, 3)) ∧ (decode prog_14_method_22_code 25 = .ok (.aload_n 0, 1)) ∧ (decode prog_14_method_22_code 26 = .ok (.getfield 209, 3)) ∧ (decode prog_14_method_22_code 29 = .ok (.iconst 1, 1)) := by decide +kernel
theorem d147_0 : decode prog_14_method_22_code 0 = .ok (.aload_n 0, 1) := dd147_0.1
theorem d147_1 : decode prog_14_method_22_code 1 = .ok (.getfield 209, 3) := dd147_0.2.1
theorem d147_4 : decode prog_14_method_22_code 4 = .ok (.ifCond .le 60, 3) := dd147_0.2.2.1
theorem d147_7 : decode prog_14_method_22_code 7 = .ok (.aload_n 0, 1) := dd147_0.2.2.2.1
theorem d147_8 : decode prog_14_method_22_code 8 = .ok (.getfield 95, 3) := dd147_0.2.2.2.2.1
theorem d147_11 : decode prog_14_method_22_code 11 = .ok (.aload_n 0, 1) := dd147_0.2.2.2.2.2.1
theorem d147_12 : decode prog_14_method_22_code 12 = .ok (.getfield 209, 3) := dd147_0.2.2.2.2.2.2.1
theorem d147_15 : decode prog_14_method_22_code 15 = .ok (.iconst 1, 1) := dd147_0.2.2.2.2.2.2.2.1
theorem d147_16 : decode prog_14_method_22_code 16 = .ok (.isub, 1) := dd147_0.2.2.2.2.2.2.2.2.1
theorem d147_17 : decode prog_14_method_22_code 17 = .ok (.iaload, 1) := dd147_0.2.2.2.2.2.2.2.2.2.1
theorem d147_18 : decode prog_14_method_22_code 18 = .ok (.ifCond .eq 46, 3) := dd147_0.2.2.2.2.2.2.2.2.2.2.1
theorem d147_21 : decode prog_14_method_22_code 21 = .ok (.aload_n 0, 1) := dd147_0.2.2.2.2.2.2.2.2.2.2.2.1
theorem d147_22 : decode prog_14_method_22_code 22 = .ok (.getfield 95, 3) := dd147_0.2.2.2.2.2.2.2.2.2.2.2.2.1
theorem d147_25 : decode prog_14_method_22_code 25 = .ok (.aload_n 0, 1) := dd147_0.2.2.2.2.2.2.2.2.2.2.2.2.2.1
theorem d147_26 : decode prog_14_method_22_code 26 = .ok (.getfield 209, 3) := dd147_0.2.2.2.2.2.2.2.2.2.2.2.2.2.2.1
theorem d147_29 : decode prog_14_method_22_code 29 = .ok (.iconst 1, 1) := dd147_0.2.2.2.2.2.2.2.2.2.2.2.2.2.2.2
theorem dd147_30 : (decode prog_14_method_22_code 30 = .ok (.isub, 1)) ∧ (decode prog_14_method_22_code 31 = .ok (.iaload, 1)) ∧ (decode prog_14_method_22_code 32 = .ok (.iload_n 1, 1)) ∧ (decode prog_14_method_22_code 33 = .ok (.if_icmp .lt 31, 3)) ∧ (decode prog_14_method_22_code 36 = .ok (.aload_n 0, 1)) ∧ (decode prog_14_method_22_code 37 = .ok (.aload_n 0, 1)) ∧ (decode prog_14_method_22_code 38 = .ok (.getfield 95, 3)) ∧ (decode prog_14_method_22_code 41 = .ok (.aload_n 0, 1)) ∧ (decode prog_14_method_22_code 42 = .ok (.getfield 209, 3)) ∧ (decode prog_14_method_22_code 45 = .ok (.iconst 1, 1)) ∧ (decode prog_14_method_22_code 46 = .ok (.isub, 1)) ∧ (decode prog_14_method_22_code 47 = .ok (.iaload, 1)) ∧ (decode prog_14_method_22_code 48 = .ok (.invokevirtual 206, 3)) ∧ (decode prog_14_method_22_code 51 = .ok (.aload_n 0, 1)) ∧ (decode prog_14_method_22_code 52 = .ok (.dup, 1)) ∧ (decode prog_14_method_22_code 53 = .ok (.getfield 209, 3)) := by decide +kernel
theorem d147_30 : decode prog_14_method_22_code 30 = .ok (.isub, 1) := dd147_30.1
theorem d147_31 : decode prog_14_method_22_code 31 = .ok (.iaload, 1) := dd147_30.2.1
theorem d147_32 : decode prog_14_method_22_code 32 = .ok (.iload_n 1, 1) := dd147_30.2.2.1
theorem d147_33 : decode prog_14_method_22_code 33 = .ok (.if_icmp .lt 31, 3) := dd147_30.2.2.2.1
theorem d147_36 : decode prog_14_method_22_code 36 = .ok (.aload_n 0, 1) := dd147_30.2.2.2.2.1
theorem d147_37 : decode prog_14_method_22_code 37 = .ok (.aload_n 0, 1) := dd147_30.2.2.2.2.2.1
theorem d147_38 : decode prog_14_method_22_code 38 = .ok (.getfield 95, 3) := dd147_30.2.2.2.2.2.2.1
theorem d147_41 : decode prog_14_method_22_code 41 = .ok (.aload_n 0, 1) := dd147_30.2.2.2.2.2.2.2.1
theorem d147_42 : decode prog_14_method_22_code 42 = .ok (.getfield 209, 3) := dd147_30.2.2.2.2.2.2.2.2.1
theorem d147_45 : decode prog_14_method_22_code 45 = .ok (.iconst 1, 1) := dd147_30.2.2.2.2.2.2.2.2.2.1
theorem d147_46 : decode prog_14_method_22_code 46 = .ok (.isub, 1) := dd147_30.2.2.2.2.2.2.2.2.2.2.1
theorem d147_47 : decode prog_14_method_22_code 47 = .ok (.iaload, 1) := dd147_30.2.2.2.2.2.2.2.2.2.2.2.1
theorem d147_48 : decode prog_14_method_22_code 48 = .ok (.invokevirtual 206, 3) := dd147_30.2.2.2.2.2.2.2.2.2.2.2.2.1
theorem d147_51 : decode prog_14_method_22_code 51 = .ok (.aload_n 0, 1) := dd147_30.2.2.2.2.2.2.2.2.2.2.2.2.2.1
theorem d147_52 : decode prog_14_method_22_code 52 = .ok (.dup, 1) := dd147_30.2.2.2.2.2.2.2.2.2.2.2.2.2.2.1
theorem d147_53 : decode prog_14_method_22_code 53 = .ok (.getfield 209, 3) := dd147_30.2.2.2.2.2.2.2.2.2.2.2.2.2.2.2
theorem dd147_56 : (decode prog_14_method_22_code 56 = .ok (.iconst 1, 1)) ∧ (decode prog_14_method_22_code 57 = .ok (.isub, 1)) ∧ (decode prog_14_method_22_code 58 = .ok (.putfield 209, 3)) ∧ (decode prog_14_method_22_code 61 = .ok (.goto (-61), 3)) ∧ (decode prog_14_method_22_code 64 = .ok (.return_, 1)) := by decide +kernel
theorem d147_56 : decode prog_14_method_22_code 56 = .ok (.iconst 1, 1) := dd147_56.1
theorem d147_57 : decode prog_14_method_22_code 57 = .ok (.isub, 1) := dd147_56.2.1
theorem d147_58 : decode prog_14_method_22_code 58 = .ok (.putfield 209, 3) := dd147_56.2.2.1
theorem d147_61 : decode prog_14_method_22_code 61 = .ok (.goto (-61), 3) := dd147_56.2.2.2.1
theorem d147_64 : decode prog_14_method_22_code 64 = .ok (.return_, 1) := dd147_56.2.2.2.2
theorem b147_0 {d : Nat} {S : mm_S} {a0 : Nat} {x1 : Int32} (h0 : mm_obj S a0 12 = true) : mm_ex d 147 0 [.ref a0, .int x1] [] S =
    if (mm_M S a0 39) ≤ nI 0 then mm_ex d 147 64 [.ref a0, .int x1] [] S else mm_ex d 147 7 [.ref a0, .int x1] [] S :=
  Eq.trans (mx_aload_n t147 d147_0 (x := a0) rfl) <|
  Eq.trans (mx_geti t147 d147_1 rfl fl12_209 h0) <|
  (mx_ile t147 d147_4 (tgt := 64) (by decide))
theorem b147_7 {d : Nat} {S : mm_S} {a0 : Nat} {x1 : Int32} (h0 : mm_obj S a0 12 = true) (h1 : (mm_R S a0 38).isSome = true) (h2 : mm_inb ((mm_M S a0 39) - (nI 1)) (mm_N S (mm_rg S a0 38)) = true) (h3 : mm_arr S (mm_rg S a0 38) 13 = true) : mm_ex d 147 7 [.ref a0, .int x1] [] S =
    if (mm_M S (mm_rg S a0 38) ((mm_M S a0 39) - (nI 1)).toNatClampNeg) = nI 0 then mm_ex d 147 64 [.ref a0, .int x1] [] S else mm_ex d 147 21 [.ref a0, .int x1] [] S :=
  Eq.trans (mx_aload_n t147 d147_7 (x := a0) rfl) <|
  Eq.trans (mx_getR t147 d147_8 rfl fl12_95 h0 h1) <|
  Eq.trans (mx_aload_n t147 d147_11 (x := a0) rfl) <|
  Eq.trans (mx_geti t147 d147_12 rfl fl12_209 h0) <|
  Eq.trans (mx_iconst t147 d147_15 (v := nI 1) rfl) <|
  Eq.trans (mx_isub t147 d147_16) <|
  Eq.trans (mx_iald t147 d147_17 h3 h2) <|
  (mx_ieq t147 d147_18 (tgt := 64) (by decide))
theorem b147_21 {d : Nat} {S : mm_S} {a0 : Nat} {x1 : Int32} (h0 : mm_obj S a0 12 = true) (h1 : (mm_R S a0 38).isSome = true) (h2 : mm_inb ((mm_M S a0 39) - (nI 1)) (mm_N S (mm_rg S a0 38)) = true) (h3 : mm_arr S (mm_rg S a0 38) 13 = true) : mm_ex d 147 21 [.ref a0, .int x1] [] S =
    if (mm_M S (mm_rg S a0 38) ((mm_M S a0 39) - (nI 1)).toNatClampNeg) < x1 then mm_ex d 147 64 [.ref a0, .int x1] [] S else mm_ex d 147 36 [.ref a0, .int x1] [] S :=
  Eq.trans (mx_aload_n t147 d147_21 (x := a0) rfl) <|
  Eq.trans (mx_getR t147 d147_22 rfl fl12_95 h0 h1) <|
  Eq.trans (mx_aload_n t147 d147_25 (x := a0) rfl) <|
  Eq.trans (mx_geti t147 d147_26 rfl fl12_209 h0) <|
  Eq.trans (mx_iconst t147 d147_29 (v := nI 1) rfl) <|
  Eq.trans (mx_isub t147 d147_30) <|
  Eq.trans (mx_iald t147 d147_31 h3 h2) <|
  Eq.trans (mx_iload_n t147 d147_32 (x := x1) rfl) <|
  (mx_clt t147 d147_33 (tgt := 64) (by decide))
theorem b147_36 {d : Nat} {S : mm_S} {a0 : Nat} {x1 : Int32} (h0 : mm_obj S a0 12 = true) (h1 : (mm_R S a0 38).isSome = true) (h2 : mm_inb ((mm_M S a0 39) - (nI 1)) (mm_N S (mm_rg S a0 38)) = true) (h3 : mm_arr S (mm_rg S a0 38) 13 = true) (h4 : mm_rk S a0 = 12) : mm_ex (d + 1) 147 36 [.ref a0, .int x1] [] S =
    mm_bd (mm_cl d 144 [.ref a0, .int (mm_M S (mm_rg S a0 38) ((mm_M S a0 39) - (nI 1)).toNatClampNeg)] S) (fun v S2 => mm_ex (d + 1) 147 51 [.ref a0, .int x1] (v.toList ++ []) S2) :=
  Eq.trans (mx_aload_n t147 d147_36 (x := a0) rfl) <|
  Eq.trans (mx_aload_n t147 d147_37 (x := a0) rfl) <|
  Eq.trans (mx_getR t147 d147_38 rfl fl12_95 h0 h1) <|
  Eq.trans (mx_aload_n t147 d147_41 (x := a0) rfl) <|
  Eq.trans (mx_geti t147 d147_42 rfl fl12_209 h0) <|
  Eq.trans (mx_iconst t147 d147_45 (v := nI 1) rfl) <|
  Eq.trans (mx_isub t147 d147_46) <|
  Eq.trans (mx_iald t147 d147_47 h3 h2) <|
  (mx_virt (st := []) (k := 12) t147 [.int (mm_M S (mm_rg S a0 38) ((mm_M S a0 39) - (nI 1)).toNatClampNeg)] d147_48 vt12_206 rfl rfl (Nat.le_of_ble_eq_true rfl) (Nat.le_of_ble_eq_true rfl) h4)
theorem b147_51 {d : Nat} {S : mm_S} {a0 : Nat} {x1 : Int32} (h0 : mm_obj S a0 12 = true) : mm_ex d 147 51 [.ref a0, .int x1] [] S =
    mm_ex d 147 0 [.ref a0, .int x1] [] (mm_uM S a0 39 ((mm_M S a0 39) - (nI 1))) :=
  Eq.trans (mx_aload_n t147 d147_51 (x := a0) rfl) <|
  Eq.trans (mx_dupr t147 d147_52) <|
  Eq.trans (mx_geti t147 d147_53 rfl fl12_209 h0) <|
  Eq.trans (mx_iconst t147 d147_56 (v := nI 1) rfl) <|
  Eq.trans (mx_isub t147 d147_57) <|
  Eq.trans (mx_puti2 t147 d147_58 fl12_209 rfl h0) <|
  (mx_goto t147 d147_61 (tgt := 0) (by decide))
theorem b147_64 {d : Nat} {S : mm_S} {a0 : Nat} {x1 : Int32} : mm_ex d 147 64 [.ref a0, .int x1] [] S =
    some (none, S) :=
  (mx_vret t147 d147_64 rfl)
theorem e147 {d : Nat} {S : mm_S} {a0 : Nat} {x1 : Int32} : mm_cl d 147 [.ref a0, .int x1] S = mm_ex d 147 0 [.ref a0, .int x1] [] S := mm_cl_eq t147 (Nat.le_of_ble_eq_true rfl) rfl
/-! X12_opens -/
theorem dd148_0 : (decode prog_14_method_23_code 0 = .ok (.aload_n 0, 1)) ∧ (decode prog_14_method_23_code 1 = .ok (.getfield 212, 3)) ∧ (decode prog_14_method_23_code 4 = .ok (.iconst 4, 1)) ∧ (decode prog_14_method_23_code 5 = .ok (.if_icmp .ne 5, 3)) ∧ (decode prog_14_method_23_code 8 = .ok (.iconst 0, 1)) ∧ (decode prog_14_method_23_code 9 = .ok (.ireturn, 1)) ∧ (decode prog_14_method_23_code 10 = .ok (.aload_n 0, 1)) ∧ (decode prog_14_method_23_code 11 = .ok (.dup, 1)) ∧ (decode prog_14_method_23_code 12 = .ok (.getfield 212, 3)) ∧ (decode prog_14_method_23_code 15 = .ok (.iconst 1, 1)) ∧ (decode prog_14_method_23_code 16 = .ok (.iadd, 1)) ∧ (decode prog_14_method_23_code 17 = .ok (.putfield 212, 3)) ∧ (decode prog_14_method_23_code 20 = .ok (.aload_n 0, 1)) ∧ (decode prog_14_method_23_code 21 = .ok (.getfield 95, 3)) ∧ (decode prog_14_method_23_code 24 = .ok (.aload_n 0, 1)) ∧ (decode prog_14_method_23_code 25 = .ok (.getfield 209, 3)) := by decide +kernel
theorem d148_0 : decode prog_14_method_23_code 0 = .ok (.aload_n 0, 1) := dd148_0.1
theorem d148_1 : decode prog_14_method_23_code 1 = .ok (.getfield 212, 3) := dd148_0.2.1
theorem d148_4 : decode prog_14_method_23_code 4 = .ok (.iconst 4, 1) := dd148_0.2.2.1
theorem d148_5 : decode prog_14_method_23_code 5 = .ok (.if_icmp .ne 5, 3) := dd148_0.2.2.2.1
theorem d148_8 : decode prog_14_method_23_code 8 = .ok (.iconst 0, 1) := dd148_0.2.2.2.2.1
theorem d148_9 : decode prog_14_method_23_code 9 = .ok (.ireturn, 1) := dd148_0.2.2.2.2.2.1
theorem d148_10 : decode prog_14_method_23_code 10 = .ok (.aload_n 0, 1) := dd148_0.2.2.2.2.2.2.1
theorem d148_11 : decode prog_14_method_23_code 11 = .ok (.dup, 1) := dd148_0.2.2.2.2.2.2.2.1
theorem d148_12 : decode prog_14_method_23_code 12 = .ok (.getfield 212, 3) := dd148_0.2.2.2.2.2.2.2.2.1
theorem d148_15 : decode prog_14_method_23_code 15 = .ok (.iconst 1, 1) := dd148_0.2.2.2.2.2.2.2.2.2.1
theorem d148_16 : decode prog_14_method_23_code 16 = .ok (.iadd, 1) := dd148_0.2.2.2.2.2.2.2.2.2.2.1
theorem d148_17 : decode prog_14_method_23_code 17 = .ok (.putfield 212, 3) := dd148_0.2.2.2.2.2.2.2.2.2.2.2.1
theorem d148_20 : decode prog_14_method_23_code 20 = .ok (.aload_n 0, 1) := dd148_0.2.2.2.2.2.2.2.2.2.2.2.2.1
theorem d148_21 : decode prog_14_method_23_code 21 = .ok (.getfield 95, 3) := dd148_0.2.2.2.2.2.2.2.2.2.2.2.2.2.1
theorem d148_24 : decode prog_14_method_23_code 24 = .ok (.aload_n 0, 1) := dd148_0.2.2.2.2.2.2.2.2.2.2.2.2.2.2.1
theorem d148_25 : decode prog_14_method_23_code 25 = .ok (.getfield 209, 3) := dd148_0.2.2.2.2.2.2.2.2.2.2.2.2.2.2.2
theorem dd148_28 : (decode prog_14_method_23_code 28 = .ok (.iload_n 1, 1)) ∧ (decode prog_14_method_23_code 29 = .ok (.iastore, 1)) ∧ (decode prog_14_method_23_code 30 = .ok (.aload_n 0, 1)) ∧ (decode prog_14_method_23_code 31 = .ok (.dup, 1)) ∧ (decode prog_14_method_23_code 32 = .ok (.getfield 209, 3)) ∧ (decode prog_14_method_23_code 35 = .ok (.iconst 1, 1)) ∧ (decode prog_14_method_23_code 36 = .ok (.iadd, 1)) ∧ (decode prog_14_method_23_code 37 = .ok (.putfield 209, 3)) ∧ (decode prog_14_method_23_code 40 = .ok (.aload_n 0, 1)) ∧ (decode prog_14_method_23_code 41 = .ok (.dup, 1)) ∧ (decode prog_14_method_23_code 42 = .ok (.getfield 187, 3)) ∧ (decode prog_14_method_23_code 45 = .ok (.iconst 1, 1)) ∧ (decode prog_14_method_23_code 46 = .ok (.iadd, 1)) ∧ (decode prog_14_method_23_code 47 = .ok (.putfield 187, 3)) ∧ (decode prog_14_method_23_code 50 = .ok (.iconst 1, 1)) ∧ (decode prog_14_method_23_code 51 = .ok (.ireturn, 1)) := by decide +kernel
theorem d148_28 : decode prog_14_method_23_code 28 = .ok (.iload_n 1, 1) := dd148_28.1
theorem d148_29 : decode prog_14_method_23_code 29 = .ok (.iastore, 1) := dd148_28.2.1
theorem d148_30 : decode prog_14_method_23_code 30 = .ok (.aload_n 0, 1) := dd148_28.2.2.1
theorem d148_31 : decode prog_14_method_23_code 31 = .ok (.dup, 1) := dd148_28.2.2.2.1
theorem d148_32 : decode prog_14_method_23_code 32 = .ok (.getfield 209, 3) := dd148_28.2.2.2.2.1
theorem d148_35 : decode prog_14_method_23_code 35 = .ok (.iconst 1, 1) := dd148_28.2.2.2.2.2.1
theorem d148_36 : decode prog_14_method_23_code 36 = .ok (.iadd, 1) := dd148_28.2.2.2.2.2.2.1
theorem d148_37 : decode prog_14_method_23_code 37 = .ok (.putfield 209, 3) := dd148_28.2.2.2.2.2.2.2.1
theorem d148_40 : decode prog_14_method_23_code 40 = .ok (.aload_n 0, 1) := dd148_28.2.2.2.2.2.2.2.2.1
theorem d148_41 : decode prog_14_method_23_code 41 = .ok (.dup, 1) := dd148_28.2.2.2.2.2.2.2.2.2.1
theorem d148_42 : decode prog_14_method_23_code 42 = .ok (.getfield 187, 3) := dd148_28.2.2.2.2.2.2.2.2.2.2.1
theorem d148_45 : decode prog_14_method_23_code 45 = .ok (.iconst 1, 1) := dd148_28.2.2.2.2.2.2.2.2.2.2.2.1
theorem d148_46 : decode prog_14_method_23_code 46 = .ok (.iadd, 1) := dd148_28.2.2.2.2.2.2.2.2.2.2.2.2.1
theorem d148_47 : decode prog_14_method_23_code 47 = .ok (.putfield 187, 3) := dd148_28.2.2.2.2.2.2.2.2.2.2.2.2.2.1
theorem d148_50 : decode prog_14_method_23_code 50 = .ok (.iconst 1, 1) := dd148_28.2.2.2.2.2.2.2.2.2.2.2.2.2.2.1
theorem d148_51 : decode prog_14_method_23_code 51 = .ok (.ireturn, 1) := dd148_28.2.2.2.2.2.2.2.2.2.2.2.2.2.2.2
theorem b148_0 {d : Nat} {S : mm_S} {a0 : Nat} {x1 : Int32} (h0 : mm_obj S a0 12 = true) : mm_ex d 148 0 [.ref a0, .int x1] [] S =
    if (mm_M S a0 40) = (nI 4) then mm_ex d 148 8 [.ref a0, .int x1] [] S else mm_ex d 148 10 [.ref a0, .int x1] [] S :=
  Eq.trans (mx_aload_n t148 d148_0 (x := a0) rfl) <|
  Eq.trans (mx_geti t148 d148_1 rfl fl12_212 h0) <|
  Eq.trans (mx_iconst t148 d148_4 (v := nI 4) rfl) <|
  (mx_cne t148 d148_5 (tgt := 10) (by decide))
theorem b148_8 {d : Nat} {S : mm_S} {a0 : Nat} {x1 : Int32} : mm_ex d 148 8 [.ref a0, .int x1] [] S =
    some (some (.int (nI 0)), S) :=
  Eq.trans (mx_iconst t148 d148_8 (v := nI 0) rfl) <|
  (mx_iret t148 d148_9 (ty := .boolean) rfl rfl (fun h => nomatch h))
theorem b148_10 {d : Nat} {S : mm_S} {a0 : Nat} {x1 : Int32} (h0 : mm_obj S a0 12 = true) (h1 : (mm_R S a0 38).isSome = true) : mm_ex d 148 10 [.ref a0, .int x1] [] S =
    mm_ex d 148 25 [.ref a0, .int x1] [.ref a0, .ref (mm_rg S a0 38)] (mm_uM S a0 40 ((mm_M S a0 40) + (nI 1))) :=
  Eq.trans (mx_aload_n t148 d148_10 (x := a0) rfl) <|
  Eq.trans (mx_dupr t148 d148_11) <|
  Eq.trans (mx_geti t148 d148_12 rfl fl12_212 h0) <|
  Eq.trans (mx_iconst t148 d148_15 (v := nI 1) rfl) <|
  Eq.trans (mx_iadd t148 d148_16) <|
  Eq.trans (mx_puti2 t148 d148_17 fl12_212 rfl h0) <|
  Eq.trans (mx_aload_n t148 d148_20 (x := a0) rfl) <|
  Eq.trans (mx_getR t148 d148_21 rfl fl12_95 h0 h1) <|
  (mx_aload_n t148 d148_24 (x := a0) rfl)
theorem b148_25 {d : Nat} {S : mm_S} {a0 : Nat} {x1 : Int32} {p0 : Nat} {p1 : Nat} (h0 : mm_obj S p0 12 = true) (h1 : mm_arr S p1 13 = true) (h2 : mm_inb (mm_M S p0 39) (mm_N S p1) = true) : mm_ex d 148 25 [.ref a0, .int x1] [.ref p0, .ref p1] S =
    mm_ex d 148 32 [.ref a0, .int x1] [.ref a0, .ref a0] (mm_uM S p1 (mm_M S p0 39).toNatClampNeg x1) :=
  Eq.trans (mx_geti t148 d148_25 rfl fl12_209 h0) <|
  Eq.trans (mx_iload_n t148 d148_28 (x := x1) rfl) <|
  Eq.trans (mx_iast2 t148 d148_29 h1 h2) <|
  Eq.trans (mx_aload_n t148 d148_30 (x := a0) rfl) <|
  (mx_dupr t148 d148_31)
theorem b148_32 {d : Nat} {S : mm_S} {a0 : Nat} {x1 : Int32} {p0 : Nat} {p1 : Nat} (h0 : mm_obj S p0 12 = true) (h1 : mm_obj S p1 12 = true) : mm_ex d 148 32 [.ref a0, .int x1] [.ref p0, .ref p1] S =
    mm_ex d 148 42 [.ref a0, .int x1] [.ref a0, .ref a0] (mm_uM S p1 39 ((mm_M S p0 39) + (nI 1))) :=
  Eq.trans (mx_geti t148 d148_32 rfl fl12_209 h0) <|
  Eq.trans (mx_iconst t148 d148_35 (v := nI 1) rfl) <|
  Eq.trans (mx_iadd t148 d148_36) <|
  Eq.trans (mx_puti2 t148 d148_37 fl12_209 rfl h1) <|
  Eq.trans (mx_aload_n t148 d148_40 (x := a0) rfl) <|
  (mx_dupr t148 d148_41)
theorem b148_42 {d : Nat} {S : mm_S} {a0 : Nat} {x1 : Int32} {p0 : Nat} {p1 : Nat} (h0 : mm_obj S p0 12 = true) (h1 : mm_obj S p1 12 = true) : mm_ex d 148 42 [.ref a0, .int x1] [.ref p0, .ref p1] S =
    some (some (.int (nI 1)), (mm_uM S p1 36 ((mm_M S p0 36) + (nI 1)))) :=
  Eq.trans (mx_geti t148 d148_42 rfl fl12_187 h0) <|
  Eq.trans (mx_iconst t148 d148_45 (v := nI 1) rfl) <|
  Eq.trans (mx_iadd t148 d148_46) <|
  Eq.trans (mx_puti2 t148 d148_47 fl12_187 rfl h1) <|
  Eq.trans (mx_iconst t148 d148_50 (v := nI 1) rfl) <|
  (mx_iret t148 d148_51 (ty := .boolean) rfl rfl (fun h => nomatch h))
theorem e148 {d : Nat} {S : mm_S} {a0 : Nat} {x1 : Int32} : mm_cl d 148 [.ref a0, .int x1] S = mm_ex d 148 0 [.ref a0, .int x1] [] S := mm_cl_eq t148 (Nat.le_of_ble_eq_true rfl) rfl
/-! X12_eRead -/
theorem dd149_0 : (decode prog_14_method_24_code 0 = .ok (.aload_n 0, 1)) ∧ (decode prog_14_method_24_code 1 = .ok (.iconst 0, 1)) ∧ (decode prog_14_method_24_code 2 = .ok (.putfield 209, 3)) ∧ (decode prog_14_method_24_code 5 = .ok (.aload_n 0, 1)) ∧ (decode prog_14_method_24_code 6 = .ok (.iconst 0, 1)) ∧ (decode prog_14_method_24_code 7 = .ok (.putfield 212, 3)) ∧ (decode prog_14_method_24_code 10 = .ok (.iconst 1, 1)) ∧ (decode prog_14_method_24_code 11 = .ok (.istore_n 1, 1)) ∧ (decode prog_14_method_24_code 12 = .ok (.aload_n 0, 1)) ∧ (decode prog_14_method_24_code 13 = .ok (.invokevirtual 190, 3)) ∧ (decode prog_14_method_24_code 16 = .ok (.istore_n 2, 1)) ∧ (decode prog_14_method_24_code 17 = .ok (.iload_n 1, 1)) ∧ (decode prog_14_method_24_code 18 = .ok (.ifCond .eq 53, 3)) ∧ (decode prog_14_method_24_code 21 = .ok (.iload_n 2, 1)) ∧ (decode prog_14_method_24_code 22 = .ok (.bipush 40, 2)) ∧ (decode prog_14_method_24_code 24 = .ok (.if_icmp .eq 9, 3)) := by decide +kernel
theorem d149_0 : decode prog_14_method_24_code 0 = .ok (.aload_n 0, 1) := dd149_0.1
theorem d149_1 : decode prog_14_method_24_code 1 = .ok (.iconst 0, 1) := dd149_0.2.1
theorem d149_2 : decode prog_14_method_24_code 2 = .ok (.putfield 209, 3) := dd149_0.2.2.1
theorem d149_5 : decode prog_14_method_24_code 5 = .ok (.aload_n 0, 1) := dd149_0.2.2.2.1
theorem d149_6 : decode prog_14_method_24_code 6 = .ok (.iconst 0, 1) := dd149_0.2.2.2.2.1
theorem d149_7 : decode prog_14_method_24_code 7 = .ok (.putfield 212, 3) := dd149_0.2.2.2.2.2.1
theorem d149_10 : decode prog_14_method_24_code 10 = .ok (.iconst 1, 1) := dd149_0.2.2.2.2.2.2.1
theorem d149_11 : decode prog_14_method_24_code 11 = .ok (.istore_n 1, 1) := dd149_0.2.2.2.2.2.2.2.1
theorem d149_12 : decode prog_14_method_24_code 12 = .ok (.aload_n 0, 1) := dd149_0.2.2.2.2.2.2.2.2.1
theorem d149_13 : decode prog_14_method_24_code 13 = .ok (.invokevirtual 190, 3) := dd149_0.2.2.2.2.2.2.2.2.2.1
theorem d149_16 : decode prog_14_method_24_code 16 = .ok (.istore_n 2, 1) := dd149_0.2.2.2.2.2.2.2.2.2.2.1
theorem d149_17 : decode prog_14_method_24_code 17 = .ok (.iload_n 1, 1) := dd149_0.2.2.2.2.2.2.2.2.2.2.2.1
theorem d149_18 : decode prog_14_method_24_code 18 = .ok (.ifCond .eq 53, 3) := dd149_0.2.2.2.2.2.2.2.2.2.2.2.2.1
theorem d149_21 : decode prog_14_method_24_code 21 = .ok (.iload_n 2, 1) := dd149_0.2.2.2.2.2.2.2.2.2.2.2.2.2.1
theorem d149_22 : decode prog_14_method_24_code 22 = .ok (.bipush 40, 2) := dd149_0.2.2.2.2.2.2.2.2.2.2.2.2.2.2.1
theorem d149_24 : decode prog_14_method_24_code 24 = .ok (.if_icmp .eq 9, 3) := dd149_0.2.2.2.2.2.2.2.2.2.2.2.2.2.2.2
theorem dd149_27 : (decode prog_14_method_24_code 27 = .ok (.iload_n 2, 1)) ∧ (decode prog_14_method_24_code 28 = .ok (.bipush 33, 2)) ∧ (decode prog_14_method_24_code 30 = .ok (.if_icmp .ne 23, 3)) ∧ (decode prog_14_method_24_code 33 = .ok (.aload_n 0, 1)) ∧ (decode prog_14_method_24_code 34 = .ok (.iload_n 2, 1)) ∧ (decode prog_14_method_24_code 35 = .ok (.bipush 40, 2)) ∧ (decode prog_14_method_24_code 37 = .ok (.if_icmp .ne 7, 3)) ∧ (decode prog_14_method_24_code 40 = .ok (.iconst 0, 1)) ∧ (decode prog_14_method_24_code 41 = .ok (.goto 4, 3)) ∧ (decode prog_14_method_24_code 44 = .ok (.iconst 3, 1)) ∧ (decode prog_14_method_24_code 45 = .ok (.invokevirtual 215, 3)) ∧ (decode prog_14_method_24_code 48 = .ok (.ifCond .ne 168, 3)) ∧ (decode prog_14_method_24_code 51 = .ok (.iconst 0, 1)) ∧ (decode prog_14_method_24_code 52 = .ok (.ireturn, 1)) ∧ (decode prog_14_method_24_code 53 = .ok (.aload_n 0, 1)) ∧ (decode prog_14_method_24_code 54 = .ok (.invokevirtual 218, 3)) := by decide +kernel
theorem d149_27 : decode prog_14_method_24_code 27 = .ok (.iload_n 2, 1) := dd149_27.1
theorem d149_28 : decode prog_14_method_24_code 28 = .ok (.bipush 33, 2) := dd149_27.2.1
theorem d149_30 : decode prog_14_method_24_code 30 = .ok (.if_icmp .ne 23, 3) := dd149_27.2.2.1
theorem d149_33 : decode prog_14_method_24_code 33 = .ok (.aload_n 0, 1) := dd149_27.2.2.2.1
theorem d149_34 : decode prog_14_method_24_code 34 = .ok (.iload_n 2, 1) := dd149_27.2.2.2.2.1
theorem d149_35 : decode prog_14_method_24_code 35 = .ok (.bipush 40, 2) := dd149_27.2.2.2.2.2.1
theorem d149_37 : decode prog_14_method_24_code 37 = .ok (.if_icmp .ne 7, 3) := dd149_27.2.2.2.2.2.2.1
theorem d149_40 : decode prog_14_method_24_code 40 = .ok (.iconst 0, 1) := dd149_27.2.2.2.2.2.2.2.1
theorem d149_41 : decode prog_14_method_24_code 41 = .ok (.goto 4, 3) := dd149_27.2.2.2.2.2.2.2.2.1
theorem d149_44 : decode prog_14_method_24_code 44 = .ok (.iconst 3, 1) := dd149_27.2.2.2.2.2.2.2.2.2.1
theorem d149_45 : decode prog_14_method_24_code 45 = .ok (.invokevirtual 215, 3) := dd149_27.2.2.2.2.2.2.2.2.2.2.1
theorem d149_48 : decode prog_14_method_24_code 48 = .ok (.ifCond .ne 168, 3) := dd149_27.2.2.2.2.2.2.2.2.2.2.2.1
theorem d149_51 : decode prog_14_method_24_code 51 = .ok (.iconst 0, 1) := dd149_27.2.2.2.2.2.2.2.2.2.2.2.2.1
theorem d149_52 : decode prog_14_method_24_code 52 = .ok (.ireturn, 1) := dd149_27.2.2.2.2.2.2.2.2.2.2.2.2.2.1
theorem d149_53 : decode prog_14_method_24_code 53 = .ok (.aload_n 0, 1) := dd149_27.2.2.2.2.2.2.2.2.2.2.2.2.2.2.1
theorem d149_54 : decode prog_14_method_24_code 54 = .ok (.invokevirtual 218, 3) := dd149_27.2.2.2.2.2.2.2.2.2.2.2.2.2.2.2
theorem dd149_57 : (decode prog_14_method_24_code 57 = .ok (.ifCond .ne 5, 3)) ∧ (decode prog_14_method_24_code 60 = .ok (.iconst 0, 1)) ∧ (decode prog_14_method_24_code 61 = .ok (.ireturn, 1)) ∧ (decode prog_14_method_24_code 62 = .ok (.aload_n 0, 1)) ∧ (decode prog_14_method_24_code 63 = .ok (.invokevirtual 222, 3)) ∧ (decode prog_14_method_24_code 66 = .ok (.iconst 0, 1)) ∧ (decode prog_14_method_24_code 67 = .ok (.istore_n 1, 1)) ∧ (decode prog_14_method_24_code 68 = .ok (.goto 148, 3)) ∧ (decode prog_14_method_24_code 71 = .ok (.iload_n 2, 1)) ∧ (decode prog_14_method_24_code 72 = .ok (.bipush 38, 2)) ∧ (decode prog_14_method_24_code 74 = .ok (.if_icmp .eq 9, 3)) ∧ (decode prog_14_method_24_code 77 = .ok (.iload_n 2, 1)) ∧ (decode prog_14_method_24_code 78 = .ok (.bipush 124, 2)) ∧ (decode prog_14_method_24_code 80 = .ok (.if_icmp .ne 63, 3)) ∧ (decode prog_14_method_24_code 83 = .ok (.aload_n 0, 1)) ∧ (decode prog_14_method_24_code 84 = .ok (.iload_n 2, 1)) := by decide +kernel
theorem d149_57 : decode prog_14_method_24_code 57 = .ok (.ifCond .ne 5, 3) := dd149_57.1
theorem d149_60 : decode prog_14_method_24_code 60 = .ok (.iconst 0, 1) := dd149_57.2.1
theorem d149_61 : decode prog_14_method_24_code 61 = .ok (.ireturn, 1) := dd149_57.2.2.1
theorem d149_62 : decode prog_14_method_24_code 62 = .ok (.aload_n 0, 1) := dd149_57.2.2.2.1
theorem d149_63 : decode prog_14_method_24_code 63 = .ok (.invokevirtual 222, 3) := dd149_57.2.2.2.2.1
theorem d149_66 : decode prog_14_method_24_code 66 = .ok (.iconst 0, 1) := dd149_57.2.2.2.2.2.1
theorem d149_67 : decode prog_14_method_24_code 67 = .ok (.istore_n 1, 1) := dd149_57.2.2.2.2.2.2.1
theorem d149_68 : decode prog_14_method_24_code 68 = .ok (.goto 148, 3) := dd149_57.2.2.2.2.2.2.2.1
theorem d149_71 : decode prog_14_method_24_code 71 = .ok (.iload_n 2, 1) := dd149_57.2.2.2.2.2.2.2.2.1
theorem d149_72 : decode prog_14_method_24_code 72 = .ok (.bipush 38, 2) := dd149_57.2.2.2.2.2.2.2.2.2.1
theorem d149_74 : decode prog_14_method_24_code 74 = .ok (.if_icmp .eq 9, 3) := dd149_57.2.2.2.2.2.2.2.2.2.2.1
theorem d149_77 : decode prog_14_method_24_code 77 = .ok (.iload_n 2, 1) := dd149_57.2.2.2.2.2.2.2.2.2.2.2.1
theorem d149_78 : decode prog_14_method_24_code 78 = .ok (.bipush 124, 2) := dd149_57.2.2.2.2.2.2.2.2.2.2.2.2.1
theorem d149_80 : decode prog_14_method_24_code 80 = .ok (.if_icmp .ne 63, 3) := dd149_57.2.2.2.2.2.2.2.2.2.2.2.2.2.1
theorem d149_83 : decode prog_14_method_24_code 83 = .ok (.aload_n 0, 1) := dd149_57.2.2.2.2.2.2.2.2.2.2.2.2.2.2.1
theorem d149_84 : decode prog_14_method_24_code 84 = .ok (.iload_n 2, 1) := dd149_57.2.2.2.2.2.2.2.2.2.2.2.2.2.2.2
theorem dd149_85 : (decode prog_14_method_24_code 85 = .ok (.bipush 38, 2)) ∧ (decode prog_14_method_24_code 87 = .ok (.if_icmp .ne 7, 3)) ∧ (decode prog_14_method_24_code 90 = .ok (.iconst 2, 1)) ∧ (decode prog_14_method_24_code 91 = .ok (.goto 4, 3)) ∧ (decode prog_14_method_24_code 94 = .ok (.iconst 1, 1)) ∧ (decode prog_14_method_24_code 95 = .ok (.invokevirtual 225, 3)) ∧ (decode prog_14_method_24_code 98 = .ok (.aload_n 0, 1)) ∧ (decode prog_14_method_24_code 99 = .ok (.getfield 95, 3)) ∧ (decode prog_14_method_24_code 102 = .ok (.aload_n 0, 1)) ∧ (decode prog_14_method_24_code 103 = .ok (.getfield 209, 3)) ∧ (decode prog_14_method_24_code 106 = .ok (.iload_n 2, 1)) ∧ (decode prog_14_method_24_code 107 = .ok (.bipush 38, 2)) ∧ (decode prog_14_method_24_code 109 = .ok (.if_icmp .ne 7, 3)) ∧ (decode prog_14_method_24_code 112 = .ok (.iconst 2, 1)) ∧ (decode prog_14_method_24_code 113 = .ok (.goto 4, 3)) ∧ (decode prog_14_method_24_code 116 = .ok (.iconst 1, 1)) := by decide +kernel
theorem d149_85 : decode prog_14_method_24_code 85 = .ok (.bipush 38, 2) := dd149_85.1
theorem d149_87 : decode prog_14_method_24_code 87 = .ok (.if_icmp .ne 7, 3) := dd149_85.2.1
theorem d149_90 : decode prog_14_method_24_code 90 = .ok (.iconst 2, 1) := dd149_85.2.2.1
theorem d149_91 : decode prog_14_method_24_code 91 = .ok (.goto 4, 3) := dd149_85.2.2.2.1
theorem d149_94 : decode prog_14_method_24_code 94 = .ok (.iconst 1, 1) := dd149_85.2.2.2.2.1
theorem d149_95 : decode prog_14_method_24_code 95 = .ok (.invokevirtual 225, 3) := dd149_85.2.2.2.2.2.1
theorem d149_98 : decode prog_14_method_24_code 98 = .ok (.aload_n 0, 1) := dd149_85.2.2.2.2.2.2.1
theorem d149_99 : decode prog_14_method_24_code 99 = .ok (.getfield 95, 3) := dd149_85.2.2.2.2.2.2.2.1
theorem d149_102 : decode prog_14_method_24_code 102 = .ok (.aload_n 0, 1) := dd149_85.2.2.2.2.2.2.2.2.1
theorem d149_103 : decode prog_14_method_24_code 103 = .ok (.getfield 209, 3) := dd149_85.2.2.2.2.2.2.2.2.2.1
theorem d149_106 : decode prog_14_method_24_code 106 = .ok (.iload_n 2, 1) := dd149_85.2.2.2.2.2.2.2.2.2.2.1
theorem d149_107 : decode prog_14_method_24_code 107 = .ok (.bipush 38, 2) := dd149_85.2.2.2.2.2.2.2.2.2.2.2.1
theorem d149_109 : decode prog_14_method_24_code 109 = .ok (.if_icmp .ne 7, 3) := dd149_85.2.2.2.2.2.2.2.2.2.2.2.2.1
theorem d149_112 : decode prog_14_method_24_code 112 = .ok (.iconst 2, 1) := dd149_85.2.2.2.2.2.2.2.2.2.2.2.2.2.1
theorem d149_113 : decode prog_14_method_24_code 113 = .ok (.goto 4, 3) := dd149_85.2.2.2.2.2.2.2.2.2.2.2.2.2.2.1
theorem d149_116 : decode prog_14_method_24_code 116 = .ok (.iconst 1, 1) := dd149_85.2.2.2.2.2.2.2.2.2.2.2.2.2.2.2
theorem dd149_117 : (decode prog_14_method_24_code 117 = .ok (.iastore, 1)) ∧ (decode prog_14_method_24_code 118 = .ok (.aload_n 0, 1)) ∧ (decode prog_14_method_24_code 119 = .ok (.dup, 1)) ∧ (decode prog_14_method_24_code 120 = .ok (.getfield 209, 3)) ∧ (decode prog_14_method_24_code 123 = .ok (.iconst 1, 1)) ∧ (decode prog_14_method_24_code 124 = .ok (.iadd, 1)) ∧ (decode prog_14_method_24_code 125 = .ok (.putfield 209, 3)) ∧ (decode prog_14_method_24_code 128 = .ok (.aload_n 0, 1)) ∧ (decode prog_14_method_24_code 129 = .ok (.dup, 1)) ∧ (decode prog_14_method_24_code 130 = .ok (.getfield 187, 3)) ∧ (decode prog_14_method_24_code 133 = .ok (.iconst 1, 1)) ∧ (decode prog_14_method_24_code 134 = .ok (.iadd, 1)) ∧ (decode prog_14_method_24_code 135 = .ok (.putfield 187, 3)) ∧ (decode prog_14_method_24_code 138 = .ok (.iconst 1, 1)) ∧ (decode prog_14_method_24_code 139 = .ok (.istore_n 1, 1)) ∧ (decode prog_14_method_24_code 140 = .ok (.goto 76, 3)) := by decide +kernel
theorem d149_117 : decode prog_14_method_24_code 117 = .ok (.iastore, 1) := dd149_117.1
theorem d149_118 : decode prog_14_method_24_code 118 = .ok (.aload_n 0, 1) := dd149_117.2.1
theorem d149_119 : decode prog_14_method_24_code 119 = .ok (.dup, 1) := dd149_117.2.2.1
theorem d149_120 : decode prog_14_method_24_code 120 = .ok (.getfield 209, 3) := dd149_117.2.2.2.1
theorem d149_123 : decode prog_14_method_24_code 123 = .ok (.iconst 1, 1) := dd149_117.2.2.2.2.1
theorem d149_124 : decode prog_14_method_24_code 124 = .ok (.iadd, 1) := dd149_117.2.2.2.2.2.1
theorem d149_125 : decode prog_14_method_24_code 125 = .ok (.putfield 209, 3) := dd149_117.2.2.2.2.2.2.1
theorem d149_128 : decode prog_14_method_24_code 128 = .ok (.aload_n 0, 1) := dd149_117.2.2.2.2.2.2.2.1
theorem d149_129 : decode prog_14_method_24_code 129 = .ok (.dup, 1) := dd149_117.2.2.2.2.2.2.2.2.1
theorem d149_130 : decode prog_14_method_24_code 130 = .ok (.getfield 187, 3) := dd149_117.2.2.2.2.2.2.2.2.2.1
theorem d149_133 : decode prog_14_method_24_code 133 = .ok (.iconst 1, 1) := dd149_117.2.2.2.2.2.2.2.2.2.2.1
theorem d149_134 : decode prog_14_method_24_code 134 = .ok (.iadd, 1) := dd149_117.2.2.2.2.2.2.2.2.2.2.2.1
theorem d149_135 : decode prog_14_method_24_code 135 = .ok (.putfield 187, 3) := dd149_117.2.2.2.2.2.2.2.2.2.2.2.2.1
theorem d149_138 : decode prog_14_method_24_code 138 = .ok (.iconst 1, 1) := dd149_117.2.2.2.2.2.2.2.2.2.2.2.2.2.1
theorem d149_139 : decode prog_14_method_24_code 139 = .ok (.istore_n 1, 1) := dd149_117.2.2.2.2.2.2.2.2.2.2.2.2.2.2.1
theorem d149_140 : decode prog_14_method_24_code 140 = .ok (.goto 76, 3) := dd149_117.2.2.2.2.2.2.2.2.2.2.2.2.2.2.2
theorem dd149_143 : (decode prog_14_method_24_code 143 = .ok (.iload_n 2, 1)) ∧ (decode prog_14_method_24_code 144 = .ok (.bipush 41, 2)) ∧ (decode prog_14_method_24_code 146 = .ok (.if_icmp .ne 52, 3)) ∧ (decode prog_14_method_24_code 149 = .ok (.aload_n 0, 1)) ∧ (decode prog_14_method_24_code 150 = .ok (.getfield 212, 3)) ∧ (decode prog_14_method_24_code 153 = .ok (.ifCond .le 45, 3)) ∧ (decode prog_14_method_24_code 156 = .ok (.aload_n 0, 1)) ∧ (decode prog_14_method_24_code 157 = .ok (.iconst 1, 1)) ∧ (decode prog_14_method_24_code 158 = .ok (.invokevirtual 225, 3)) ∧ (decode prog_14_method_24_code 161 = .ok (.aload_n 0, 1)) ∧ (decode prog_14_method_24_code 162 = .ok (.dup, 1)) ∧ (decode prog_14_method_24_code 163 = .ok (.getfield 209, 3)) ∧ (decode prog_14_method_24_code 166 = .ok (.iconst 1, 1)) ∧ (decode prog_14_method_24_code 167 = .ok (.isub, 1)) ∧ (decode prog_14_method_24_code 168 = .ok (.putfield 209, 3)) ∧ (decode prog_14_method_24_code 171 = .ok (.aload_n 0, 1)) := by decide +kernel
theorem d149_143 : decode prog_14_method_24_code 143 = .ok (.iload_n 2, 1) := dd149_143.1
theorem d149_144 : decode prog_14_method_24_code 144 = .ok (.bipush 41, 2) := dd149_143.2.1
theorem d149_146 : decode prog_14_method_24_code 146 = .ok (.if_icmp .ne 52, 3) := dd149_143.2.2.1
theorem d149_149 : decode prog_14_method_24_code 149 = .ok (.aload_n 0, 1) := dd149_143.2.2.2.1
theorem d149_150 : decode prog_14_method_24_code 150 = .ok (.getfield 212, 3) := dd149_143.2.2.2.2.1
theorem d149_153 : decode prog_14_method_24_code 153 = .ok (.ifCond .le 45, 3) := dd149_143.2.2.2.2.2.1
theorem d149_156 : decode prog_14_method_24_code 156 = .ok (.aload_n 0, 1) := dd149_143.2.2.2.2.2.2.1
theorem d149_157 : decode prog_14_method_24_code 157 = .ok (.iconst 1, 1) := dd149_143.2.2.2.2.2.2.2.1
theorem d149_158 : decode prog_14_method_24_code 158 = .ok (.invokevirtual 225, 3) := dd149_143.2.2.2.2.2.2.2.2.1
theorem d149_161 : decode prog_14_method_24_code 161 = .ok (.aload_n 0, 1) := dd149_143.2.2.2.2.2.2.2.2.2.1
theorem d149_162 : decode prog_14_method_24_code 162 = .ok (.dup, 1) := dd149_143.2.2.2.2.2.2.2.2.2.2.1
theorem d149_163 : decode prog_14_method_24_code 163 = .ok (.getfield 209, 3) := dd149_143.2.2.2.2.2.2.2.2.2.2.2.1
theorem d149_166 : decode prog_14_method_24_code 166 = .ok (.iconst 1, 1) := dd149_143.2.2.2.2.2.2.2.2.2.2.2.2.1
theorem d149_167 : decode prog_14_method_24_code 167 = .ok (.isub, 1) := dd149_143.2.2.2.2.2.2.2.2.2.2.2.2.2.1
theorem d149_168 : decode prog_14_method_24_code 168 = .ok (.putfield 209, 3) := dd149_143.2.2.2.2.2.2.2.2.2.2.2.2.2.2.1
theorem d149_171 : decode prog_14_method_24_code 171 = .ok (.aload_n 0, 1) := dd149_143.2.2.2.2.2.2.2.2.2.2.2.2.2.2.2
theorem dd149_172 : (decode prog_14_method_24_code 172 = .ok (.dup, 1)) ∧ (decode prog_14_method_24_code 173 = .ok (.getfield 212, 3)) ∧ (decode prog_14_method_24_code 176 = .ok (.iconst 1, 1)) ∧ (decode prog_14_method_24_code 177 = .ok (.isub, 1)) ∧ (decode prog_14_method_24_code 178 = .ok (.putfield 212, 3)) ∧ (decode prog_14_method_24_code 181 = .ok (.aload_n 0, 1)) ∧ (decode prog_14_method_24_code 182 = .ok (.dup, 1)) ∧ (decode prog_14_method_24_code 183 = .ok (.getfield 187, 3)) ∧ (decode prog_14_method_24_code 186 = .ok (.iconst 1, 1)) ∧ (decode prog_14_method_24_code 187 = .ok (.iadd, 1)) ∧ (decode prog_14_method_24_code 188 = .ok (.putfield 187, 3)) ∧ (decode prog_14_method_24_code 191 = .ok (.aload_n 0, 1)) ∧ (decode prog_14_method_24_code 192 = .ok (.invokevirtual 222, 3)) ∧ (decode prog_14_method_24_code 195 = .ok (.goto 21, 3)) ∧ (decode prog_14_method_24_code 198 = .ok (.aload_n 0, 1)) ∧ (decode prog_14_method_24_code 199 = .ok (.iconst 1, 1)) := by decide +kernel
theorem d149_172 : decode prog_14_method_24_code 172 = .ok (.dup, 1) := dd149_172.1
theorem d149_173 : decode prog_14_method_24_code 173 = .ok (.getfield 212, 3) := dd149_172.2.1
theorem d149_176 : decode prog_14_method_24_code 176 = .ok (.iconst 1, 1) := dd149_172.2.2.1
theorem d149_177 : decode prog_14_method_24_code 177 = .ok (.isub, 1) := dd149_172.2.2.2.1
theorem d149_178 : decode prog_14_method_24_code 178 = .ok (.putfield 212, 3) := dd149_172.2.2.2.2.1
theorem d149_181 : decode prog_14_method_24_code 181 = .ok (.aload_n 0, 1) := dd149_172.2.2.2.2.2.1
theorem d149_182 : decode prog_14_method_24_code 182 = .ok (.dup, 1) := dd149_172.2.2.2.2.2.2.1
theorem d149_183 : decode prog_14_method_24_code 183 = .ok (.getfield 187, 3) := dd149_172.2.2.2.2.2.2.2.1
theorem d149_186 : decode prog_14_method_24_code 186 = .ok (.iconst 1, 1) := dd149_172.2.2.2.2.2.2.2.2.1
theorem d149_187 : decode prog_14_method_24_code 187 = .ok (.iadd, 1) := dd149_172.2.2.2.2.2.2.2.2.2.1
theorem d149_188 : decode prog_14_method_24_code 188 = .ok (.putfield 187, 3) := dd149_172.2.2.2.2.2.2.2.2.2.2.1
theorem d149_191 : decode prog_14_method_24_code 191 = .ok (.aload_n 0, 1) := dd149_172.2.2.2.2.2.2.2.2.2.2.2.1
theorem d149_192 : decode prog_14_method_24_code 192 = .ok (.invokevirtual 222, 3) := dd149_172.2.2.2.2.2.2.2.2.2.2.2.2.1
theorem d149_195 : decode prog_14_method_24_code 195 = .ok (.goto 21, 3) := dd149_172.2.2.2.2.2.2.2.2.2.2.2.2.2.1
theorem d149_198 : decode prog_14_method_24_code 198 = .ok (.aload_n 0, 1) := dd149_172.2.2.2.2.2.2.2.2.2.2.2.2.2.2.1
theorem d149_199 : decode prog_14_method_24_code 199 = .ok (.iconst 1, 1) := dd149_172.2.2.2.2.2.2.2.2.2.2.2.2.2.2.2
theorem dd149_200 : (decode prog_14_method_24_code 200 = .ok (.invokevirtual 225, 3)) ∧ (decode prog_14_method_24_code 203 = .ok (.aload_n 0, 1)) ∧ (decode prog_14_method_24_code 204 = .ok (.getfield 209, 3)) ∧ (decode prog_14_method_24_code 207 = .ok (.ifCond .ne 7, 3)) ∧ (decode prog_14_method_24_code 210 = .ok (.iconst 1, 1)) ∧ (decode prog_14_method_24_code 211 = .ok (.goto 4, 3)) ∧ (decode prog_14_method_24_code 214 = .ok (.iconst 0, 1)) ∧ (decode prog_14_method_24_code 215 = .ok (.ireturn, 1)) ∧ (decode prog_14_method_24_code 216 = .ok (.goto (-204), 3)) := by decide +kernel
theorem d149_200 : decode prog_14_method_24_code 200 = .ok (.invokevirtual 225, 3) := dd149_200.1
theorem d149_203 : decode prog_14_method_24_code 203 = .ok (.aload_n 0, 1) := dd149_200.2.1
theorem d149_204 : decode prog_14_method_24_code 204 = .ok (.getfield 209, 3) := dd149_200.2.2.1
theorem d149_207 : decode prog_14_method_24_code 207 = .ok (.ifCond .ne 7, 3) := dd149_200.2.2.2.1
theorem d149_210 : decode prog_14_method_24_code 210 = .ok (.iconst 1, 1) := dd149_200.2.2.2.2.1
theorem d149_211 : decode prog_14_method_24_code 211 = .ok (.goto 4, 3) := dd149_200.2.2.2.2.2.1
theorem d149_214 : decode prog_14_method_24_code 214 = .ok (.iconst 0, 1) := dd149_200.2.2.2.2.2.2.1
theorem d149_215 : decode prog_14_method_24_code 215 = .ok (.ireturn, 1) := dd149_200.2.2.2.2.2.2.2.1
theorem d149_216 : decode prog_14_method_24_code 216 = .ok (.goto (-204), 3) := dd149_200.2.2.2.2.2.2.2.2
theorem b149_0 {d : Nat} {S : mm_S} {a0 : Nat} (h0 : mm_obj S a0 12 = true) : mm_ex d 149 0 [.ref a0, .null, .null] [] S =
    mm_ex d 149 12 [.ref a0, .int (nI 1), .null] [] (mm_uM (mm_uM S a0 39 (nI 0)) a0 40 (nI 0)) :=
  Eq.trans (mx_aload_n t149 d149_0 (x := a0) rfl) <|
  Eq.trans (mx_iconst t149 d149_1 (v := nI 0) rfl) <|
  Eq.trans (mx_puti2 t149 d149_2 fl12_209 rfl h0) <|
  Eq.trans (mx_aload_n t149 d149_5 (x := a0) rfl) <|
  Eq.trans (mx_iconst t149 d149_6 (v := nI 0) rfl) <|
  Eq.trans (mx_puti2 t149 d149_7 fl12_212 rfl h0) <|
  Eq.trans (mx_iconst t149 d149_10 (v := nI 1) rfl) <|
  (mx_istore_n t149 d149_11 (ls' := [.ref a0, .int (nI 1), .null]) rfl rfl)
theorem b149_12 {d : Nat} {S : mm_S} {a0 : Nat} {x1 : Int32} {v2 : Value} (h0 : mm_rk S a0 = 12) : mm_ex (d + 1) 149 12 [.ref a0, .int x1, v2] [] S =
    mm_bd (mm_cl d 139 [.ref a0] S) (fun v S2 => mm_ex (d + 1) 149 16 [.ref a0, .int x1, v2] (v.toList ++ []) S2) :=
  Eq.trans (mx_aload_n t149 d149_12 (x := a0) rfl) <|
  (mx_virt (st := []) (k := 12) t149 [] d149_13 vt12_190 rfl rfl (Nat.le_of_ble_eq_true rfl) (Nat.le_of_ble_eq_true rfl) h0)
theorem b149_16 {d : Nat} {S : mm_S} {a0 : Nat} {x1 : Int32} {v2 : Value} {p0 : Int32} : mm_ex d 149 16 [.ref a0, .int x1, v2] [.int p0] S =
    if x1 = nI 0 then mm_ex d 149 71 [.ref a0, .int x1, .int p0] [] S else mm_ex d 149 21 [.ref a0, .int x1, .int p0] [] S :=
  Eq.trans (mx_istore_n t149 d149_16 (ls' := [.ref a0, .int x1, .int p0]) rfl rfl) <|
  Eq.trans (mx_iload_n t149 d149_17 (x := x1) rfl) <|
  (mx_ieq t149 d149_18 (tgt := 71) (by decide))
theorem b149_21 {d : Nat} {S : mm_S} {a0 : Nat} {x1 : Int32} {x2 : Int32} : mm_ex d 149 21 [.ref a0, .int x1, .int x2] [] S =
    if x2 = (nI 40) then mm_ex d 149 33 [.ref a0, .int x1, .int x2] [] S else mm_ex d 149 27 [.ref a0, .int x1, .int x2] [] S :=
  Eq.trans (mx_iload_n t149 d149_21 (x := x2) rfl) <|
  Eq.trans (mx_bipush t149 d149_22 (v := nI 40) rfl) <|
  (mx_ceq t149 d149_24 (tgt := 33) (by decide))
theorem b149_27 {d : Nat} {S : mm_S} {a0 : Nat} {x1 : Int32} {x2 : Int32} : mm_ex d 149 27 [.ref a0, .int x1, .int x2] [] S =
    if x2 = (nI 33) then mm_ex d 149 33 [.ref a0, .int x1, .int x2] [] S else mm_ex d 149 53 [.ref a0, .int x1, .int x2] [] S :=
  Eq.trans (mx_iload_n t149 d149_27 (x := x2) rfl) <|
  Eq.trans (mx_bipush t149 d149_28 (v := nI 33) rfl) <|
  (mx_cne t149 d149_30 (tgt := 53) (by decide))
theorem b149_33 {d : Nat} {S : mm_S} {a0 : Nat} {x1 : Int32} {x2 : Int32} : mm_ex d 149 33 [.ref a0, .int x1, .int x2] [] S =
    if x2 = (nI 40) then mm_ex d 149 40 [.ref a0, .int x1, .int x2] [.ref a0] S else mm_ex d 149 44 [.ref a0, .int x1, .int x2] [.ref a0] S :=
  Eq.trans (mx_aload_n t149 d149_33 (x := a0) rfl) <|
  Eq.trans (mx_iload_n t149 d149_34 (x := x2) rfl) <|
  Eq.trans (mx_bipush t149 d149_35 (v := nI 40) rfl) <|
  (mx_cne t149 d149_37 (tgt := 44) (by decide))
theorem b149_40 {d : Nat} {S : mm_S} {a0 : Nat} {x1 : Int32} {x2 : Int32} {p0 : Nat} (h0 : mm_rk S p0 = 12) : mm_ex (d + 1) 149 40 [.ref a0, .int x1, .int x2] [.ref p0] S =
    mm_bd (mm_cl d 148 [.ref p0, .int (nI 0)] S) (fun v S2 => mm_ex (d + 1) 149 48 [.ref a0, .int x1, .int x2] (v.toList ++ []) S2) :=
  Eq.trans (mx_iconst t149 d149_40 (v := nI 0) rfl) <|
  Eq.trans (mx_goto t149 d149_41 (tgt := 45) (by decide)) <|
  (mx_virt (st := []) (k := 12) t149 [.int (nI 0)] d149_45 vt12_215 rfl rfl (Nat.le_of_ble_eq_true rfl) (Nat.le_of_ble_eq_true rfl) h0)
theorem b149_44 {d : Nat} {S : mm_S} {a0 : Nat} {x1 : Int32} {x2 : Int32} {p0 : Nat} (h0 : mm_rk S p0 = 12) : mm_ex (d + 1) 149 44 [.ref a0, .int x1, .int x2] [.ref p0] S =
    mm_bd (mm_cl d 148 [.ref p0, .int (nI 3)] S) (fun v S2 => mm_ex (d + 1) 149 48 [.ref a0, .int x1, .int x2] (v.toList ++ []) S2) :=
  Eq.trans (mx_iconst t149 d149_44 (v := nI 3) rfl) <|
  (mx_virt (st := []) (k := 12) t149 [.int (nI 3)] d149_45 vt12_215 rfl rfl (Nat.le_of_ble_eq_true rfl) (Nat.le_of_ble_eq_true rfl) h0)
theorem b149_48 {d : Nat} {S : mm_S} {a0 : Nat} {x1 : Int32} {x2 : Int32} {p0 : Int32} : mm_ex d 149 48 [.ref a0, .int x1, .int x2] [.int p0] S =
    if p0 = nI 0 then mm_ex d 149 51 [.ref a0, .int x1, .int x2] [] S else mm_ex d 149 216 [.ref a0, .int x1, .int x2] [] S :=
  (mx_ine t149 d149_48 (tgt := 216) (by decide))
theorem b149_51 {d : Nat} {S : mm_S} {a0 : Nat} {x1 : Int32} {x2 : Int32} : mm_ex d 149 51 [.ref a0, .int x1, .int x2] [] S =
    some (some (.int (nI 0)), S) :=
  Eq.trans (mx_iconst t149 d149_51 (v := nI 0) rfl) <|
  (mx_iret t149 d149_52 (ty := .boolean) rfl rfl (fun h => nomatch h))
theorem b149_53 {d : Nat} {S : mm_S} {a0 : Nat} {x1 : Int32} {x2 : Int32} (h0 : mm_rk S a0 = 12) : mm_ex (d + 1) 149 53 [.ref a0, .int x1, .int x2] [] S =
    mm_bd (mm_cl d 145 [.ref a0] S) (fun v S2 => mm_ex (d + 1) 149 57 [.ref a0, .int x1, .int x2] (v.toList ++ []) S2) :=
  Eq.trans (mx_aload_n t149 d149_53 (x := a0) rfl) <|
  (mx_virt (st := []) (k := 12) t149 [] d149_54 vt12_218 rfl rfl (Nat.le_of_ble_eq_true rfl) (Nat.le_of_ble_eq_true rfl) h0)
theorem b149_57 {d : Nat} {S : mm_S} {a0 : Nat} {x1 : Int32} {x2 : Int32} {p0 : Int32} : mm_ex d 149 57 [.ref a0, .int x1, .int x2] [.int p0] S =
    if p0 = nI 0 then mm_ex d 149 60 [.ref a0, .int x1, .int x2] [] S else mm_ex d 149 62 [.ref a0, .int x1, .int x2] [] S :=
  (mx_ine t149 d149_57 (tgt := 62) (by decide))
theorem b149_60 {d : Nat} {S : mm_S} {a0 : Nat} {x1 : Int32} {x2 : Int32} : mm_ex d 149 60 [.ref a0, .int x1, .int x2] [] S =
    some (some (.int (nI 0)), S) :=
  Eq.trans (mx_iconst t149 d149_60 (v := nI 0) rfl) <|
  (mx_iret t149 d149_61 (ty := .boolean) rfl rfl (fun h => nomatch h))
theorem b149_62 {d : Nat} {S : mm_S} {a0 : Nat} {x1 : Int32} {x2 : Int32} (h0 : mm_rk S a0 = 12) : mm_ex (d + 1) 149 62 [.ref a0, .int x1, .int x2] [] S =
    mm_bd (mm_cl d 146 [.ref a0] S) (fun v S2 => mm_ex (d + 1) 149 66 [.ref a0, .int x1, .int x2] (v.toList ++ []) S2) :=
  Eq.trans (mx_aload_n t149 d149_62 (x := a0) rfl) <|
  (mx_virt (st := []) (k := 12) t149 [] d149_63 vt12_222 rfl rfl (Nat.le_of_ble_eq_true rfl) (Nat.le_of_ble_eq_true rfl) h0)
theorem b149_66 {d : Nat} {S : mm_S} {a0 : Nat} {x1 : Int32} {x2 : Int32} : mm_ex d 149 66 [.ref a0, .int x1, .int x2] [] S =
    mm_ex d 149 12 [.ref a0, .int (nI 0), .int x2] [] S :=
  Eq.trans (mx_iconst t149 d149_66 (v := nI 0) rfl) <|
  Eq.trans (mx_istore_n t149 d149_67 (ls' := [.ref a0, .int (nI 0), .int x2]) rfl rfl) <|
  Eq.trans (mx_goto t149 d149_68 (tgt := 216) (by decide)) <|
  (mx_goto t149 d149_216 (tgt := 12) (by decide))
theorem b149_71 {d : Nat} {S : mm_S} {a0 : Nat} {x1 : Int32} {x2 : Int32} : mm_ex d 149 71 [.ref a0, .int x1, .int x2] [] S =
    if x2 = (nI 38) then mm_ex d 149 83 [.ref a0, .int x1, .int x2] [] S else mm_ex d 149 77 [.ref a0, .int x1, .int x2] [] S :=
  Eq.trans (mx_iload_n t149 d149_71 (x := x2) rfl) <|
  Eq.trans (mx_bipush t149 d149_72 (v := nI 38) rfl) <|
  (mx_ceq t149 d149_74 (tgt := 83) (by decide))
theorem b149_77 {d : Nat} {S : mm_S} {a0 : Nat} {x1 : Int32} {x2 : Int32} : mm_ex d 149 77 [.ref a0, .int x1, .int x2] [] S =
    if x2 = (nI 124) then mm_ex d 149 83 [.ref a0, .int x1, .int x2] [] S else mm_ex d 149 143 [.ref a0, .int x1, .int x2] [] S :=
  Eq.trans (mx_iload_n t149 d149_77 (x := x2) rfl) <|
  Eq.trans (mx_bipush t149 d149_78 (v := nI 124) rfl) <|
  (mx_cne t149 d149_80 (tgt := 143) (by decide))
theorem b149_83 {d : Nat} {S : mm_S} {a0 : Nat} {x1 : Int32} {x2 : Int32} : mm_ex d 149 83 [.ref a0, .int x1, .int x2] [] S =
    if x2 = (nI 38) then mm_ex d 149 90 [.ref a0, .int x1, .int x2] [.ref a0] S else mm_ex d 149 94 [.ref a0, .int x1, .int x2] [.ref a0] S :=
  Eq.trans (mx_aload_n t149 d149_83 (x := a0) rfl) <|
  Eq.trans (mx_iload_n t149 d149_84 (x := x2) rfl) <|
  Eq.trans (mx_bipush t149 d149_85 (v := nI 38) rfl) <|
  (mx_cne t149 d149_87 (tgt := 94) (by decide))
theorem b149_90 {d : Nat} {S : mm_S} {a0 : Nat} {x1 : Int32} {x2 : Int32} {p0 : Nat} (h0 : mm_rk S p0 = 12) : mm_ex (d + 1) 149 90 [.ref a0, .int x1, .int x2] [.ref p0] S =
    mm_bd (mm_cl d 147 [.ref p0, .int (nI 2)] S) (fun v S2 => mm_ex (d + 1) 149 98 [.ref a0, .int x1, .int x2] (v.toList ++ []) S2) :=
  Eq.trans (mx_iconst t149 d149_90 (v := nI 2) rfl) <|
  Eq.trans (mx_goto t149 d149_91 (tgt := 95) (by decide)) <|
  (mx_virt (st := []) (k := 12) t149 [.int (nI 2)] d149_95 vt12_225 rfl rfl (Nat.le_of_ble_eq_true rfl) (Nat.le_of_ble_eq_true rfl) h0)
theorem b149_94 {d : Nat} {S : mm_S} {a0 : Nat} {x1 : Int32} {x2 : Int32} {p0 : Nat} (h0 : mm_rk S p0 = 12) : mm_ex (d + 1) 149 94 [.ref a0, .int x1, .int x2] [.ref p0] S =
    mm_bd (mm_cl d 147 [.ref p0, .int (nI 1)] S) (fun v S2 => mm_ex (d + 1) 149 98 [.ref a0, .int x1, .int x2] (v.toList ++ []) S2) :=
  Eq.trans (mx_iconst t149 d149_94 (v := nI 1) rfl) <|
  (mx_virt (st := []) (k := 12) t149 [.int (nI 1)] d149_95 vt12_225 rfl rfl (Nat.le_of_ble_eq_true rfl) (Nat.le_of_ble_eq_true rfl) h0)
theorem b149_98 {d : Nat} {S : mm_S} {a0 : Nat} {x1 : Int32} {x2 : Int32} (h0 : mm_obj S a0 12 = true) (h1 : (mm_R S a0 38).isSome = true) : mm_ex d 149 98 [.ref a0, .int x1, .int x2] [] S =
    if x2 = (nI 38) then mm_ex d 149 112 [.ref a0, .int x1, .int x2] [.int (mm_M S a0 39), .ref (mm_rg S a0 38)] S else mm_ex d 149 116 [.ref a0, .int x1, .int x2] [.int (mm_M S a0 39), .ref (mm_rg S a0 38)] S :=
  Eq.trans (mx_aload_n t149 d149_98 (x := a0) rfl) <|
  Eq.trans (mx_getR t149 d149_99 rfl fl12_95 h0 h1) <|
  Eq.trans (mx_aload_n t149 d149_102 (x := a0) rfl) <|
  Eq.trans (mx_geti t149 d149_103 rfl fl12_209 h0) <|
  Eq.trans (mx_iload_n t149 d149_106 (x := x2) rfl) <|
  Eq.trans (mx_bipush t149 d149_107 (v := nI 38) rfl) <|
  (mx_cne t149 d149_109 (tgt := 116) (by decide))
theorem b149_112 {d : Nat} {S : mm_S} {a0 : Nat} {x1 : Int32} {x2 : Int32} {p0 : Int32} {p1 : Nat} (h0 : mm_arr S p1 13 = true) (h1 : mm_inb p0 (mm_N S p1) = true) : mm_ex d 149 112 [.ref a0, .int x1, .int x2] [.int p0, .ref p1] S =
    mm_ex d 149 120 [.ref a0, .int x1, .int x2] [.ref a0, .ref a0] (mm_uM S p1 (p0).toNatClampNeg (nI 2)) :=
  Eq.trans (mx_iconst t149 d149_112 (v := nI 2) rfl) <|
  Eq.trans (mx_goto t149 d149_113 (tgt := 117) (by decide)) <|
  Eq.trans (mx_iast2 t149 d149_117 h0 h1) <|
  Eq.trans (mx_aload_n t149 d149_118 (x := a0) rfl) <|
  (mx_dupr t149 d149_119)
theorem b149_116 {d : Nat} {S : mm_S} {a0 : Nat} {x1 : Int32} {x2 : Int32} {p0 : Int32} {p1 : Nat} (h0 : mm_arr S p1 13 = true) (h1 : mm_inb p0 (mm_N S p1) = true) : mm_ex d 149 116 [.ref a0, .int x1, .int x2] [.int p0, .ref p1] S =
    mm_ex d 149 120 [.ref a0, .int x1, .int x2] [.ref a0, .ref a0] (mm_uM S p1 (p0).toNatClampNeg (nI 1)) :=
  Eq.trans (mx_iconst t149 d149_116 (v := nI 1) rfl) <|
  Eq.trans (mx_iast2 t149 d149_117 h0 h1) <|
  Eq.trans (mx_aload_n t149 d149_118 (x := a0) rfl) <|
  (mx_dupr t149 d149_119)
theorem b149_120 {d : Nat} {S : mm_S} {a0 : Nat} {x1 : Int32} {x2 : Int32} {p0 : Nat} {p1 : Nat} (h0 : mm_obj S p0 12 = true) (h1 : mm_obj S p1 12 = true) : mm_ex d 149 120 [.ref a0, .int x1, .int x2] [.ref p0, .ref p1] S =
    mm_ex d 149 130 [.ref a0, .int x1, .int x2] [.ref a0, .ref a0] (mm_uM S p1 39 ((mm_M S p0 39) + (nI 1))) :=
  Eq.trans (mx_geti t149 d149_120 rfl fl12_209 h0) <|
  Eq.trans (mx_iconst t149 d149_123 (v := nI 1) rfl) <|
  Eq.trans (mx_iadd t149 d149_124) <|
  Eq.trans (mx_puti2 t149 d149_125 fl12_209 rfl h1) <|
  Eq.trans (mx_aload_n t149 d149_128 (x := a0) rfl) <|
  (mx_dupr t149 d149_129)
theorem b149_130 {d : Nat} {S : mm_S} {a0 : Nat} {x1 : Int32} {x2 : Int32} {p0 : Nat} {p1 : Nat} (h0 : mm_obj S p0 12 = true) (h1 : mm_obj S p1 12 = true) : mm_ex d 149 130 [.ref a0, .int x1, .int x2] [.ref p0, .ref p1] S =
    mm_ex d 149 12 [.ref a0, .int (nI 1), .int x2] [] (mm_uM S p1 36 ((mm_M S p0 36) + (nI 1))) :=
  Eq.trans (mx_geti t149 d149_130 rfl fl12_187 h0) <|
  Eq.trans (mx_iconst t149 d149_133 (v := nI 1) rfl) <|
  Eq.trans (mx_iadd t149 d149_134) <|
  Eq.trans (mx_puti2 t149 d149_135 fl12_187 rfl h1) <|
  Eq.trans (mx_iconst t149 d149_138 (v := nI 1) rfl) <|
  Eq.trans (mx_istore_n t149 d149_139 (ls' := [.ref a0, .int (nI 1), .int x2]) rfl rfl) <|
  Eq.trans (mx_goto t149 d149_140 (tgt := 216) (by decide)) <|
  (mx_goto t149 d149_216 (tgt := 12) (by decide))
theorem b149_143 {d : Nat} {S : mm_S} {a0 : Nat} {x1 : Int32} {x2 : Int32} : mm_ex d 149 143 [.ref a0, .int x1, .int x2] [] S =
    if x2 = (nI 41) then mm_ex d 149 149 [.ref a0, .int x1, .int x2] [] S else mm_ex d 149 198 [.ref a0, .int x1, .int x2] [] S :=
  Eq.trans (mx_iload_n t149 d149_143 (x := x2) rfl) <|
  Eq.trans (mx_bipush t149 d149_144 (v := nI 41) rfl) <|
  (mx_cne t149 d149_146 (tgt := 198) (by decide))
theorem b149_149 {d : Nat} {S : mm_S} {a0 : Nat} {x1 : Int32} {x2 : Int32} (h0 : mm_obj S a0 12 = true) : mm_ex d 149 149 [.ref a0, .int x1, .int x2] [] S =
    if (mm_M S a0 40) ≤ nI 0 then mm_ex d 149 198 [.ref a0, .int x1, .int x2] [] S else mm_ex d 149 156 [.ref a0, .int x1, .int x2] [] S :=
  Eq.trans (mx_aload_n t149 d149_149 (x := a0) rfl) <|
  Eq.trans (mx_geti t149 d149_150 rfl fl12_212 h0) <|
  (mx_ile t149 d149_153 (tgt := 198) (by decide))
theorem b149_156 {d : Nat} {S : mm_S} {a0 : Nat} {x1 : Int32} {x2 : Int32} (h0 : mm_rk S a0 = 12) : mm_ex (d + 1) 149 156 [.ref a0, .int x1, .int x2] [] S =
    mm_bd (mm_cl d 147 [.ref a0, .int (nI 1)] S) (fun v S2 => mm_ex (d + 1) 149 161 [.ref a0, .int x1, .int x2] (v.toList ++ []) S2) :=
  Eq.trans (mx_aload_n t149 d149_156 (x := a0) rfl) <|
  Eq.trans (mx_iconst t149 d149_157 (v := nI 1) rfl) <|
  (mx_virt (st := []) (k := 12) t149 [.int (nI 1)] d149_158 vt12_225 rfl rfl (Nat.le_of_ble_eq_true rfl) (Nat.le_of_ble_eq_true rfl) h0)
theorem b149_161 {d : Nat} {S : mm_S} {a0 : Nat} {x1 : Int32} {x2 : Int32} (h0 : mm_obj S a0 12 = true) : mm_ex d 149 161 [.ref a0, .int x1, .int x2] [] S =
    mm_ex d 149 173 [.ref a0, .int x1, .int x2] [.ref a0, .ref a0] (mm_uM S a0 39 ((mm_M S a0 39) - (nI 1))) :=
  Eq.trans (mx_aload_n t149 d149_161 (x := a0) rfl) <|
  Eq.trans (mx_dupr t149 d149_162) <|
  Eq.trans (mx_geti t149 d149_163 rfl fl12_209 h0) <|
  Eq.trans (mx_iconst t149 d149_166 (v := nI 1) rfl) <|
  Eq.trans (mx_isub t149 d149_167) <|
  Eq.trans (mx_puti2 t149 d149_168 fl12_209 rfl h0) <|
  Eq.trans (mx_aload_n t149 d149_171 (x := a0) rfl) <|
  (mx_dupr t149 d149_172)
theorem b149_173 {d : Nat} {S : mm_S} {a0 : Nat} {x1 : Int32} {x2 : Int32} {p0 : Nat} {p1 : Nat} (h0 : mm_obj S p0 12 = true) (h1 : mm_obj S p1 12 = true) : mm_ex d 149 173 [.ref a0, .int x1, .int x2] [.ref p0, .ref p1] S =
    mm_ex d 149 183 [.ref a0, .int x1, .int x2] [.ref a0, .ref a0] (mm_uM S p1 40 ((mm_M S p0 40) - (nI 1))) :=
  Eq.trans (mx_geti t149 d149_173 rfl fl12_212 h0) <|
  Eq.trans (mx_iconst t149 d149_176 (v := nI 1) rfl) <|
  Eq.trans (mx_isub t149 d149_177) <|
  Eq.trans (mx_puti2 t149 d149_178 fl12_212 rfl h1) <|
  Eq.trans (mx_aload_n t149 d149_181 (x := a0) rfl) <|
  (mx_dupr t149 d149_182)
theorem b149_183 {d : Nat} {S : mm_S} {a0 : Nat} {x1 : Int32} {x2 : Int32} {p0 : Nat} {p1 : Nat} (h0 : mm_obj S p0 12 = true) (h1 : mm_obj S p1 12 = true) (h2 : mm_rk S a0 = 12) : mm_ex (d + 1) 149 183 [.ref a0, .int x1, .int x2] [.ref p0, .ref p1] S =
    mm_bd (mm_cl d 146 [.ref a0] (mm_uM S p1 36 ((mm_M S p0 36) + (nI 1)))) (fun v S2 => mm_ex (d + 1) 149 195 [.ref a0, .int x1, .int x2] (v.toList ++ []) S2) :=
  Eq.trans (mx_geti t149 d149_183 rfl fl12_187 h0) <|
  Eq.trans (mx_iconst t149 d149_186 (v := nI 1) rfl) <|
  Eq.trans (mx_iadd t149 d149_187) <|
  Eq.trans (mx_puti2 t149 d149_188 fl12_187 rfl h1) <|
  Eq.trans (mx_aload_n t149 d149_191 (x := a0) rfl) <|
  (mx_virt (st := []) (k := 12) t149 [] d149_192 vt12_222 rfl rfl (Nat.le_of_ble_eq_true rfl) (Nat.le_of_ble_eq_true rfl) h2)
theorem b149_195 {d : Nat} {S : mm_S} {a0 : Nat} {x1 : Int32} {x2 : Int32} : mm_ex d 149 195 [.ref a0, .int x1, .int x2] [] S =
    mm_ex d 149 12 [.ref a0, .int x1, .int x2] [] S :=
  Eq.trans (mx_goto t149 d149_195 (tgt := 216) (by decide)) <|
  (mx_goto t149 d149_216 (tgt := 12) (by decide))
theorem b149_198 {d : Nat} {S : mm_S} {a0 : Nat} {x1 : Int32} {x2 : Int32} (h0 : mm_rk S a0 = 12) : mm_ex (d + 1) 149 198 [.ref a0, .int x1, .int x2] [] S =
    mm_bd (mm_cl d 147 [.ref a0, .int (nI 1)] S) (fun v S2 => mm_ex (d + 1) 149 203 [.ref a0, .int x1, .int x2] (v.toList ++ []) S2) :=
  Eq.trans (mx_aload_n t149 d149_198 (x := a0) rfl) <|
  Eq.trans (mx_iconst t149 d149_199 (v := nI 1) rfl) <|
  (mx_virt (st := []) (k := 12) t149 [.int (nI 1)] d149_200 vt12_225 rfl rfl (Nat.le_of_ble_eq_true rfl) (Nat.le_of_ble_eq_true rfl) h0)
theorem b149_203 {d : Nat} {S : mm_S} {a0 : Nat} {x1 : Int32} {x2 : Int32} (h0 : mm_obj S a0 12 = true) : mm_ex d 149 203 [.ref a0, .int x1, .int x2] [] S =
    if (mm_M S a0 39) = nI 0 then mm_ex d 149 210 [.ref a0, .int x1, .int x2] [] S else mm_ex d 149 214 [.ref a0, .int x1, .int x2] [] S :=
  Eq.trans (mx_aload_n t149 d149_203 (x := a0) rfl) <|
  Eq.trans (mx_geti t149 d149_204 rfl fl12_209 h0) <|
  (mx_ine t149 d149_207 (tgt := 214) (by decide))
theorem b149_210 {d : Nat} {S : mm_S} {a0 : Nat} {x1 : Int32} {x2 : Int32} : mm_ex d 149 210 [.ref a0, .int x1, .int x2] [] S =
    some (some (.int (nI 1)), S) :=
  Eq.trans (mx_iconst t149 d149_210 (v := nI 1) rfl) <|
  Eq.trans (mx_goto t149 d149_211 (tgt := 215) (by decide)) <|
  (mx_iret t149 d149_215 (ty := .boolean) rfl rfl (fun h => nomatch h))
theorem b149_214 {d : Nat} {S : mm_S} {a0 : Nat} {x1 : Int32} {x2 : Int32} : mm_ex d 149 214 [.ref a0, .int x1, .int x2] [] S =
    some (some (.int (nI 0)), S) :=
  Eq.trans (mx_iconst t149 d149_214 (v := nI 0) rfl) <|
  (mx_iret t149 d149_215 (ty := .boolean) rfl rfl (fun h => nomatch h))
theorem b149_216 {d : Nat} {S : mm_S} {a0 : Nat} {x1 : Int32} {x2 : Int32} : mm_ex d 149 216 [.ref a0, .int x1, .int x2] [] S =
    mm_ex d 149 12 [.ref a0, .int x1, .int x2] [] S :=
  (mx_goto t149 d149_216 (tgt := 12) (by decide))
theorem e149 {d : Nat} {S : mm_S} {a0 : Nat} : mm_cl d 149 [.ref a0] S = mm_ex d 149 0 [.ref a0, .null, .null] [] S := mm_cl_eq t149 (Nat.le_of_ble_eq_true rfl) rfl
/-! X12_clauseRead -/
theorem dd150_0 : (decode prog_14_method_25_code 0 = .ok (.aload_n 0, 1)) ∧ (decode prog_14_method_25_code 1 = .ok (.invokevirtual 228, 3)) ∧ (decode prog_14_method_25_code 4 = .ok (.istore_n 1, 1)) ∧ (decode prog_14_method_25_code 5 = .ok (.iload_n 1, 1)) ∧ (decode prog_14_method_25_code 6 = .ok (.iconst (-1), 1)) ∧ (decode prog_14_method_25_code 7 = .ok (.if_icmp .eq 12, 3)) ∧ (decode prog_14_method_25_code 10 = .ok (.aload_n 0, 1)) ∧ (decode prog_14_method_25_code 11 = .ok (.bipush 32, 2)) ∧ (decode prog_14_method_25_code 13 = .ok (.invokevirtual 197, 3)) ∧ (decode prog_14_method_25_code 16 = .ok (.ifCond .ne 5, 3)) ∧ (decode prog_14_method_25_code 19 = .ok (.iconst 0, 1)) ∧ (decode prog_14_method_25_code 20 = .ok (.ireturn, 1)) ∧ (decode prog_14_method_25_code 21 = .ok (.aload_n 0, 1)) ∧ (decode prog_14_method_25_code 22 = .ok (.invokevirtual 203, 3)) ∧ (decode prog_14_method_25_code 25 = .ok (.istore_n 2, 1)) ∧ (decode prog_14_method_25_code 26 = .ok (.iload_n 2, 1)) := by decide +kernel
theorem d150_0 : decode prog_14_method_25_code 0 = .ok (.aload_n 0, 1) := dd150_0.1
theorem d150_1 : decode prog_14_method_25_code 1 = .ok (.invokevirtual 228, 3) := dd150_0.2.1
theorem d150_4 : decode prog_14_method_25_code 4 = .ok (.istore_n 1, 1) := dd150_0.2.2.1
theorem d150_5 : decode prog_14_method_25_code 5 = .ok (.iload_n 1, 1) := dd150_0.2.2.2.1
theorem d150_6 : decode prog_14_method_25_code 6 = .ok (.iconst (-1), 1) := dd150_0.2.2.2.2.1
theorem d150_7 : decode prog_14_method_25_code 7 = .ok (.if_icmp .eq 12, 3) := dd150_0.2.2.2.2.2.1
theorem d150_10 : decode prog_14_method_25_code 10 = .ok (.aload_n 0, 1) := dd150_0.2.2.2.2.2.2.1
theorem d150_11 : decode prog_14_method_25_code 11 = .ok (.bipush 32, 2) := dd150_0.2.2.2.2.2.2.2.1
theorem d150_13 : decode prog_14_method_25_code 13 = .ok (.invokevirtual 197, 3) := dd150_0.2.2.2.2.2.2.2.2.1
theorem d150_16 : decode prog_14_method_25_code 16 = .ok (.ifCond .ne 5, 3) := dd150_0.2.2.2.2.2.2.2.2.2.1
theorem d150_19 : decode prog_14_method_25_code 19 = .ok (.iconst 0, 1) := dd150_0.2.2.2.2.2.2.2.2.2.2.1
theorem d150_20 : decode prog_14_method_25_code 20 = .ok (.ireturn, 1) := dd150_0.2.2.2.2.2.2.2.2.2.2.2.1
theorem d150_21 : decode prog_14_method_25_code 21 = .ok (.aload_n 0, 1) := dd150_0.2.2.2.2.2.2.2.2.2.2.2.2.1
theorem d150_22 : decode prog_14_method_25_code 22 = .ok (.invokevirtual 203, 3) := dd150_0.2.2.2.2.2.2.2.2.2.2.2.2.2.1
theorem d150_25 : decode prog_14_method_25_code 25 = .ok (.istore_n 2, 1) := dd150_0.2.2.2.2.2.2.2.2.2.2.2.2.2.2.1
theorem d150_26 : decode prog_14_method_25_code 26 = .ok (.iload_n 2, 1) := dd150_0.2.2.2.2.2.2.2.2.2.2.2.2.2.2.2
theorem dd150_27 : (decode prog_14_method_25_code 27 = .ok (.iconst (-1), 1)) ∧ (decode prog_14_method_25_code 28 = .ok (.if_icmp .ne 5, 3)) ∧ (decode prog_14_method_25_code 31 = .ok (.iconst 0, 1)) ∧ (decode prog_14_method_25_code 32 = .ok (.ireturn, 1)) ∧ (decode prog_14_method_25_code 33 = .ok (.bipush 60, 2)) ∧ (decode prog_14_method_25_code 35 = .ok (.aload_n 0, 1)) ∧ (decode prog_14_method_25_code 36 = .ok (.getfield 49, 3)) ∧ (decode prog_14_method_25_code 39 = .ok (.bipush 6, 2)) ∧ (decode prog_14_method_25_code 41 = .ok (.iaload, 1)) ∧ (decode prog_14_method_25_code 42 = .ok (.iadd, 1)) ∧ (decode prog_14_method_25_code 43 = .ok (.istore_n 3, 1)) ∧ (decode prog_14_method_25_code 44 = .ok (.aload_n 0, 1)) ∧ (decode prog_14_method_25_code 45 = .ok (.getfield 52, 3)) ∧ (decode prog_14_method_25_code 48 = .ok (.iload_n 3, 1)) ∧ (decode prog_14_method_25_code 49 = .ok (.iload_n 1, 1)) ∧ (decode prog_14_method_25_code 50 = .ok (.iastore, 1)) := by decide +kernel
theorem d150_27 : decode prog_14_method_25_code 27 = .ok (.iconst (-1), 1) := dd150_27.1
theorem d150_28 : decode prog_14_method_25_code 28 = .ok (.if_icmp .ne 5, 3) := dd150_27.2.1
theorem d150_31 : decode prog_14_method_25_code 31 = .ok (.iconst 0, 1) := dd150_27.2.2.1
theorem d150_32 : decode prog_14_method_25_code 32 = .ok (.ireturn, 1) := dd150_27.2.2.2.1
theorem d150_33 : decode prog_14_method_25_code 33 = .ok (.bipush 60, 2) := dd150_27.2.2.2.2.1
theorem d150_35 : decode prog_14_method_25_code 35 = .ok (.aload_n 0, 1) := dd150_27.2.2.2.2.2.1
theorem d150_36 : decode prog_14_method_25_code 36 = .ok (.getfield 49, 3) := dd150_27.2.2.2.2.2.2.1
theorem d150_39 : decode prog_14_method_25_code 39 = .ok (.bipush 6, 2) := dd150_27.2.2.2.2.2.2.2.1
theorem d150_41 : decode prog_14_method_25_code 41 = .ok (.iaload, 1) := dd150_27.2.2.2.2.2.2.2.2.1
theorem d150_42 : decode prog_14_method_25_code 42 = .ok (.iadd, 1) := dd150_27.2.2.2.2.2.2.2.2.2.1
theorem d150_43 : decode prog_14_method_25_code 43 = .ok (.istore_n 3, 1) := dd150_27.2.2.2.2.2.2.2.2.2.2.1
theorem d150_44 : decode prog_14_method_25_code 44 = .ok (.aload_n 0, 1) := dd150_27.2.2.2.2.2.2.2.2.2.2.2.1
theorem d150_45 : decode prog_14_method_25_code 45 = .ok (.getfield 52, 3) := dd150_27.2.2.2.2.2.2.2.2.2.2.2.2.1
theorem d150_48 : decode prog_14_method_25_code 48 = .ok (.iload_n 3, 1) := dd150_27.2.2.2.2.2.2.2.2.2.2.2.2.2.1
theorem d150_49 : decode prog_14_method_25_code 49 = .ok (.iload_n 1, 1) := dd150_27.2.2.2.2.2.2.2.2.2.2.2.2.2.2.1
theorem d150_50 : decode prog_14_method_25_code 50 = .ok (.iastore, 1) := dd150_27.2.2.2.2.2.2.2.2.2.2.2.2.2.2.2
theorem dd150_51 : (decode prog_14_method_25_code 51 = .ok (.aload_n 0, 1)) ∧ (decode prog_14_method_25_code 52 = .ok (.getfield 55, 3)) ∧ (decode prog_14_method_25_code 55 = .ok (.iload_n 3, 1)) ∧ (decode prog_14_method_25_code 56 = .ok (.iload_n 2, 1)) ∧ (decode prog_14_method_25_code 57 = .ok (.iastore, 1)) ∧ (decode prog_14_method_25_code 58 = .ok (.aload_n 0, 1)) ∧ (decode prog_14_method_25_code 59 = .ok (.getfield 58, 3)) ∧ (decode prog_14_method_25_code 62 = .ok (.iload_n 3, 1)) ∧ (decode prog_14_method_25_code 63 = .ok (.aload_n 0, 1)) ∧ (decode prog_14_method_25_code 64 = .ok (.getfield 200, 3)) ∧ (decode prog_14_method_25_code 67 = .ok (.iastore, 1)) ∧ (decode prog_14_method_25_code 68 = .ok (.iload_n 1, 1)) ∧ (decode prog_14_method_25_code 69 = .ok (.iconst 2, 1)) ∧ (decode prog_14_method_25_code 70 = .ok (.if_icmp .ge 21, 3)) ∧ (decode prog_14_method_25_code 73 = .ok (.aload_n 0, 1)) ∧ (decode prog_14_method_25_code 74 = .ok (.bipush 32, 2)) := by decide +kernel
theorem d150_51 : decode prog_14_method_25_code 51 = .ok (.aload_n 0, 1) := dd150_51.1
theorem d150_52 : decode prog_14_method_25_code 52 = .ok (.getfield 55, 3) := dd150_51.2.1
theorem d150_55 : decode prog_14_method_25_code 55 = .ok (.iload_n 3, 1) := dd150_51.2.2.1
theorem d150_56 : decode prog_14_method_25_code 56 = .ok (.iload_n 2, 1) := dd150_51.2.2.2.1
theorem d150_57 : decode prog_14_method_25_code 57 = .ok (.iastore, 1) := dd150_51.2.2.2.2.1
theorem d150_58 : decode prog_14_method_25_code 58 = .ok (.aload_n 0, 1) := dd150_51.2.2.2.2.2.1
theorem d150_59 : decode prog_14_method_25_code 59 = .ok (.getfield 58, 3) := dd150_51.2.2.2.2.2.2.1
theorem d150_62 : decode prog_14_method_25_code 62 = .ok (.iload_n 3, 1) := dd150_51.2.2.2.2.2.2.2.1
theorem d150_63 : decode prog_14_method_25_code 63 = .ok (.aload_n 0, 1) := dd150_51.2.2.2.2.2.2.2.2.1
theorem d150_64 : decode prog_14_method_25_code 64 = .ok (.getfield 200, 3) := dd150_51.2.2.2.2.2.2.2.2.2.1
theorem d150_67 : decode prog_14_method_25_code 67 = .ok (.iastore, 1) := dd150_51.2.2.2.2.2.2.2.2.2.2.1
theorem d150_68 : decode prog_14_method_25_code 68 = .ok (.iload_n 1, 1) := dd150_51.2.2.2.2.2.2.2.2.2.2.2.1
theorem d150_69 : decode prog_14_method_25_code 69 = .ok (.iconst 2, 1) := dd150_51.2.2.2.2.2.2.2.2.2.2.2.2.1
theorem d150_70 : decode prog_14_method_25_code 70 = .ok (.if_icmp .ge 21, 3) := dd150_51.2.2.2.2.2.2.2.2.2.2.2.2.2.1
theorem d150_73 : decode prog_14_method_25_code 73 = .ok (.aload_n 0, 1) := dd150_51.2.2.2.2.2.2.2.2.2.2.2.2.2.2.1
theorem d150_74 : decode prog_14_method_25_code 74 = .ok (.bipush 32, 2) := dd150_51.2.2.2.2.2.2.2.2.2.2.2.2.2.2.2
theorem dd150_76 : (decode prog_14_method_25_code 76 = .ok (.invokevirtual 197, 3)) ∧ (decode prog_14_method_25_code 79 = .ok (.ifCond .eq 10, 3)) ∧ (decode prog_14_method_25_code 82 = .ok (.aload_n 0, 1)) ∧ (decode prog_14_method_25_code 83 = .ok (.invokevirtual 231, 3)) ∧ (decode prog_14_method_25_code 86 = .ok (.ifCond .ne 5, 3)) ∧ (decode prog_14_method_25_code 89 = .ok (.iconst 0, 1)) ∧ (decode prog_14_method_25_code 90 = .ok (.ireturn, 1)) ∧ (decode prog_14_method_25_code 91 = .ok (.aload_n 0, 1)) ∧ (decode prog_14_method_25_code 92 = .ok (.getfield 61, 3)) ∧ (decode prog_14_method_25_code 95 = .ok (.iload_n 3, 1)) ∧ (decode prog_14_method_25_code 96 = .ok (.aload_n 0, 1)) ∧ (decode prog_14_method_25_code 97 = .ok (.getfield 200, 3)) ∧ (decode prog_14_method_25_code 100 = .ok (.iastore, 1)) ∧ (decode prog_14_method_25_code 101 = .ok (.aload_n 0, 1)) ∧ (decode prog_14_method_25_code 102 = .ok (.getfield 49, 3)) ∧ (decode prog_14_method_25_code 105 = .ok (.bipush 6, 2)) := by decide +kernel
theorem d150_76 : decode prog_14_method_25_code 76 = .ok (.invokevirtual 197, 3) := dd150_76.1
theorem d150_79 : decode prog_14_method_25_code 79 = .ok (.ifCond .eq 10, 3) := dd150_76.2.1
theorem d150_82 : decode prog_14_method_25_code 82 = .ok (.aload_n 0, 1) := dd150_76.2.2.1
theorem d150_83 : decode prog_14_method_25_code 83 = .ok (.invokevirtual 231, 3) := dd150_76.2.2.2.1
theorem d150_86 : decode prog_14_method_25_code 86 = .ok (.ifCond .ne 5, 3) := dd150_76.2.2.2.2.1
theorem d150_89 : decode prog_14_method_25_code 89 = .ok (.iconst 0, 1) := dd150_76.2.2.2.2.2.1
theorem d150_90 : decode prog_14_method_25_code 90 = .ok (.ireturn, 1) := dd150_76.2.2.2.2.2.2.1
theorem d150_91 : decode prog_14_method_25_code 91 = .ok (.aload_n 0, 1) := dd150_76.2.2.2.2.2.2.2.1
theorem d150_92 : decode prog_14_method_25_code 92 = .ok (.getfield 61, 3) := dd150_76.2.2.2.2.2.2.2.2.1
theorem d150_95 : decode prog_14_method_25_code 95 = .ok (.iload_n 3, 1) := dd150_76.2.2.2.2.2.2.2.2.2.1
theorem d150_96 : decode prog_14_method_25_code 96 = .ok (.aload_n 0, 1) := dd150_76.2.2.2.2.2.2.2.2.2.2.1
theorem d150_97 : decode prog_14_method_25_code 97 = .ok (.getfield 200, 3) := dd150_76.2.2.2.2.2.2.2.2.2.2.2.1
theorem d150_100 : decode prog_14_method_25_code 100 = .ok (.iastore, 1) := dd150_76.2.2.2.2.2.2.2.2.2.2.2.2.1
theorem d150_101 : decode prog_14_method_25_code 101 = .ok (.aload_n 0, 1) := dd150_76.2.2.2.2.2.2.2.2.2.2.2.2.2.1
theorem d150_102 : decode prog_14_method_25_code 102 = .ok (.getfield 49, 3) := dd150_76.2.2.2.2.2.2.2.2.2.2.2.2.2.2.1
theorem d150_105 : decode prog_14_method_25_code 105 = .ok (.bipush 6, 2) := dd150_76.2.2.2.2.2.2.2.2.2.2.2.2.2.2.2
theorem dd150_107 : (decode prog_14_method_25_code 107 = .ok (.dup2, 1)) ∧ (decode prog_14_method_25_code 108 = .ok (.iaload, 1)) ∧ (decode prog_14_method_25_code 109 = .ok (.iconst 1, 1)) ∧ (decode prog_14_method_25_code 110 = .ok (.iadd, 1)) ∧ (decode prog_14_method_25_code 111 = .ok (.iastore, 1)) ∧ (decode prog_14_method_25_code 112 = .ok (.iconst 1, 1)) ∧ (decode prog_14_method_25_code 113 = .ok (.ireturn, 1)) := by decide +kernel
theorem d150_107 : decode prog_14_method_25_code 107 = .ok (.dup2, 1) := dd150_107.1
theorem d150_108 : decode prog_14_method_25_code 108 = .ok (.iaload, 1) := dd150_107.2.1
theorem d150_109 : decode prog_14_method_25_code 109 = .ok (.iconst 1, 1) := dd150_107.2.2.1
theorem d150_110 : decode prog_14_method_25_code 110 = .ok (.iadd, 1) := dd150_107.2.2.2.1
theorem d150_111 : decode prog_14_method_25_code 111 = .ok (.iastore, 1) := dd150_107.2.2.2.2.1
theorem d150_112 : decode prog_14_method_25_code 112 = .ok (.iconst 1, 1) := dd150_107.2.2.2.2.2.1
theorem d150_113 : decode prog_14_method_25_code 113 = .ok (.ireturn, 1) := dd150_107.2.2.2.2.2.2
theorem b150_0 {d : Nat} {S : mm_S} {a0 : Nat} (h0 : mm_rk S a0 = 12) : mm_ex (d + 1) 150 0 [.ref a0, .null, .null, .null] [] S =
    mm_bd (mm_cl d 143 [.ref a0] S) (fun v S2 => mm_ex (d + 1) 150 4 [.ref a0, .null, .null, .null] (v.toList ++ []) S2) :=
  Eq.trans (mx_aload_n t150 d150_0 (x := a0) rfl) <|
  (mx_virt (st := []) (k := 12) t150 [] d150_1 vt12_228 rfl rfl (Nat.le_of_ble_eq_true rfl) (Nat.le_of_ble_eq_true rfl) h0)
theorem b150_4 {d : Nat} {S : mm_S} {a0 : Nat} {p0 : Int32} : mm_ex d 150 4 [.ref a0, .null, .null, .null] [.int p0] S =
    if p0 = (-1) then mm_ex d 150 19 [.ref a0, .int p0, .null, .null] [] S else mm_ex d 150 10 [.ref a0, .int p0, .null, .null] [] S :=
  Eq.trans (mx_istore_n t150 d150_4 (ls' := [.ref a0, .int p0, .null, .null]) rfl rfl) <|
  Eq.trans (mx_iload_n t150 d150_5 (x := p0) rfl) <|
  Eq.trans (mx_iconst t150 d150_6 (v := -1) rfl) <|
  (mx_ceq t150 d150_7 (tgt := 19) (by decide))
theorem b150_10 {d : Nat} {S : mm_S} {a0 : Nat} {x1 : Int32} (h0 : mm_rk S a0 = 12) : mm_ex (d + 1) 150 10 [.ref a0, .int x1, .null, .null] [] S =
    mm_bd (mm_cl d 141 [.ref a0, .int (nI 32)] S) (fun v S2 => mm_ex (d + 1) 150 16 [.ref a0, .int x1, .null, .null] (v.toList ++ []) S2) :=
  Eq.trans (mx_aload_n t150 d150_10 (x := a0) rfl) <|
  Eq.trans (mx_bipush t150 d150_11 (v := nI 32) rfl) <|
  (mx_virt (st := []) (k := 12) t150 [.int (nI 32)] d150_13 vt12_197 rfl rfl (Nat.le_of_ble_eq_true rfl) (Nat.le_of_ble_eq_true rfl) h0)
theorem b150_16 {d : Nat} {S : mm_S} {a0 : Nat} {x1 : Int32} {p0 : Int32} : mm_ex d 150 16 [.ref a0, .int x1, .null, .null] [.int p0] S =
    if p0 = nI 0 then mm_ex d 150 19 [.ref a0, .int x1, .null, .null] [] S else mm_ex d 150 21 [.ref a0, .int x1, .null, .null] [] S :=
  (mx_ine t150 d150_16 (tgt := 21) (by decide))
theorem b150_19 {d : Nat} {S : mm_S} {a0 : Nat} {x1 : Int32} : mm_ex d 150 19 [.ref a0, .int x1, .null, .null] [] S =
    some (some (.int (nI 0)), S) :=
  Eq.trans (mx_iconst t150 d150_19 (v := nI 0) rfl) <|
  (mx_iret t150 d150_20 (ty := .boolean) rfl rfl (fun h => nomatch h))
theorem b150_21 {d : Nat} {S : mm_S} {a0 : Nat} {x1 : Int32} (h0 : mm_rk S a0 = 12) : mm_ex (d + 1) 150 21 [.ref a0, .int x1, .null, .null] [] S =
    mm_bd (mm_cl d 142 [.ref a0] S) (fun v S2 => mm_ex (d + 1) 150 25 [.ref a0, .int x1, .null, .null] (v.toList ++ []) S2) :=
  Eq.trans (mx_aload_n t150 d150_21 (x := a0) rfl) <|
  (mx_virt (st := []) (k := 12) t150 [] d150_22 vt12_203 rfl rfl (Nat.le_of_ble_eq_true rfl) (Nat.le_of_ble_eq_true rfl) h0)
theorem b150_25 {d : Nat} {S : mm_S} {a0 : Nat} {x1 : Int32} {p0 : Int32} : mm_ex d 150 25 [.ref a0, .int x1, .null, .null] [.int p0] S =
    if p0 = (-1) then mm_ex d 150 31 [.ref a0, .int x1, .int p0, .null] [] S else mm_ex d 150 33 [.ref a0, .int x1, .int p0, .null] [] S :=
  Eq.trans (mx_istore_n t150 d150_25 (ls' := [.ref a0, .int x1, .int p0, .null]) rfl rfl) <|
  Eq.trans (mx_iload_n t150 d150_26 (x := p0) rfl) <|
  Eq.trans (mx_iconst t150 d150_27 (v := -1) rfl) <|
  (mx_cne t150 d150_28 (tgt := 33) (by decide))
theorem b150_31 {d : Nat} {S : mm_S} {a0 : Nat} {x1 : Int32} {x2 : Int32} : mm_ex d 150 31 [.ref a0, .int x1, .int x2, .null] [] S =
    some (some (.int (nI 0)), S) :=
  Eq.trans (mx_iconst t150 d150_31 (v := nI 0) rfl) <|
  (mx_iret t150 d150_32 (ty := .boolean) rfl rfl (fun h => nomatch h))
theorem b150_33 {d : Nat} {S : mm_S} {a0 : Nat} {x1 : Int32} {x2 : Int32} (h0 : mm_obj S a0 12 = true) (h1 : (mm_R S a0 19).isSome = true) (h2 : mm_inb (nI 6) (mm_N S (mm_rg S a0 19)) = true) (h3 : mm_arr S (mm_rg S a0 19) 13 = true) (h4 : (mm_R S a0 20).isSome = true) (h5 : mm_arr S (mm_rg S a0 20) 13 = true) (h6 : mm_inb ((nI 60) + (mm_M S (mm_rg S a0 19) (nI 6).toNatClampNeg)) (mm_N S (mm_rg S a0 20)) = true) (h7 : (mm_R S a0 21).isSome = true) (h8 : mm_arr S (mm_rg S a0 21) 13 = true) (h9 : mm_inb ((nI 60) + (mm_M S (mm_rg S a0 19) (nI 6).toNatClampNeg)) (mm_N S (mm_rg S a0 21)) = true) (h10 : (mm_R S a0 22).isSome = true) : mm_ex d 150 33 [.ref a0, .int x1, .int x2, .null] [] S =
    mm_ex d 150 64 [.ref a0, .int x1, .int x2, .int ((nI 60) + (mm_M S (mm_rg S a0 19) (nI 6).toNatClampNeg))] [.ref a0, .int ((nI 60) + (mm_M S (mm_rg S a0 19) (nI 6).toNatClampNeg)), .ref (mm_rg S a0 22)] (mm_uM (mm_uM S (mm_rg S a0 20) ((nI 60) + (mm_M S (mm_rg S a0 19) (nI 6).toNatClampNeg)).toNatClampNeg x1) (mm_rg S a0 21) ((nI 60) + (mm_M S (mm_rg S a0 19) (nI 6).toNatClampNeg)).toNatClampNeg x2) :=
  Eq.trans (mx_bipush t150 d150_33 (v := nI 60) rfl) <|
  Eq.trans (mx_aload_n t150 d150_35 (x := a0) rfl) <|
  Eq.trans (mx_getR t150 d150_36 rfl fl12_49 h0 h1) <|
  Eq.trans (mx_bipush t150 d150_39 (v := nI 6) rfl) <|
  Eq.trans (mx_iald t150 d150_41 h3 h2) <|
  Eq.trans (mx_iadd t150 d150_42) <|
  Eq.trans (mx_istore_n t150 d150_43 (ls' := [.ref a0, .int x1, .int x2, .int ((nI 60) + (mm_M S (mm_rg S a0 19) (nI 6).toNatClampNeg))]) rfl rfl) <|
  Eq.trans (mx_aload_n t150 d150_44 (x := a0) rfl) <|
  Eq.trans (mx_getR t150 d150_45 rfl fl12_52 h0 h4) <|
  Eq.trans (mx_iload_n t150 d150_48 (x := (nI 60) + (mm_M S (mm_rg S a0 19) (nI 6).toNatClampNeg)) rfl) <|
  Eq.trans (mx_iload_n t150 d150_49 (x := x1) rfl) <|
  Eq.trans (mx_iast2 t150 d150_50 h5 h6) <|
  Eq.trans (mx_aload_n t150 d150_51 (x := a0) rfl) <|
  Eq.trans (mx_getR t150 d150_52 rfl fl12_55 h0 h7) <|
  Eq.trans (mx_iload_n t150 d150_55 (x := (nI 60) + (mm_M S (mm_rg S a0 19) (nI 6).toNatClampNeg)) rfl) <|
  Eq.trans (mx_iload_n t150 d150_56 (x := x2) rfl) <|
  Eq.trans (mx_iast2 t150 d150_57 h8 h9) <|
  Eq.trans (mx_aload_n t150 d150_58 (x := a0) rfl) <|
  Eq.trans (mx_getR t150 d150_59 rfl fl12_58 h0 h10) <|
  Eq.trans (mx_iload_n t150 d150_62 (x := (nI 60) + (mm_M S (mm_rg S a0 19) (nI 6).toNatClampNeg)) rfl) <|
  (mx_aload_n t150 d150_63 (x := a0) rfl)
theorem b150_64 {d : Nat} {S : mm_S} {a0 : Nat} {x1 : Int32} {x2 : Int32} {x3 : Int32} {p0 : Nat} {p1 : Int32} {p2 : Nat} (h0 : mm_obj S p0 12 = true) (h1 : mm_arr S p2 13 = true) (h2 : mm_inb p1 (mm_N S p2) = true) : mm_ex d 150 64 [.ref a0, .int x1, .int x2, .int x3] [.ref p0, .int p1, .ref p2] S =
    if (nI 2) ≤ x1 then mm_ex d 150 91 [.ref a0, .int x1, .int x2, .int x3] [] (mm_uM S p2 (p1).toNatClampNeg (mm_M S p0 37)) else mm_ex d 150 73 [.ref a0, .int x1, .int x2, .int x3] [] (mm_uM S p2 (p1).toNatClampNeg (mm_M S p0 37)) :=
  Eq.trans (mx_geti t150 d150_64 rfl fl12_200 h0) <|
  Eq.trans (mx_iast2 t150 d150_67 h1 h2) <|
  Eq.trans (mx_iload_n t150 d150_68 (x := x1) rfl) <|
  Eq.trans (mx_iconst t150 d150_69 (v := nI 2) rfl) <|
  (mx_cge t150 d150_70 (tgt := 91) (by decide))
theorem b150_73 {d : Nat} {S : mm_S} {a0 : Nat} {x1 : Int32} {x2 : Int32} {x3 : Int32} (h0 : mm_rk S a0 = 12) : mm_ex (d + 1) 150 73 [.ref a0, .int x1, .int x2, .int x3] [] S =
    mm_bd (mm_cl d 141 [.ref a0, .int (nI 32)] S) (fun v S2 => mm_ex (d + 1) 150 79 [.ref a0, .int x1, .int x2, .int x3] (v.toList ++ []) S2) :=
  Eq.trans (mx_aload_n t150 d150_73 (x := a0) rfl) <|
  Eq.trans (mx_bipush t150 d150_74 (v := nI 32) rfl) <|
  (mx_virt (st := []) (k := 12) t150 [.int (nI 32)] d150_76 vt12_197 rfl rfl (Nat.le_of_ble_eq_true rfl) (Nat.le_of_ble_eq_true rfl) h0)
theorem b150_79 {d : Nat} {S : mm_S} {a0 : Nat} {x1 : Int32} {x2 : Int32} {x3 : Int32} {p0 : Int32} : mm_ex d 150 79 [.ref a0, .int x1, .int x2, .int x3] [.int p0] S =
    if p0 = nI 0 then mm_ex d 150 89 [.ref a0, .int x1, .int x2, .int x3] [] S else mm_ex d 150 82 [.ref a0, .int x1, .int x2, .int x3] [] S :=
  (mx_ieq t150 d150_79 (tgt := 89) (by decide))
theorem b150_82 {d : Nat} {S : mm_S} {a0 : Nat} {x1 : Int32} {x2 : Int32} {x3 : Int32} (h0 : mm_rk S a0 = 12) : mm_ex (d + 1) 150 82 [.ref a0, .int x1, .int x2, .int x3] [] S =
    mm_bd (mm_cl d 149 [.ref a0] S) (fun v S2 => mm_ex (d + 1) 150 86 [.ref a0, .int x1, .int x2, .int x3] (v.toList ++ []) S2) :=
  Eq.trans (mx_aload_n t150 d150_82 (x := a0) rfl) <|
  (mx_virt (st := []) (k := 12) t150 [] d150_83 vt12_231 rfl rfl (Nat.le_of_ble_eq_true rfl) (Nat.le_of_ble_eq_true rfl) h0)
theorem b150_86 {d : Nat} {S : mm_S} {a0 : Nat} {x1 : Int32} {x2 : Int32} {x3 : Int32} {p0 : Int32} : mm_ex d 150 86 [.ref a0, .int x1, .int x2, .int x3] [.int p0] S =
    if p0 = nI 0 then mm_ex d 150 89 [.ref a0, .int x1, .int x2, .int x3] [] S else mm_ex d 150 91 [.ref a0, .int x1, .int x2, .int x3] [] S :=
  (mx_ine t150 d150_86 (tgt := 91) (by decide))
theorem b150_89 {d : Nat} {S : mm_S} {a0 : Nat} {x1 : Int32} {x2 : Int32} {x3 : Int32} : mm_ex d 150 89 [.ref a0, .int x1, .int x2, .int x3] [] S =
    some (some (.int (nI 0)), S) :=
  Eq.trans (mx_iconst t150 d150_89 (v := nI 0) rfl) <|
  (mx_iret t150 d150_90 (ty := .boolean) rfl rfl (fun h => nomatch h))
theorem b150_91 {d : Nat} {S : mm_S} {a0 : Nat} {x1 : Int32} {x2 : Int32} {x3 : Int32} (h0 : mm_obj S a0 12 = true) (h1 : (mm_R S a0 23).isSome = true) (h2 : mm_arr S (mm_rg S a0 23) 13 = true) (h3 : mm_inb x3 (mm_N S (mm_rg S a0 23)) = true) (h4 : (mm_R S a0 19).isSome = true) : mm_ex d 150 91 [.ref a0, .int x1, .int x2, .int x3] [] S =
    mm_ex d 150 108 [.ref a0, .int x1, .int x2, .int x3] [.int (nI 6), .ref (mm_rg S a0 19), .int (nI 6), .ref (mm_rg S a0 19)] (mm_uM S (mm_rg S a0 23) (x3).toNatClampNeg (mm_M S a0 37)) :=
  Eq.trans (mx_aload_n t150 d150_91 (x := a0) rfl) <|
  Eq.trans (mx_getR t150 d150_92 rfl fl12_61 h0 h1) <|
  Eq.trans (mx_iload_n t150 d150_95 (x := x3) rfl) <|
  Eq.trans (mx_aload_n t150 d150_96 (x := a0) rfl) <|
  Eq.trans (mx_geti t150 d150_97 rfl fl12_200 h0) <|
  Eq.trans (mx_iast2 t150 d150_100 h2 h3) <|
  Eq.trans (mx_aload_n t150 d150_101 (x := a0) rfl) <|
  Eq.trans (mx_getR t150 d150_102 rfl fl12_49 h0 h4) <|
  Eq.trans (mx_bipush t150 d150_105 (v := nI 6) rfl) <|
  (mx_dup2i t150 d150_107)
theorem b150_108 {d : Nat} {S : mm_S} {a0 : Nat} {x1 : Int32} {x2 : Int32} {x3 : Int32} {p0 : Int32} {p1 : Nat} {p2 : Int32} {p3 : Nat} (h0 : mm_inb p0 (mm_N S p1) = true) (h1 : mm_arr S p1 13 = true) (h2 : mm_arr S p3 13 = true) (h3 : mm_inb p2 (mm_N S p3) = true) : mm_ex d 150 108 [.ref a0, .int x1, .int x2, .int x3] [.int p0, .ref p1, .int p2, .ref p3] S =
    some (some (.int (nI 1)), (mm_uM S p3 (p2).toNatClampNeg ((mm_M S p1 (p0).toNatClampNeg) + (nI 1)))) :=
  Eq.trans (mx_iald t150 d150_108 h1 h0) <|
  Eq.trans (mx_iconst t150 d150_109 (v := nI 1) rfl) <|
  Eq.trans (mx_iadd t150 d150_110) <|
  Eq.trans (mx_iast2 t150 d150_111 h2 h3) <|
  Eq.trans (mx_iconst t150 d150_112 (v := nI 1) rfl) <|
  (mx_iret t150 d150_113 (ty := .boolean) rfl rfl (fun h => nomatch h))
theorem e150 {d : Nat} {S : mm_S} {a0 : Nat} : mm_cl d 150 [.ref a0] S = mm_ex d 150 0 [.ref a0, .null, .null, .null] [] S := mm_cl_eq t150 (Nat.le_of_ble_eq_true rfl) rfl
/-! X12_shopRead -/
theorem dd151_0 : (decode prog_14_method_26_code 0 = .ok (.aload_n 0, 1)) ∧ (decode prog_14_method_26_code 1 = .ok (.iconst 0, 1)) ∧ (decode prog_14_method_26_code 2 = .ok (.putfield 187, 3)) ∧ (decode prog_14_method_26_code 5 = .ok (.aload_n 0, 1)) ∧ (decode prog_14_method_26_code 6 = .ok (.iconst 0, 1)) ∧ (decode prog_14_method_26_code 7 = .ok (.putfield 200, 3)) ∧ (decode prog_14_method_26_code 10 = .ok (.aload_n 0, 1)) ∧ (decode prog_14_method_26_code 11 = .ok (.getfield 49, 3)) ∧ (decode prog_14_method_26_code 14 = .ok (.bipush 6, 2)) ∧ (decode prog_14_method_26_code 16 = .ok (.iconst 0, 1)) ∧ (decode prog_14_method_26_code 17 = .ok (.iastore, 1)) ∧ (decode prog_14_method_26_code 18 = .ok (.aload_n 0, 1)) ∧ (decode prog_14_method_26_code 19 = .ok (.invokevirtual 234, 3)) ∧ (decode prog_14_method_26_code 22 = .ok (.ifCond .ne 8, 3)) ∧ (decode prog_14_method_26_code 25 = .ok (.aload_n 0, 1)) ∧ (decode prog_14_method_26_code 26 = .ok (.getfield 187, 3)) := by decide +kernel
theorem d151_0 : decode prog_14_method_26_code 0 = .ok (.aload_n 0, 1) := dd151_0.1
theorem d151_1 : decode prog_14_method_26_code 1 = .ok (.iconst 0, 1) := dd151_0.2.1
theorem d151_2 : decode prog_14_method_26_code 2 = .ok (.putfield 187, 3) := dd151_0.2.2.1
theorem d151_5 : decode prog_14_method_26_code 5 = .ok (.aload_n 0, 1) := dd151_0.2.2.2.1
theorem d151_6 : decode prog_14_method_26_code 6 = .ok (.iconst 0, 1) := dd151_0.2.2.2.2.1
theorem d151_7 : decode prog_14_method_26_code 7 = .ok (.putfield 200, 3) := dd151_0.2.2.2.2.2.1
theorem d151_10 : decode prog_14_method_26_code 10 = .ok (.aload_n 0, 1) := dd151_0.2.2.2.2.2.2.1
theorem d151_11 : decode prog_14_method_26_code 11 = .ok (.getfield 49, 3) := dd151_0.2.2.2.2.2.2.2.1
theorem d151_14 : decode prog_14_method_26_code 14 = .ok (.bipush 6, 2) := dd151_0.2.2.2.2.2.2.2.2.1
theorem d151_16 : decode prog_14_method_26_code 16 = .ok (.iconst 0, 1) := dd151_0.2.2.2.2.2.2.2.2.2.1
theorem d151_17 : decode prog_14_method_26_code 17 = .ok (.iastore, 1) := dd151_0.2.2.2.2.2.2.2.2.2.2.1
theorem d151_18 : decode prog_14_method_26_code 18 = .ok (.aload_n 0, 1) := dd151_0.2.2.2.2.2.2.2.2.2.2.2.1
theorem d151_19 : decode prog_14_method_26_code 19 = .ok (.invokevirtual 234, 3) := dd151_0.2.2.2.2.2.2.2.2.2.2.2.2.1
theorem d151_22 : decode prog_14_method_26_code 22 = .ok (.ifCond .ne 8, 3) := dd151_0.2.2.2.2.2.2.2.2.2.2.2.2.2.1
theorem d151_25 : decode prog_14_method_26_code 25 = .ok (.aload_n 0, 1) := dd151_0.2.2.2.2.2.2.2.2.2.2.2.2.2.2.1
theorem d151_26 : decode prog_14_method_26_code 26 = .ok (.getfield 187, 3) := dd151_0.2.2.2.2.2.2.2.2.2.2.2.2.2.2.2
theorem dd151_29 : (decode prog_14_method_26_code 29 = .ok (.ireturn, 1)) ∧ (decode prog_14_method_26_code 30 = .ok (.aload_n 0, 1)) ∧ (decode prog_14_method_26_code 31 = .ok (.getfield 187, 3)) ∧ (decode prog_14_method_26_code 34 = .ok (.aload_n 0, 1)) ∧ (decode prog_14_method_26_code 35 = .ok (.getfield 184, 3)) ∧ (decode prog_14_method_26_code 38 = .ok (.if_icmp .ne 5, 3)) ∧ (decode prog_14_method_26_code 41 = .ok (.iconst (-1), 1)) ∧ (decode prog_14_method_26_code 42 = .ok (.ireturn, 1)) ∧ (decode prog_14_method_26_code 43 = .ok (.aload_n 0, 1)) ∧ (decode prog_14_method_26_code 44 = .ok (.getfield 49, 3)) ∧ (decode prog_14_method_26_code 47 = .ok (.bipush 6, 2)) ∧ (decode prog_14_method_26_code 49 = .ok (.iaload, 1)) ∧ (decode prog_14_method_26_code 50 = .ok (.bipush 10, 2)) ∧ (decode prog_14_method_26_code 52 = .ok (.if_icmp .eq 12, 3)) ∧ (decode prog_14_method_26_code 55 = .ok (.aload_n 0, 1)) ∧ (decode prog_14_method_26_code 56 = .ok (.bipush 59, 2)) := by decide +kernel
theorem d151_29 : decode prog_14_method_26_code 29 = .ok (.ireturn, 1) := dd151_29.1
theorem d151_30 : decode prog_14_method_26_code 30 = .ok (.aload_n 0, 1) := dd151_29.2.1
theorem d151_31 : decode prog_14_method_26_code 31 = .ok (.getfield 187, 3) := dd151_29.2.2.1
theorem d151_34 : decode prog_14_method_26_code 34 = .ok (.aload_n 0, 1) := dd151_29.2.2.2.1
theorem d151_35 : decode prog_14_method_26_code 35 = .ok (.getfield 184, 3) := dd151_29.2.2.2.2.1
theorem d151_38 : decode prog_14_method_26_code 38 = .ok (.if_icmp .ne 5, 3) := dd151_29.2.2.2.2.2.1
theorem d151_41 : decode prog_14_method_26_code 41 = .ok (.iconst (-1), 1) := dd151_29.2.2.2.2.2.2.1
theorem d151_42 : decode prog_14_method_26_code 42 = .ok (.ireturn, 1) := dd151_29.2.2.2.2.2.2.2.1
theorem d151_43 : decode prog_14_method_26_code 43 = .ok (.aload_n 0, 1) := dd151_29.2.2.2.2.2.2.2.2.1
theorem d151_44 : decode prog_14_method_26_code 44 = .ok (.getfield 49, 3) := dd151_29.2.2.2.2.2.2.2.2.2.1
theorem d151_47 : decode prog_14_method_26_code 47 = .ok (.bipush 6, 2) := dd151_29.2.2.2.2.2.2.2.2.2.2.1
theorem d151_49 : decode prog_14_method_26_code 49 = .ok (.iaload, 1) := dd151_29.2.2.2.2.2.2.2.2.2.2.2.1
theorem d151_50 : decode prog_14_method_26_code 50 = .ok (.bipush 10, 2) := dd151_29.2.2.2.2.2.2.2.2.2.2.2.2.1
theorem d151_52 : decode prog_14_method_26_code 52 = .ok (.if_icmp .eq 12, 3) := dd151_29.2.2.2.2.2.2.2.2.2.2.2.2.2.1
theorem d151_55 : decode prog_14_method_26_code 55 = .ok (.aload_n 0, 1) := dd151_29.2.2.2.2.2.2.2.2.2.2.2.2.2.2.1
theorem d151_56 : decode prog_14_method_26_code 56 = .ok (.bipush 59, 2) := dd151_29.2.2.2.2.2.2.2.2.2.2.2.2.2.2.2
theorem dd151_58 : (decode prog_14_method_26_code 58 = .ok (.invokevirtual 197, 3)) ∧ (decode prog_14_method_26_code 61 = .ok (.ifCond .ne (-43), 3)) ∧ (decode prog_14_method_26_code 64 = .ok (.aload_n 0, 1)) ∧ (decode prog_14_method_26_code 65 = .ok (.getfield 187, 3)) ∧ (decode prog_14_method_26_code 68 = .ok (.ireturn, 1)) := by decide +kernel
theorem d151_58 : decode prog_14_method_26_code 58 = .ok (.invokevirtual 197, 3) := dd151_58.1
theorem d151_61 : decode prog_14_method_26_code 61 = .ok (.ifCond .ne (-43), 3) := dd151_58.2.1
theorem d151_64 : decode prog_14_method_26_code 64 = .ok (.aload_n 0, 1) := dd151_58.2.2.1
theorem d151_65 : decode prog_14_method_26_code 65 = .ok (.getfield 187, 3) := dd151_58.2.2.2.1
theorem d151_68 : decode prog_14_method_26_code 68 = .ok (.ireturn, 1) := dd151_58.2.2.2.2
theorem b151_0 {d : Nat} {S : mm_S} {a0 : Nat} (h0 : mm_obj S a0 12 = true) (h1 : (mm_R S a0 19).isSome = true) (h2 : mm_arr S (mm_rg S a0 19) 13 = true) (h3 : mm_inb (nI 6) (mm_N S (mm_rg S a0 19)) = true) : mm_ex d 151 0 [.ref a0] [] S =
    mm_ex d 151 18 [.ref a0] [] (mm_uM (mm_uM (mm_uM S a0 36 (nI 0)) a0 37 (nI 0)) (mm_rg S a0 19) (nI 6).toNatClampNeg (nI 0)) :=
  Eq.trans (mx_aload_n t151 d151_0 (x := a0) rfl) <|
  Eq.trans (mx_iconst t151 d151_1 (v := nI 0) rfl) <|
  Eq.trans (mx_puti2 t151 d151_2 fl12_187 rfl h0) <|
  Eq.trans (mx_aload_n t151 d151_5 (x := a0) rfl) <|
  Eq.trans (mx_iconst t151 d151_6 (v := nI 0) rfl) <|
  Eq.trans (mx_puti2 t151 d151_7 fl12_200 rfl h0) <|
  Eq.trans (mx_aload_n t151 d151_10 (x := a0) rfl) <|
  Eq.trans (mx_getR t151 d151_11 rfl fl12_49 h0 h1) <|
  Eq.trans (mx_bipush t151 d151_14 (v := nI 6) rfl) <|
  Eq.trans (mx_iconst t151 d151_16 (v := nI 0) rfl) <|
  (mx_iast2 t151 d151_17 h2 h3)
theorem b151_18 {d : Nat} {S : mm_S} {a0 : Nat} (h0 : mm_rk S a0 = 12) : mm_ex (d + 1) 151 18 [.ref a0] [] S =
    mm_bd (mm_cl d 150 [.ref a0] S) (fun v S2 => mm_ex (d + 1) 151 22 [.ref a0] (v.toList ++ []) S2) :=
  Eq.trans (mx_aload_n t151 d151_18 (x := a0) rfl) <|
  (mx_virt (st := []) (k := 12) t151 [] d151_19 vt12_234 rfl rfl (Nat.le_of_ble_eq_true rfl) (Nat.le_of_ble_eq_true rfl) h0)
theorem b151_22 {d : Nat} {S : mm_S} {a0 : Nat} {p0 : Int32} : mm_ex d 151 22 [.ref a0] [.int p0] S =
    if p0 = nI 0 then mm_ex d 151 25 [.ref a0] [] S else mm_ex d 151 30 [.ref a0] [] S :=
  (mx_ine t151 d151_22 (tgt := 30) (by decide))
theorem b151_25 {d : Nat} {S : mm_S} {a0 : Nat} (h0 : mm_obj S a0 12 = true) : mm_ex d 151 25 [.ref a0] [] S =
    some (some (.int (mm_M S a0 36)), S) :=
  Eq.trans (mx_aload_n t151 d151_25 (x := a0) rfl) <|
  Eq.trans (mx_geti t151 d151_26 rfl fl12_187 h0) <|
  (mx_iret t151 d151_29 (ty := .int) rfl rfl (fun h => nomatch h))
theorem b151_30 {d : Nat} {S : mm_S} {a0 : Nat} (h0 : mm_obj S a0 12 = true) : mm_ex d 151 30 [.ref a0] [] S =
    if (mm_M S a0 36) = (mm_M S a0 26) then mm_ex d 151 41 [.ref a0] [] S else mm_ex d 151 43 [.ref a0] [] S :=
  Eq.trans (mx_aload_n t151 d151_30 (x := a0) rfl) <|
  Eq.trans (mx_geti t151 d151_31 rfl fl12_187 h0) <|
  Eq.trans (mx_aload_n t151 d151_34 (x := a0) rfl) <|
  Eq.trans (mx_geti t151 d151_35 rfl fl12_184 h0) <|
  (mx_cne t151 d151_38 (tgt := 43) (by decide))
theorem b151_41 {d : Nat} {S : mm_S} {a0 : Nat} : mm_ex d 151 41 [.ref a0] [] S =
    some (some (.int (-1)), S) :=
  Eq.trans (mx_iconst t151 d151_41 (v := -1) rfl) <|
  (mx_iret t151 d151_42 (ty := .int) rfl rfl (fun h => nomatch h))
theorem b151_43 {d : Nat} {S : mm_S} {a0 : Nat} (h0 : mm_obj S a0 12 = true) (h1 : (mm_R S a0 19).isSome = true) (h2 : mm_inb (nI 6) (mm_N S (mm_rg S a0 19)) = true) (h3 : mm_arr S (mm_rg S a0 19) 13 = true) : mm_ex d 151 43 [.ref a0] [] S =
    if (mm_M S (mm_rg S a0 19) (nI 6).toNatClampNeg) = (nI 10) then mm_ex d 151 64 [.ref a0] [] S else mm_ex d 151 55 [.ref a0] [] S :=
  Eq.trans (mx_aload_n t151 d151_43 (x := a0) rfl) <|
  Eq.trans (mx_getR t151 d151_44 rfl fl12_49 h0 h1) <|
  Eq.trans (mx_bipush t151 d151_47 (v := nI 6) rfl) <|
  Eq.trans (mx_iald t151 d151_49 h3 h2) <|
  Eq.trans (mx_bipush t151 d151_50 (v := nI 10) rfl) <|
  (mx_ceq t151 d151_52 (tgt := 64) (by decide))
theorem b151_55 {d : Nat} {S : mm_S} {a0 : Nat} (h0 : mm_rk S a0 = 12) : mm_ex (d + 1) 151 55 [.ref a0] [] S =
    mm_bd (mm_cl d 141 [.ref a0, .int (nI 59)] S) (fun v S2 => mm_ex (d + 1) 151 61 [.ref a0] (v.toList ++ []) S2) :=
  Eq.trans (mx_aload_n t151 d151_55 (x := a0) rfl) <|
  Eq.trans (mx_bipush t151 d151_56 (v := nI 59) rfl) <|
  (mx_virt (st := []) (k := 12) t151 [.int (nI 59)] d151_58 vt12_197 rfl rfl (Nat.le_of_ble_eq_true rfl) (Nat.le_of_ble_eq_true rfl) h0)
theorem b151_61 {d : Nat} {S : mm_S} {a0 : Nat} {p0 : Int32} : mm_ex d 151 61 [.ref a0] [.int p0] S =
    if p0 = nI 0 then mm_ex d 151 64 [.ref a0] [] S else mm_ex d 151 18 [.ref a0] [] S :=
  (mx_ine t151 d151_61 (tgt := 18) (by decide))
theorem b151_64 {d : Nat} {S : mm_S} {a0 : Nat} (h0 : mm_obj S a0 12 = true) : mm_ex d 151 64 [.ref a0] [] S =
    some (some (.int (mm_M S a0 36)), S) :=
  Eq.trans (mx_aload_n t151 d151_64 (x := a0) rfl) <|
  Eq.trans (mx_geti t151 d151_65 rfl fl12_187 h0) <|
  (mx_iret t151 d151_68 (ty := .int) rfl rfl (fun h => nomatch h))
theorem e151 {d : Nat} {S : mm_S} {a0 : Nat} : mm_cl d 151 [.ref a0] S = mm_ex d 151 0 [.ref a0] [] S := mm_cl_eq t151 (Nat.le_of_ble_eq_true rfl) rfl
/-! X12_shop -/
theorem dd152_0 : (decode prog_14_method_27_code 0 = .ok (.aload_n 0, 1)) ∧ (decode prog_14_method_27_code 1 = .ok (.getfield 237, 3)) ∧ (decode prog_14_method_27_code 4 = .ok (.bipush 6, 2)) ∧ (decode prog_14_method_27_code 6 = .ok (.if_icmp .ne 6, 3)) ∧ (decode prog_14_method_27_code 9 = .ok (.bipush (-4), 2)) ∧ (decode prog_14_method_27_code 11 = .ok (.ireturn, 1)) ∧ (decode prog_14_method_27_code 12 = .ok (.aload_n 0, 1)) ∧ (decode prog_14_method_27_code 13 = .ok (.invokevirtual 240, 3)) ∧ (decode prog_14_method_27_code 16 = .ok (.istore_n 1, 1)) ∧ (decode prog_14_method_27_code 17 = .ok (.aload_n 0, 1)) ∧ (decode prog_14_method_27_code 18 = .ok (.iconst 0, 1)) ∧ (decode prog_14_method_27_code 19 = .ok (.putfield 184, 3)) ∧ (decode prog_14_method_27_code 22 = .ok (.iload_n 1, 1)) ∧ (decode prog_14_method_27_code 23 = .ok (.iconst (-1), 1)) ∧ (decode prog_14_method_27_code 24 = .ok (.if_icmp .eq 8, 3)) ∧ (decode prog_14_method_27_code 27 = .ok (.bipush (-10), 2)) := by decide +kernel
theorem d152_0 : decode prog_14_method_27_code 0 = .ok (.aload_n 0, 1) := dd152_0.1
theorem d152_1 : decode prog_14_method_27_code 1 = .ok (.getfield 237, 3) := dd152_0.2.1
theorem d152_4 : decode prog_14_method_27_code 4 = .ok (.bipush 6, 2) := dd152_0.2.2.1
theorem d152_6 : decode prog_14_method_27_code 6 = .ok (.if_icmp .ne 6, 3) := dd152_0.2.2.2.1
theorem d152_9 : decode prog_14_method_27_code 9 = .ok (.bipush (-4), 2) := dd152_0.2.2.2.2.1
theorem d152_11 : decode prog_14_method_27_code 11 = .ok (.ireturn, 1) := dd152_0.2.2.2.2.2.1
theorem d152_12 : decode prog_14_method_27_code 12 = .ok (.aload_n 0, 1) := dd152_0.2.2.2.2.2.2.1
theorem d152_13 : decode prog_14_method_27_code 13 = .ok (.invokevirtual 240, 3) := dd152_0.2.2.2.2.2.2.2.1
theorem d152_16 : decode prog_14_method_27_code 16 = .ok (.istore_n 1, 1) := dd152_0.2.2.2.2.2.2.2.2.1
theorem d152_17 : decode prog_14_method_27_code 17 = .ok (.aload_n 0, 1) := dd152_0.2.2.2.2.2.2.2.2.2.1
theorem d152_18 : decode prog_14_method_27_code 18 = .ok (.iconst 0, 1) := dd152_0.2.2.2.2.2.2.2.2.2.2.1
theorem d152_19 : decode prog_14_method_27_code 19 = .ok (.putfield 184, 3) := dd152_0.2.2.2.2.2.2.2.2.2.2.2.1
theorem d152_22 : decode prog_14_method_27_code 22 = .ok (.iload_n 1, 1) := dd152_0.2.2.2.2.2.2.2.2.2.2.2.2.1
theorem d152_23 : decode prog_14_method_27_code 23 = .ok (.iconst (-1), 1) := dd152_0.2.2.2.2.2.2.2.2.2.2.2.2.2.1
theorem d152_24 : decode prog_14_method_27_code 24 = .ok (.if_icmp .eq 8, 3) := dd152_0.2.2.2.2.2.2.2.2.2.2.2.2.2.2.1
theorem d152_27 : decode prog_14_method_27_code 27 = .ok (.bipush (-10), 2) := dd152_0.2.2.2.2.2.2.2.2.2.2.2.2.2.2.2
theorem dd152_29 : (decode prog_14_method_27_code 29 = .ok (.iload_n 1, 1)) ∧ (decode prog_14_method_27_code 30 = .ok (.isub, 1)) ∧ (decode prog_14_method_27_code 31 = .ok (.ireturn, 1)) ∧ (decode prog_14_method_27_code 32 = .ok (.aload_n 0, 1)) ∧ (decode prog_14_method_27_code 33 = .ok (.getfield 49, 3)) ∧ (decode prog_14_method_27_code 36 = .ok (.aload_n 0, 1)) ∧ (decode prog_14_method_27_code 37 = .ok (.getfield 237, 3)) ∧ (decode prog_14_method_27_code 40 = .ok (.aload_n 0, 1)) ∧ (decode prog_14_method_27_code 41 = .ok (.getfield 49, 3)) ∧ (decode prog_14_method_27_code 44 = .ok (.bipush 6, 2)) ∧ (decode prog_14_method_27_code 46 = .ok (.iaload, 1)) ∧ (decode prog_14_method_27_code 47 = .ok (.iastore, 1)) ∧ (decode prog_14_method_27_code 48 = .ok (.iconst 0, 1)) ∧ (decode prog_14_method_27_code 49 = .ok (.istore_n 2, 1)) ∧ (decode prog_14_method_27_code 50 = .ok (.iload_n 2, 1)) ∧ (decode prog_14_method_27_code 51 = .ok (.bipush 10, 2)) := by decide +kernel
theorem d152_29 : decode prog_14_method_27_code 29 = .ok (.iload_n 1, 1) := dd152_29.1
theorem d152_30 : decode prog_14_method_27_code 30 = .ok (.isub, 1) := dd152_29.2.1
theorem d152_31 : decode prog_14_method_27_code 31 = .ok (.ireturn, 1) := dd152_29.2.2.1
theorem d152_32 : decode prog_14_method_27_code 32 = .ok (.aload_n 0, 1) := dd152_29.2.2.2.1
theorem d152_33 : decode prog_14_method_27_code 33 = .ok (.getfield 49, 3) := dd152_29.2.2.2.2.1
theorem d152_36 : decode prog_14_method_27_code 36 = .ok (.aload_n 0, 1) := dd152_29.2.2.2.2.2.1
theorem d152_37 : decode prog_14_method_27_code 37 = .ok (.getfield 237, 3) := dd152_29.2.2.2.2.2.2.1
theorem d152_40 : decode prog_14_method_27_code 40 = .ok (.aload_n 0, 1) := dd152_29.2.2.2.2.2.2.2.1
theorem d152_41 : decode prog_14_method_27_code 41 = .ok (.getfield 49, 3) := dd152_29.2.2.2.2.2.2.2.2.1
theorem d152_44 : decode prog_14_method_27_code 44 = .ok (.bipush 6, 2) := dd152_29.2.2.2.2.2.2.2.2.2.1
theorem d152_46 : decode prog_14_method_27_code 46 = .ok (.iaload, 1) := dd152_29.2.2.2.2.2.2.2.2.2.2.1
theorem d152_47 : decode prog_14_method_27_code 47 = .ok (.iastore, 1) := dd152_29.2.2.2.2.2.2.2.2.2.2.2.1
theorem d152_48 : decode prog_14_method_27_code 48 = .ok (.iconst 0, 1) := dd152_29.2.2.2.2.2.2.2.2.2.2.2.2.1
theorem d152_49 : decode prog_14_method_27_code 49 = .ok (.istore_n 2, 1) := dd152_29.2.2.2.2.2.2.2.2.2.2.2.2.2.1
theorem d152_50 : decode prog_14_method_27_code 50 = .ok (.iload_n 2, 1) := dd152_29.2.2.2.2.2.2.2.2.2.2.2.2.2.2.1
theorem d152_51 : decode prog_14_method_27_code 51 = .ok (.bipush 10, 2) := dd152_29.2.2.2.2.2.2.2.2.2.2.2.2.2.2.2
theorem dd152_53 : (decode prog_14_method_27_code 53 = .ok (.if_icmp .ge 101, 3)) ∧ (decode prog_14_method_27_code 56 = .ok (.aload_n 0, 1)) ∧ (decode prog_14_method_27_code 57 = .ok (.getfield 52, 3)) ∧ (decode prog_14_method_27_code 60 = .ok (.bipush 10, 2)) ∧ (decode prog_14_method_27_code 62 = .ok (.aload_n 0, 1)) ∧ (decode prog_14_method_27_code 63 = .ok (.getfield 237, 3)) ∧ (decode prog_14_method_27_code 66 = .ok (.imul, 1)) ∧ (decode prog_14_method_27_code 67 = .ok (.iload_n 2, 1)) ∧ (decode prog_14_method_27_code 68 = .ok (.iadd, 1)) ∧ (decode prog_14_method_27_code 69 = .ok (.aload_n 0, 1)) ∧ (decode prog_14_method_27_code 70 = .ok (.getfield 52, 3)) ∧ (decode prog_14_method_27_code 73 = .ok (.bipush 60, 2)) ∧ (decode prog_14_method_27_code 75 = .ok (.iload_n 2, 1)) ∧ (decode prog_14_method_27_code 76 = .ok (.iadd, 1)) ∧ (decode prog_14_method_27_code 77 = .ok (.iaload, 1)) ∧ (decode prog_14_method_27_code 78 = .ok (.iastore, 1)) := by decide +kernel
theorem d152_53 : decode prog_14_method_27_code 53 = .ok (.if_icmp .ge 101, 3) := dd152_53.1
theorem d152_56 : decode prog_14_method_27_code 56 = .ok (.aload_n 0, 1) := dd152_53.2.1
theorem d152_57 : decode prog_14_method_27_code 57 = .ok (.getfield 52, 3) := dd152_53.2.2.1
theorem d152_60 : decode prog_14_method_27_code 60 = .ok (.bipush 10, 2) := dd152_53.2.2.2.1
theorem d152_62 : decode prog_14_method_27_code 62 = .ok (.aload_n 0, 1) := dd152_53.2.2.2.2.1
theorem d152_63 : decode prog_14_method_27_code 63 = .ok (.getfield 237, 3) := dd152_53.2.2.2.2.2.1
theorem d152_66 : decode prog_14_method_27_code 66 = .ok (.imul, 1) := dd152_53.2.2.2.2.2.2.1
theorem d152_67 : decode prog_14_method_27_code 67 = .ok (.iload_n 2, 1) := dd152_53.2.2.2.2.2.2.2.1
theorem d152_68 : decode prog_14_method_27_code 68 = .ok (.iadd, 1) := dd152_53.2.2.2.2.2.2.2.2.1
theorem d152_69 : decode prog_14_method_27_code 69 = .ok (.aload_n 0, 1) := dd152_53.2.2.2.2.2.2.2.2.2.1
theorem d152_70 : decode prog_14_method_27_code 70 = .ok (.getfield 52, 3) := dd152_53.2.2.2.2.2.2.2.2.2.2.1
theorem d152_73 : decode prog_14_method_27_code 73 = .ok (.bipush 60, 2) := dd152_53.2.2.2.2.2.2.2.2.2.2.2.1
theorem d152_75 : decode prog_14_method_27_code 75 = .ok (.iload_n 2, 1) := dd152_53.2.2.2.2.2.2.2.2.2.2.2.2.1
theorem d152_76 : decode prog_14_method_27_code 76 = .ok (.iadd, 1) := dd152_53.2.2.2.2.2.2.2.2.2.2.2.2.2.1
theorem d152_77 : decode prog_14_method_27_code 77 = .ok (.iaload, 1) := dd152_53.2.2.2.2.2.2.2.2.2.2.2.2.2.2.1
theorem d152_78 : decode prog_14_method_27_code 78 = .ok (.iastore, 1) := dd152_53.2.2.2.2.2.2.2.2.2.2.2.2.2.2.2
theorem dd152_79 : (decode prog_14_method_27_code 79 = .ok (.aload_n 0, 1)) ∧ (decode prog_14_method_27_code 80 = .ok (.getfield 55, 3)) ∧ (decode prog_14_method_27_code 83 = .ok (.bipush 10, 2)) ∧ (decode prog_14_method_27_code 85 = .ok (.aload_n 0, 1)) ∧ (decode prog_14_method_27_code 86 = .ok (.getfield 237, 3)) ∧ (decode prog_14_method_27_code 89 = .ok (.imul, 1)) ∧ (decode prog_14_method_27_code 90 = .ok (.iload_n 2, 1)) ∧ (decode prog_14_method_27_code 91 = .ok (.iadd, 1)) ∧ (decode prog_14_method_27_code 92 = .ok (.aload_n 0, 1)) ∧ (decode prog_14_method_27_code 93 = .ok (.getfield 55, 3)) ∧ (decode prog_14_method_27_code 96 = .ok (.bipush 60, 2)) ∧ (decode prog_14_method_27_code 98 = .ok (.iload_n 2, 1)) ∧ (decode prog_14_method_27_code 99 = .ok (.iadd, 1)) ∧ (decode prog_14_method_27_code 100 = .ok (.iaload, 1)) ∧ (decode prog_14_method_27_code 101 = .ok (.iastore, 1)) ∧ (decode prog_14_method_27_code 102 = .ok (.aload_n 0, 1)) := by decide +kernel
theorem d152_79 : decode prog_14_method_27_code 79 = .ok (.aload_n 0, 1) := dd152_79.1
theorem d152_80 : decode prog_14_method_27_code 80 = .ok (.getfield 55, 3) := dd152_79.2.1
theorem d152_83 : decode prog_14_method_27_code 83 = .ok (.bipush 10, 2) := dd152_79.2.2.1
theorem d152_85 : decode prog_14_method_27_code 85 = .ok (.aload_n 0, 1) := dd152_79.2.2.2.1
theorem d152_86 : decode prog_14_method_27_code 86 = .ok (.getfield 237, 3) := dd152_79.2.2.2.2.1
theorem d152_89 : decode prog_14_method_27_code 89 = .ok (.imul, 1) := dd152_79.2.2.2.2.2.1
theorem d152_90 : decode prog_14_method_27_code 90 = .ok (.iload_n 2, 1) := dd152_79.2.2.2.2.2.2.1
theorem d152_91 : decode prog_14_method_27_code 91 = .ok (.iadd, 1) := dd152_79.2.2.2.2.2.2.2.1
theorem d152_92 : decode prog_14_method_27_code 92 = .ok (.aload_n 0, 1) := dd152_79.2.2.2.2.2.2.2.2.1
theorem d152_93 : decode prog_14_method_27_code 93 = .ok (.getfield 55, 3) := dd152_79.2.2.2.2.2.2.2.2.2.1
theorem d152_96 : decode prog_14_method_27_code 96 = .ok (.bipush 60, 2) := dd152_79.2.2.2.2.2.2.2.2.2.2.1
theorem d152_98 : decode prog_14_method_27_code 98 = .ok (.iload_n 2, 1) := dd152_79.2.2.2.2.2.2.2.2.2.2.2.1
theorem d152_99 : decode prog_14_method_27_code 99 = .ok (.iadd, 1) := dd152_79.2.2.2.2.2.2.2.2.2.2.2.2.1
theorem d152_100 : decode prog_14_method_27_code 100 = .ok (.iaload, 1) := dd152_79.2.2.2.2.2.2.2.2.2.2.2.2.2.1
theorem d152_101 : decode prog_14_method_27_code 101 = .ok (.iastore, 1) := dd152_79.2.2.2.2.2.2.2.2.2.2.2.2.2.2.1
theorem d152_102 : decode prog_14_method_27_code 102 = .ok (.aload_n 0, 1) := dd152_79.2.2.2.2.2.2.2.2.2.2.2.2.2.2.2
theorem dd152_103 : (decode prog_14_method_27_code 103 = .ok (.getfield 58, 3)) ∧ (decode prog_14_method_27_code 106 = .ok (.bipush 10, 2)) ∧ (decode prog_14_method_27_code 108 = .ok (.aload_n 0, 1)) ∧ (decode prog_14_method_27_code 109 = .ok (.getfield 237, 3)) ∧ (decode prog_14_method_27_code 112 = .ok (.imul, 1)) ∧ (decode prog_14_method_27_code 113 = .ok (.iload_n 2, 1)) ∧ (decode prog_14_method_27_code 114 = .ok (.iadd, 1)) ∧ (decode prog_14_method_27_code 115 = .ok (.aload_n 0, 1)) ∧ (decode prog_14_method_27_code 116 = .ok (.getfield 58, 3)) ∧ (decode prog_14_method_27_code 119 = .ok (.bipush 60, 2)) ∧ (decode prog_14_method_27_code 121 = .ok (.iload_n 2, 1)) ∧ (decode prog_14_method_27_code 122 = .ok (.iadd, 1)) ∧ (decode prog_14_method_27_code 123 = .ok (.iaload, 1)) ∧ (decode prog_14_method_27_code 124 = .ok (.iastore, 1)) ∧ (decode prog_14_method_27_code 125 = .ok (.aload_n 0, 1)) ∧ (decode prog_14_method_27_code 126 = .ok (.getfield 61, 3)) := by decide +kernel
theorem d152_103 : decode prog_14_method_27_code 103 = .ok (.getfield 58, 3) := dd152_103.1
theorem d152_106 : decode prog_14_method_27_code 106 = .ok (.bipush 10, 2) := dd152_103.2.1
theorem d152_108 : decode prog_14_method_27_code 108 = .ok (.aload_n 0, 1) := dd152_103.2.2.1
theorem d152_109 : decode prog_14_method_27_code 109 = .ok (.getfield 237, 3) := dd152_103.2.2.2.1
theorem d152_112 : decode prog_14_method_27_code 112 = .ok (.imul, 1) := dd152_103.2.2.2.2.1
theorem d152_113 : decode prog_14_method_27_code 113 = .ok (.iload_n 2, 1) := dd152_103.2.2.2.2.2.1
theorem d152_114 : decode prog_14_method_27_code 114 = .ok (.iadd, 1) := dd152_103.2.2.2.2.2.2.1
theorem d152_115 : decode prog_14_method_27_code 115 = .ok (.aload_n 0, 1) := dd152_103.2.2.2.2.2.2.2.1
theorem d152_116 : decode prog_14_method_27_code 116 = .ok (.getfield 58, 3) := dd152_103.2.2.2.2.2.2.2.2.1
theorem d152_119 : decode prog_14_method_27_code 119 = .ok (.bipush 60, 2) := dd152_103.2.2.2.2.2.2.2.2.2.1
theorem d152_121 : decode prog_14_method_27_code 121 = .ok (.iload_n 2, 1) := dd152_103.2.2.2.2.2.2.2.2.2.2.1
theorem d152_122 : decode prog_14_method_27_code 122 = .ok (.iadd, 1) := dd152_103.2.2.2.2.2.2.2.2.2.2.2.1
theorem d152_123 : decode prog_14_method_27_code 123 = .ok (.iaload, 1) := dd152_103.2.2.2.2.2.2.2.2.2.2.2.2.1
theorem d152_124 : decode prog_14_method_27_code 124 = .ok (.iastore, 1) := dd152_103.2.2.2.2.2.2.2.2.2.2.2.2.2.1
theorem d152_125 : decode prog_14_method_27_code 125 = .ok (.aload_n 0, 1) := dd152_103.2.2.2.2.2.2.2.2.2.2.2.2.2.2.1
theorem d152_126 : decode prog_14_method_27_code 126 = .ok (.getfield 61, 3) := dd152_103.2.2.2.2.2.2.2.2.2.2.2.2.2.2.2
theorem dd152_129 : (decode prog_14_method_27_code 129 = .ok (.bipush 10, 2)) ∧ (decode prog_14_method_27_code 131 = .ok (.aload_n 0, 1)) ∧ (decode prog_14_method_27_code 132 = .ok (.getfield 237, 3)) ∧ (decode prog_14_method_27_code 135 = .ok (.imul, 1)) ∧ (decode prog_14_method_27_code 136 = .ok (.iload_n 2, 1)) ∧ (decode prog_14_method_27_code 137 = .ok (.iadd, 1)) ∧ (decode prog_14_method_27_code 138 = .ok (.aload_n 0, 1)) ∧ (decode prog_14_method_27_code 139 = .ok (.getfield 61, 3)) ∧ (decode prog_14_method_27_code 142 = .ok (.bipush 60, 2)) ∧ (decode prog_14_method_27_code 144 = .ok (.iload_n 2, 1)) ∧ (decode prog_14_method_27_code 145 = .ok (.iadd, 1)) ∧ (decode prog_14_method_27_code 146 = .ok (.iaload, 1)) ∧ (decode prog_14_method_27_code 147 = .ok (.iastore, 1)) ∧ (decode prog_14_method_27_code 148 = .ok (.iinc 2 1, 3)) ∧ (decode prog_14_method_27_code 151 = .ok (.goto (-101), 3)) ∧ (decode prog_14_method_27_code 154 = .ok (.iconst 0, 1)) := by decide +kernel
theorem d152_129 : decode prog_14_method_27_code 129 = .ok (.bipush 10, 2) := dd152_129.1
theorem d152_131 : decode prog_14_method_27_code 131 = .ok (.aload_n 0, 1) := dd152_129.2.1
theorem d152_132 : decode prog_14_method_27_code 132 = .ok (.getfield 237, 3) := dd152_129.2.2.1
theorem d152_135 : decode prog_14_method_27_code 135 = .ok (.imul, 1) := dd152_129.2.2.2.1
theorem d152_136 : decode prog_14_method_27_code 136 = .ok (.iload_n 2, 1) := dd152_129.2.2.2.2.1
theorem d152_137 : decode prog_14_method_27_code 137 = .ok (.iadd, 1) := dd152_129.2.2.2.2.2.1
theorem d152_138 : decode prog_14_method_27_code 138 = .ok (.aload_n 0, 1) := dd152_129.2.2.2.2.2.2.1
theorem d152_139 : decode prog_14_method_27_code 139 = .ok (.getfield 61, 3) := dd152_129.2.2.2.2.2.2.2.1
theorem d152_142 : decode prog_14_method_27_code 142 = .ok (.bipush 60, 2) := dd152_129.2.2.2.2.2.2.2.2.1
theorem d152_144 : decode prog_14_method_27_code 144 = .ok (.iload_n 2, 1) := dd152_129.2.2.2.2.2.2.2.2.2.1
theorem d152_145 : decode prog_14_method_27_code 145 = .ok (.iadd, 1) := dd152_129.2.2.2.2.2.2.2.2.2.2.1
theorem d152_146 : decode prog_14_method_27_code 146 = .ok (.iaload, 1) := dd152_129.2.2.2.2.2.2.2.2.2.2.2.1
theorem d152_147 : decode prog_14_method_27_code 147 = .ok (.iastore, 1) := dd152_129.2.2.2.2.2.2.2.2.2.2.2.2.1
theorem d152_148 : decode prog_14_method_27_code 148 = .ok (.iinc 2 1, 3) := dd152_129.2.2.2.2.2.2.2.2.2.2.2.2.2.1
theorem d152_151 : decode prog_14_method_27_code 151 = .ok (.goto (-101), 3) := dd152_129.2.2.2.2.2.2.2.2.2.2.2.2.2.2.1
theorem d152_154 : decode prog_14_method_27_code 154 = .ok (.iconst 0, 1) := dd152_129.2.2.2.2.2.2.2.2.2.2.2.2.2.2.2
theorem dd152_155 : (decode prog_14_method_27_code 155 = .ok (.istore_n 2, 1)) ∧ (decode prog_14_method_27_code 156 = .ok (.iload_n 2, 1)) ∧ (decode prog_14_method_27_code 157 = .ok (.bipush 120, 2)) ∧ (decode prog_14_method_27_code 159 = .ok (.if_icmp .ge 33, 3)) ∧ (decode prog_14_method_27_code 162 = .ok (.aload_n 0, 1)) ∧ (decode prog_14_method_27_code 163 = .ok (.getfield 64, 3)) ∧ (decode prog_14_method_27_code 166 = .ok (.bipush 120, 2)) ∧ (decode prog_14_method_27_code 168 = .ok (.aload_n 0, 1)) ∧ (decode prog_14_method_27_code 169 = .ok (.getfield 237, 3)) ∧ (decode prog_14_method_27_code 172 = .ok (.imul, 1)) ∧ (decode prog_14_method_27_code 173 = .ok (.iload_n 2, 1)) ∧ (decode prog_14_method_27_code 174 = .ok (.iadd, 1)) ∧ (decode prog_14_method_27_code 175 = .ok (.aload_n 0, 1)) ∧ (decode prog_14_method_27_code 176 = .ok (.getfield 64, 3)) ∧ (decode prog_14_method_27_code 179 = .ok (.sipush 720, 3)) ∧ (decode prog_14_method_27_code 182 = .ok (.iload_n 2, 1)) := by decide +kernel
theorem d152_155 : decode prog_14_method_27_code 155 = .ok (.istore_n 2, 1) := dd152_155.1
theorem d152_156 : decode prog_14_method_27_code 156 = .ok (.iload_n 2, 1) := dd152_155.2.1
theorem d152_157 : decode prog_14_method_27_code 157 = .ok (.bipush 120, 2) := dd152_155.2.2.1
theorem d152_159 : decode prog_14_method_27_code 159 = .ok (.if_icmp .ge 33, 3) := dd152_155.2.2.2.1
theorem d152_162 : decode prog_14_method_27_code 162 = .ok (.aload_n 0, 1) := dd152_155.2.2.2.2.1
theorem d152_163 : decode prog_14_method_27_code 163 = .ok (.getfield 64, 3) := dd152_155.2.2.2.2.2.1
theorem d152_166 : decode prog_14_method_27_code 166 = .ok (.bipush 120, 2) := dd152_155.2.2.2.2.2.2.1
theorem d152_168 : decode prog_14_method_27_code 168 = .ok (.aload_n 0, 1) := dd152_155.2.2.2.2.2.2.2.1
theorem d152_169 : decode prog_14_method_27_code 169 = .ok (.getfield 237, 3) := dd152_155.2.2.2.2.2.2.2.2.1
theorem d152_172 : decode prog_14_method_27_code 172 = .ok (.imul, 1) := dd152_155.2.2.2.2.2.2.2.2.2.1
theorem d152_173 : decode prog_14_method_27_code 173 = .ok (.iload_n 2, 1) := dd152_155.2.2.2.2.2.2.2.2.2.2.1
theorem d152_174 : decode prog_14_method_27_code 174 = .ok (.iadd, 1) := dd152_155.2.2.2.2.2.2.2.2.2.2.2.1
theorem d152_175 : decode prog_14_method_27_code 175 = .ok (.aload_n 0, 1) := dd152_155.2.2.2.2.2.2.2.2.2.2.2.2.1
theorem d152_176 : decode prog_14_method_27_code 176 = .ok (.getfield 64, 3) := dd152_155.2.2.2.2.2.2.2.2.2.2.2.2.2.1
theorem d152_179 : decode prog_14_method_27_code 179 = .ok (.sipush 720, 3) := dd152_155.2.2.2.2.2.2.2.2.2.2.2.2.2.2.1
theorem d152_182 : decode prog_14_method_27_code 182 = .ok (.iload_n 2, 1) := dd152_155.2.2.2.2.2.2.2.2.2.2.2.2.2.2.2
theorem dd152_183 : (decode prog_14_method_27_code 183 = .ok (.iadd, 1)) ∧ (decode prog_14_method_27_code 184 = .ok (.iaload, 1)) ∧ (decode prog_14_method_27_code 185 = .ok (.iastore, 1)) ∧ (decode prog_14_method_27_code 186 = .ok (.iinc 2 1, 3)) ∧ (decode prog_14_method_27_code 189 = .ok (.goto (-33), 3)) ∧ (decode prog_14_method_27_code 192 = .ok (.aload_n 0, 1)) ∧ (decode prog_14_method_27_code 193 = .ok (.aload_n 0, 1)) ∧ (decode prog_14_method_27_code 194 = .ok (.getfield 237, 3)) ∧ (decode prog_14_method_27_code 197 = .ok (.putfield 46, 3)) ∧ (decode prog_14_method_27_code 200 = .ok (.aload_n 0, 1)) ∧ (decode prog_14_method_27_code 201 = .ok (.dup, 1)) ∧ (decode prog_14_method_27_code 202 = .ok (.getfield 237, 3)) ∧ (decode prog_14_method_27_code 205 = .ok (.iconst 1, 1)) ∧ (decode prog_14_method_27_code 206 = .ok (.iadd, 1)) ∧ (decode prog_14_method_27_code 207 = .ok (.putfield 237, 3)) ∧ (decode prog_14_method_27_code 210 = .ok (.aload_n 0, 1)) := by decide +kernel
theorem d152_183 : decode prog_14_method_27_code 183 = .ok (.iadd, 1) := dd152_183.1
theorem d152_184 : decode prog_14_method_27_code 184 = .ok (.iaload, 1) := dd152_183.2.1
theorem d152_185 : decode prog_14_method_27_code 185 = .ok (.iastore, 1) := dd152_183.2.2.1
theorem d152_186 : decode prog_14_method_27_code 186 = .ok (.iinc 2 1, 3) := dd152_183.2.2.2.1
theorem d152_189 : decode prog_14_method_27_code 189 = .ok (.goto (-33), 3) := dd152_183.2.2.2.2.1
theorem d152_192 : decode prog_14_method_27_code 192 = .ok (.aload_n 0, 1) := dd152_183.2.2.2.2.2.1
theorem d152_193 : decode prog_14_method_27_code 193 = .ok (.aload_n 0, 1) := dd152_183.2.2.2.2.2.2.1
theorem d152_194 : decode prog_14_method_27_code 194 = .ok (.getfield 237, 3) := dd152_183.2.2.2.2.2.2.2.1
theorem d152_197 : decode prog_14_method_27_code 197 = .ok (.putfield 46, 3) := dd152_183.2.2.2.2.2.2.2.2.1
theorem d152_200 : decode prog_14_method_27_code 200 = .ok (.aload_n 0, 1) := dd152_183.2.2.2.2.2.2.2.2.2.1
theorem d152_201 : decode prog_14_method_27_code 201 = .ok (.dup, 1) := dd152_183.2.2.2.2.2.2.2.2.2.2.1
theorem d152_202 : decode prog_14_method_27_code 202 = .ok (.getfield 237, 3) := dd152_183.2.2.2.2.2.2.2.2.2.2.2.1
theorem d152_205 : decode prog_14_method_27_code 205 = .ok (.iconst 1, 1) := dd152_183.2.2.2.2.2.2.2.2.2.2.2.2.1
theorem d152_206 : decode prog_14_method_27_code 206 = .ok (.iadd, 1) := dd152_183.2.2.2.2.2.2.2.2.2.2.2.2.2.1
theorem d152_207 : decode prog_14_method_27_code 207 = .ok (.putfield 237, 3) := dd152_183.2.2.2.2.2.2.2.2.2.2.2.2.2.2.1
theorem d152_210 : decode prog_14_method_27_code 210 = .ok (.aload_n 0, 1) := dd152_183.2.2.2.2.2.2.2.2.2.2.2.2.2.2.2
theorem dd152_211 : (decode prog_14_method_27_code 211 = .ok (.getfield 46, 3)) ∧ (decode prog_14_method_27_code 214 = .ok (.ireturn, 1)) := by decide +kernel
theorem d152_211 : decode prog_14_method_27_code 211 = .ok (.getfield 46, 3) := dd152_211.1
theorem d152_214 : decode prog_14_method_27_code 214 = .ok (.ireturn, 1) := dd152_211.2
theorem b152_0 {d : Nat} {S : mm_S} {a0 : Nat} (h0 : mm_obj S a0 12 = true) : mm_ex d 152 0 [.ref a0, .null, .null] [] S =
    if (mm_M S a0 17) = (nI 6) then mm_ex d 152 9 [.ref a0, .null, .null] [] S else mm_ex d 152 12 [.ref a0, .null, .null] [] S :=
  Eq.trans (mx_aload_n t152 d152_0 (x := a0) rfl) <|
  Eq.trans (mx_geti t152 d152_1 rfl fl12_237 h0) <|
  Eq.trans (mx_bipush t152 d152_4 (v := nI 6) rfl) <|
  (mx_cne t152 d152_6 (tgt := 12) (by decide))
theorem b152_9 {d : Nat} {S : mm_S} {a0 : Nat} : mm_ex d 152 9 [.ref a0, .null, .null] [] S =
    some (some (.int (-4)), S) :=
  Eq.trans (mx_bipush t152 d152_9 (v := -4) rfl) <|
  (mx_iret t152 d152_11 (ty := .int) rfl rfl (fun h => nomatch h))
theorem b152_12 {d : Nat} {S : mm_S} {a0 : Nat} (h0 : mm_rk S a0 = 12) : mm_ex (d + 1) 152 12 [.ref a0, .null, .null] [] S =
    mm_bd (mm_cl d 151 [.ref a0] S) (fun v S2 => mm_ex (d + 1) 152 16 [.ref a0, .null, .null] (v.toList ++ []) S2) :=
  Eq.trans (mx_aload_n t152 d152_12 (x := a0) rfl) <|
  (mx_virt (st := []) (k := 12) t152 [] d152_13 vt12_240 rfl rfl (Nat.le_of_ble_eq_true rfl) (Nat.le_of_ble_eq_true rfl) h0)
theorem b152_16 {d : Nat} {S : mm_S} {a0 : Nat} {p0 : Int32} (h0 : mm_obj S a0 12 = true) : mm_ex d 152 16 [.ref a0, .null, .null] [.int p0] S =
    if p0 = (-1) then mm_ex d 152 32 [.ref a0, .int p0, .null] [] (mm_uM S a0 26 (nI 0)) else mm_ex d 152 27 [.ref a0, .int p0, .null] [] (mm_uM S a0 26 (nI 0)) :=
  Eq.trans (mx_istore_n t152 d152_16 (ls' := [.ref a0, .int p0, .null]) rfl rfl) <|
  Eq.trans (mx_aload_n t152 d152_17 (x := a0) rfl) <|
  Eq.trans (mx_iconst t152 d152_18 (v := nI 0) rfl) <|
  Eq.trans (mx_puti2 t152 d152_19 fl12_184 rfl h0) <|
  Eq.trans (mx_iload_n t152 d152_22 (x := p0) rfl) <|
  Eq.trans (mx_iconst t152 d152_23 (v := -1) rfl) <|
  (mx_ceq t152 d152_24 (tgt := 32) (by decide))
theorem b152_27 {d : Nat} {S : mm_S} {a0 : Nat} {x1 : Int32} : mm_ex d 152 27 [.ref a0, .int x1, .null] [] S =
    some (some (.int ((-10) - x1)), S) :=
  Eq.trans (mx_bipush t152 d152_27 (v := -10) rfl) <|
  Eq.trans (mx_iload_n t152 d152_29 (x := x1) rfl) <|
  Eq.trans (mx_isub t152 d152_30) <|
  (mx_iret t152 d152_31 (ty := .int) rfl rfl (fun h => nomatch h))
theorem b152_32 {d : Nat} {S : mm_S} {a0 : Nat} {x1 : Int32} (h0 : mm_obj S a0 12 = true) (h1 : (mm_R S a0 19).isSome = true) (h2 : mm_inb (nI 6) (mm_N S (mm_rg S a0 19)) = true) (h3 : mm_arr S (mm_rg S a0 19) 13 = true) (h4 : mm_inb (mm_M S a0 17) (mm_N S (mm_rg S a0 19)) = true) : mm_ex d 152 32 [.ref a0, .int x1, .null] [] S =
    mm_ex d 152 50 [.ref a0, .int x1, .int (nI 0)] [] (mm_uM S (mm_rg S a0 19) (mm_M S a0 17).toNatClampNeg (mm_M S (mm_rg S a0 19) (nI 6).toNatClampNeg)) :=
  Eq.trans (mx_aload_n t152 d152_32 (x := a0) rfl) <|
  Eq.trans (mx_getR t152 d152_33 rfl fl12_49 h0 h1) <|
  Eq.trans (mx_aload_n t152 d152_36 (x := a0) rfl) <|
  Eq.trans (mx_geti t152 d152_37 rfl fl12_237 h0) <|
  Eq.trans (mx_aload_n t152 d152_40 (x := a0) rfl) <|
  Eq.trans (mx_getR t152 d152_41 rfl fl12_49 h0 h1) <|
  Eq.trans (mx_bipush t152 d152_44 (v := nI 6) rfl) <|
  Eq.trans (mx_iald t152 d152_46 h3 h2) <|
  Eq.trans (mx_iast2 t152 d152_47 h3 h4) <|
  Eq.trans (mx_iconst t152 d152_48 (v := nI 0) rfl) <|
  (mx_istore_n t152 d152_49 (ls' := [.ref a0, .int x1, .int (nI 0)]) rfl rfl)
theorem b152_50 {d : Nat} {S : mm_S} {a0 : Nat} {x1 : Int32} {x2 : Int32} : mm_ex d 152 50 [.ref a0, .int x1, .int x2] [] S =
    if (nI 10) ≤ x2 then mm_ex d 152 154 [.ref a0, .int x1, .int x2] [] S else mm_ex d 152 56 [.ref a0, .int x1, .int x2] [] S :=
  Eq.trans (mx_iload_n t152 d152_50 (x := x2) rfl) <|
  Eq.trans (mx_bipush t152 d152_51 (v := nI 10) rfl) <|
  (mx_cge t152 d152_53 (tgt := 154) (by decide))
theorem b152_56 {d : Nat} {S : mm_S} {a0 : Nat} {x1 : Int32} {x2 : Int32} (h0 : mm_obj S a0 12 = true) (h1 : (mm_R S a0 20).isSome = true) (h2 : mm_inb ((nI 60) + x2) (mm_N S (mm_rg S a0 20)) = true) (h3 : mm_arr S (mm_rg S a0 20) 13 = true) (h4 : mm_inb (((nI 10) * (mm_M S a0 17)) + x2) (mm_N S (mm_rg S a0 20)) = true) (h5 : (mm_R S a0 21).isSome = true) : mm_ex d 152 56 [.ref a0, .int x1, .int x2] [] S =
    mm_ex d 152 86 [.ref a0, .int x1, .int x2] [.ref a0, .int (nI 10), .ref (mm_rg S a0 21)] (mm_uM S (mm_rg S a0 20) (((nI 10) * (mm_M S a0 17)) + x2).toNatClampNeg (mm_M S (mm_rg S a0 20) ((nI 60) + x2).toNatClampNeg)) :=
  Eq.trans (mx_aload_n t152 d152_56 (x := a0) rfl) <|
  Eq.trans (mx_getR t152 d152_57 rfl fl12_52 h0 h1) <|
  Eq.trans (mx_bipush t152 d152_60 (v := nI 10) rfl) <|
  Eq.trans (mx_aload_n t152 d152_62 (x := a0) rfl) <|
  Eq.trans (mx_geti t152 d152_63 rfl fl12_237 h0) <|
  Eq.trans (mx_imul t152 d152_66) <|
  Eq.trans (mx_iload_n t152 d152_67 (x := x2) rfl) <|
  Eq.trans (mx_iadd t152 d152_68) <|
  Eq.trans (mx_aload_n t152 d152_69 (x := a0) rfl) <|
  Eq.trans (mx_getR t152 d152_70 rfl fl12_52 h0 h1) <|
  Eq.trans (mx_bipush t152 d152_73 (v := nI 60) rfl) <|
  Eq.trans (mx_iload_n t152 d152_75 (x := x2) rfl) <|
  Eq.trans (mx_iadd t152 d152_76) <|
  Eq.trans (mx_iald t152 d152_77 h3 h2) <|
  Eq.trans (mx_iast2 t152 d152_78 h3 h4) <|
  Eq.trans (mx_aload_n t152 d152_79 (x := a0) rfl) <|
  Eq.trans (mx_getR t152 d152_80 rfl fl12_55 h0 h5) <|
  Eq.trans (mx_bipush t152 d152_83 (v := nI 10) rfl) <|
  (mx_aload_n t152 d152_85 (x := a0) rfl)
theorem b152_86 {d : Nat} {S : mm_S} {a0 : Nat} {x1 : Int32} {x2 : Int32} {p0 : Nat} {p1 : Int32} {p2 : Nat} (h0 : mm_obj S p0 12 = true) (h1 : mm_obj S a0 12 = true) (h2 : (mm_R S a0 21).isSome = true) (h3 : mm_inb ((nI 60) + x2) (mm_N S (mm_rg S a0 21)) = true) (h4 : mm_arr S (mm_rg S a0 21) 13 = true) (h5 : mm_arr S p2 13 = true) (h6 : mm_inb ((p1 * (mm_M S p0 17)) + x2) (mm_N S p2) = true) (h7 : (mm_R S a0 22).isSome = true) : mm_ex d 152 86 [.ref a0, .int x1, .int x2] [.ref p0, .int p1, .ref p2] S =
    mm_ex d 152 109 [.ref a0, .int x1, .int x2] [.ref a0, .int (nI 10), .ref (mm_rg S a0 22)] (mm_uM S p2 ((p1 * (mm_M S p0 17)) + x2).toNatClampNeg (mm_M S (mm_rg S a0 21) ((nI 60) + x2).toNatClampNeg)) :=
  Eq.trans (mx_geti t152 d152_86 rfl fl12_237 h0) <|
  Eq.trans (mx_imul t152 d152_89) <|
  Eq.trans (mx_iload_n t152 d152_90 (x := x2) rfl) <|
  Eq.trans (mx_iadd t152 d152_91) <|
  Eq.trans (mx_aload_n t152 d152_92 (x := a0) rfl) <|
  Eq.trans (mx_getR t152 d152_93 rfl fl12_55 h1 h2) <|
  Eq.trans (mx_bipush t152 d152_96 (v := nI 60) rfl) <|
  Eq.trans (mx_iload_n t152 d152_98 (x := x2) rfl) <|
  Eq.trans (mx_iadd t152 d152_99) <|
  Eq.trans (mx_iald t152 d152_100 h4 h3) <|
  Eq.trans (mx_iast2 t152 d152_101 h5 h6) <|
  Eq.trans (mx_aload_n t152 d152_102 (x := a0) rfl) <|
  Eq.trans (mx_getR t152 d152_103 rfl fl12_58 h1 h7) <|
  Eq.trans (mx_bipush t152 d152_106 (v := nI 10) rfl) <|
  (mx_aload_n t152 d152_108 (x := a0) rfl)
theorem b152_109 {d : Nat} {S : mm_S} {a0 : Nat} {x1 : Int32} {x2 : Int32} {p0 : Nat} {p1 : Int32} {p2 : Nat} (h0 : mm_obj S p0 12 = true) (h1 : mm_obj S a0 12 = true) (h2 : (mm_R S a0 22).isSome = true) (h3 : mm_inb ((nI 60) + x2) (mm_N S (mm_rg S a0 22)) = true) (h4 : mm_arr S (mm_rg S a0 22) 13 = true) (h5 : mm_arr S p2 13 = true) (h6 : mm_inb ((p1 * (mm_M S p0 17)) + x2) (mm_N S p2) = true) (h7 : (mm_R S a0 23).isSome = true) : mm_ex d 152 109 [.ref a0, .int x1, .int x2] [.ref p0, .int p1, .ref p2] S =
    mm_ex d 152 132 [.ref a0, .int x1, .int x2] [.ref a0, .int (nI 10), .ref (mm_rg S a0 23)] (mm_uM S p2 ((p1 * (mm_M S p0 17)) + x2).toNatClampNeg (mm_M S (mm_rg S a0 22) ((nI 60) + x2).toNatClampNeg)) :=
  Eq.trans (mx_geti t152 d152_109 rfl fl12_237 h0) <|
  Eq.trans (mx_imul t152 d152_112) <|
  Eq.trans (mx_iload_n t152 d152_113 (x := x2) rfl) <|
  Eq.trans (mx_iadd t152 d152_114) <|
  Eq.trans (mx_aload_n t152 d152_115 (x := a0) rfl) <|
  Eq.trans (mx_getR t152 d152_116 rfl fl12_58 h1 h2) <|
  Eq.trans (mx_bipush t152 d152_119 (v := nI 60) rfl) <|
  Eq.trans (mx_iload_n t152 d152_121 (x := x2) rfl) <|
  Eq.trans (mx_iadd t152 d152_122) <|
  Eq.trans (mx_iald t152 d152_123 h4 h3) <|
  Eq.trans (mx_iast2 t152 d152_124 h5 h6) <|
  Eq.trans (mx_aload_n t152 d152_125 (x := a0) rfl) <|
  Eq.trans (mx_getR t152 d152_126 rfl fl12_61 h1 h7) <|
  Eq.trans (mx_bipush t152 d152_129 (v := nI 10) rfl) <|
  (mx_aload_n t152 d152_131 (x := a0) rfl)
theorem b152_132 {d : Nat} {S : mm_S} {a0 : Nat} {x1 : Int32} {x2 : Int32} {p0 : Nat} {p1 : Int32} {p2 : Nat} (h0 : mm_obj S p0 12 = true) (h1 : mm_obj S a0 12 = true) (h2 : (mm_R S a0 23).isSome = true) (h3 : mm_inb ((nI 60) + x2) (mm_N S (mm_rg S a0 23)) = true) (h4 : mm_arr S (mm_rg S a0 23) 13 = true) (h5 : mm_arr S p2 13 = true) (h6 : mm_inb ((p1 * (mm_M S p0 17)) + x2) (mm_N S p2) = true) : mm_ex d 152 132 [.ref a0, .int x1, .int x2] [.ref p0, .int p1, .ref p2] S =
    mm_ex d 152 50 [.ref a0, .int x1, .int (x2 + nI 1)] [] (mm_uM S p2 ((p1 * (mm_M S p0 17)) + x2).toNatClampNeg (mm_M S (mm_rg S a0 23) ((nI 60) + x2).toNatClampNeg)) :=
  Eq.trans (mx_geti t152 d152_132 rfl fl12_237 h0) <|
  Eq.trans (mx_imul t152 d152_135) <|
  Eq.trans (mx_iload_n t152 d152_136 (x := x2) rfl) <|
  Eq.trans (mx_iadd t152 d152_137) <|
  Eq.trans (mx_aload_n t152 d152_138 (x := a0) rfl) <|
  Eq.trans (mx_getR t152 d152_139 rfl fl12_61 h1 h2) <|
  Eq.trans (mx_bipush t152 d152_142 (v := nI 60) rfl) <|
  Eq.trans (mx_iload_n t152 d152_144 (x := x2) rfl) <|
  Eq.trans (mx_iadd t152 d152_145) <|
  Eq.trans (mx_iald t152 d152_146 h4 h3) <|
  Eq.trans (mx_iast2 t152 d152_147 h5 h6) <|
  Eq.trans (mx_iinc t152 d152_148 (x := x2) (v := nI 1) (ls' := [.ref a0, .int x1, .int (x2 + nI 1)]) rfl rfl rfl rfl) <|
  (mx_goto t152 d152_151 (tgt := 50) (by decide))
theorem b152_154 {d : Nat} {S : mm_S} {a0 : Nat} {x1 : Int32} {x2 : Int32} : mm_ex d 152 154 [.ref a0, .int x1, .int x2] [] S =
    mm_ex d 152 156 [.ref a0, .int x1, .int (nI 0)] [] S :=
  Eq.trans (mx_iconst t152 d152_154 (v := nI 0) rfl) <|
  (mx_istore_n t152 d152_155 (ls' := [.ref a0, .int x1, .int (nI 0)]) rfl rfl)
theorem b152_156 {d : Nat} {S : mm_S} {a0 : Nat} {x1 : Int32} {x2 : Int32} : mm_ex d 152 156 [.ref a0, .int x1, .int x2] [] S =
    if (nI 120) ≤ x2 then mm_ex d 152 192 [.ref a0, .int x1, .int x2] [] S else mm_ex d 152 162 [.ref a0, .int x1, .int x2] [] S :=
  Eq.trans (mx_iload_n t152 d152_156 (x := x2) rfl) <|
  Eq.trans (mx_bipush t152 d152_157 (v := nI 120) rfl) <|
  (mx_cge t152 d152_159 (tgt := 192) (by decide))
theorem b152_162 {d : Nat} {S : mm_S} {a0 : Nat} {x1 : Int32} {x2 : Int32} (h0 : mm_obj S a0 12 = true) (h1 : (mm_R S a0 24).isSome = true) (h2 : mm_inb ((nI 720) + x2) (mm_N S (mm_rg S a0 24)) = true) (h3 : mm_arr S (mm_rg S a0 24) 13 = true) (h4 : mm_inb (((nI 120) * (mm_M S a0 17)) + x2) (mm_N S (mm_rg S a0 24)) = true) : mm_ex d 152 162 [.ref a0, .int x1, .int x2] [] S =
    mm_ex d 152 156 [.ref a0, .int x1, .int (x2 + nI 1)] [] (mm_uM S (mm_rg S a0 24) (((nI 120) * (mm_M S a0 17)) + x2).toNatClampNeg (mm_M S (mm_rg S a0 24) ((nI 720) + x2).toNatClampNeg)) :=
  Eq.trans (mx_aload_n t152 d152_162 (x := a0) rfl) <|
  Eq.trans (mx_getR t152 d152_163 rfl fl12_64 h0 h1) <|
  Eq.trans (mx_bipush t152 d152_166 (v := nI 120) rfl) <|
  Eq.trans (mx_aload_n t152 d152_168 (x := a0) rfl) <|
  Eq.trans (mx_geti t152 d152_169 rfl fl12_237 h0) <|
  Eq.trans (mx_imul t152 d152_172) <|
  Eq.trans (mx_iload_n t152 d152_173 (x := x2) rfl) <|
  Eq.trans (mx_iadd t152 d152_174) <|
  Eq.trans (mx_aload_n t152 d152_175 (x := a0) rfl) <|
  Eq.trans (mx_getR t152 d152_176 rfl fl12_64 h0 h1) <|
  Eq.trans (mx_sipush t152 d152_179 (v := nI 720) rfl) <|
  Eq.trans (mx_iload_n t152 d152_182 (x := x2) rfl) <|
  Eq.trans (mx_iadd t152 d152_183) <|
  Eq.trans (mx_iald t152 d152_184 h3 h2) <|
  Eq.trans (mx_iast2 t152 d152_185 h3 h4) <|
  Eq.trans (mx_iinc t152 d152_186 (x := x2) (v := nI 1) (ls' := [.ref a0, .int x1, .int (x2 + nI 1)]) rfl rfl rfl rfl) <|
  (mx_goto t152 d152_189 (tgt := 156) (by decide))
theorem b152_192 {d : Nat} {S : mm_S} {a0 : Nat} {x1 : Int32} {x2 : Int32} (h0 : mm_obj S a0 12 = true) : mm_ex d 152 192 [.ref a0, .int x1, .int x2] [] S =
    mm_ex d 152 202 [.ref a0, .int x1, .int x2] [.ref a0, .ref a0] (mm_uM S a0 18 (mm_M S a0 17)) :=
  Eq.trans (mx_aload_n t152 d152_192 (x := a0) rfl) <|
  Eq.trans (mx_aload_n t152 d152_193 (x := a0) rfl) <|
  Eq.trans (mx_geti t152 d152_194 rfl fl12_237 h0) <|
  Eq.trans (mx_puti2 t152 d152_197 fl12_46 rfl h0) <|
  Eq.trans (mx_aload_n t152 d152_200 (x := a0) rfl) <|
  (mx_dupr t152 d152_201)
theorem b152_202 {d : Nat} {S : mm_S} {a0 : Nat} {x1 : Int32} {x2 : Int32} {p0 : Nat} {p1 : Nat} (h0 : mm_obj S p0 12 = true) (h1 : mm_obj S p1 12 = true) : mm_ex d 152 202 [.ref a0, .int x1, .int x2] [.ref p0, .ref p1] S =
    mm_ex d 152 211 [.ref a0, .int x1, .int x2] [.ref a0] (mm_uM S p1 17 ((mm_M S p0 17) + (nI 1))) :=
  Eq.trans (mx_geti t152 d152_202 rfl fl12_237 h0) <|
  Eq.trans (mx_iconst t152 d152_205 (v := nI 1) rfl) <|
  Eq.trans (mx_iadd t152 d152_206) <|
  Eq.trans (mx_puti2 t152 d152_207 fl12_237 rfl h1) <|
  (mx_aload_n t152 d152_210 (x := a0) rfl)
theorem b152_211 {d : Nat} {S : mm_S} {a0 : Nat} {x1 : Int32} {x2 : Int32} {p0 : Nat} (h0 : mm_obj S p0 12 = true) : mm_ex d 152 211 [.ref a0, .int x1, .int x2] [.ref p0] S =
    some (some (.int (mm_M S p0 18)), S) :=
  Eq.trans (mx_geti t152 d152_211 rfl fl12_46 h0) <|
  (mx_iret t152 d152_214 (ty := .int) rfl rfl (fun h => nomatch h))
theorem e152 {d : Nat} {S : mm_S} {a0 : Nat} : mm_cl d 152 [.ref a0] S = mm_ex d 152 0 [.ref a0, .null, .null] [] S := mm_cl_eq t152 (Nat.le_of_ble_eq_true rfl) rfl
/-! X12_testOf -/
theorem dd153_0 : (decode prog_14_method_28_code 0 = .ok (.iload_n 1, 1)) ∧ (decode prog_14_method_28_code 1 = .ok (.tableswitch 70 0 5 #[39, 41, 48, 53, 58, 63], 39)) ∧ (decode prog_14_method_28_code 40 = .ok (.iload_n 2, 1)) ∧ (decode prog_14_method_28_code 41 = .ok (.ireturn, 1)) ∧ (decode prog_14_method_28_code 42 = .ok (.aload_n 0, 1)) ∧ (decode prog_14_method_28_code 43 = .ok (.getfield 9, 3)) ∧ (decode prog_14_method_28_code 46 = .ok (.iload_n 2, 1)) ∧ (decode prog_14_method_28_code 47 = .ok (.iaload, 1)) ∧ (decode prog_14_method_28_code 48 = .ok (.ireturn, 1)) ∧ (decode prog_14_method_28_code 49 = .ok (.aload_n 0, 1)) ∧ (decode prog_14_method_28_code 50 = .ok (.getfield 36, 3)) ∧ (decode prog_14_method_28_code 53 = .ok (.ireturn, 1)) ∧ (decode prog_14_method_28_code 54 = .ok (.aload_n 0, 1)) ∧ (decode prog_14_method_28_code 55 = .ok (.getfield 40, 3)) ∧ (decode prog_14_method_28_code 58 = .ok (.ireturn, 1)) ∧ (decode prog_14_method_28_code 59 = .ok (.aload_n 0, 1)) := by decide +kernel
theorem d153_0 : decode prog_14_method_28_code 0 = .ok (.iload_n 1, 1) := dd153_0.1
theorem d153_1 : decode prog_14_method_28_code 1 = .ok (.tableswitch 70 0 5 #[39, 41, 48, 53, 58, 63], 39) := dd153_0.2.1
theorem d153_40 : decode prog_14_method_28_code 40 = .ok (.iload_n 2, 1) := dd153_0.2.2.1
theorem d153_41 : decode prog_14_method_28_code 41 = .ok (.ireturn, 1) := dd153_0.2.2.2.1
theorem d153_42 : decode prog_14_method_28_code 42 = .ok (.aload_n 0, 1) := dd153_0.2.2.2.2.1
theorem d153_43 : decode prog_14_method_28_code 43 = .ok (.getfield 9, 3) := dd153_0.2.2.2.2.2.1
theorem d153_46 : decode prog_14_method_28_code 46 = .ok (.iload_n 2, 1) := dd153_0.2.2.2.2.2.2.1
theorem d153_47 : decode prog_14_method_28_code 47 = .ok (.iaload, 1) := dd153_0.2.2.2.2.2.2.2.1
theorem d153_48 : decode prog_14_method_28_code 48 = .ok (.ireturn, 1) := dd153_0.2.2.2.2.2.2.2.2.1
theorem d153_49 : decode prog_14_method_28_code 49 = .ok (.aload_n 0, 1) := dd153_0.2.2.2.2.2.2.2.2.2.1
theorem d153_50 : decode prog_14_method_28_code 50 = .ok (.getfield 36, 3) := dd153_0.2.2.2.2.2.2.2.2.2.2.1
theorem d153_53 : decode prog_14_method_28_code 53 = .ok (.ireturn, 1) := dd153_0.2.2.2.2.2.2.2.2.2.2.2.1
theorem d153_54 : decode prog_14_method_28_code 54 = .ok (.aload_n 0, 1) := dd153_0.2.2.2.2.2.2.2.2.2.2.2.2.1
theorem d153_55 : decode prog_14_method_28_code 55 = .ok (.getfield 40, 3) := dd153_0.2.2.2.2.2.2.2.2.2.2.2.2.2.1
theorem d153_58 : decode prog_14_method_28_code 58 = .ok (.ireturn, 1) := dd153_0.2.2.2.2.2.2.2.2.2.2.2.2.2.2.1
theorem d153_59 : decode prog_14_method_28_code 59 = .ok (.aload_n 0, 1) := dd153_0.2.2.2.2.2.2.2.2.2.2.2.2.2.2.2
theorem dd153_60 : (decode prog_14_method_28_code 60 = .ok (.getfield 166, 3)) ∧ (decode prog_14_method_28_code 63 = .ok (.ireturn, 1)) ∧ (decode prog_14_method_28_code 64 = .ok (.aload_n 0, 1)) ∧ (decode prog_14_method_28_code 65 = .ok (.getfield 24, 3)) ∧ (decode prog_14_method_28_code 68 = .ok (.iload_n 2, 1)) ∧ (decode prog_14_method_28_code 69 = .ok (.iaload, 1)) ∧ (decode prog_14_method_28_code 70 = .ok (.ireturn, 1)) ∧ (decode prog_14_method_28_code 71 = .ok (.aload_n 0, 1)) ∧ (decode prog_14_method_28_code 72 = .ok (.getfield 21, 3)) ∧ (decode prog_14_method_28_code 75 = .ok (.iload_n 2, 1)) ∧ (decode prog_14_method_28_code 76 = .ok (.iaload, 1)) ∧ (decode prog_14_method_28_code 77 = .ok (.bipush (-5), 2)) ∧ (decode prog_14_method_28_code 79 = .ok (.if_icmp .eq 22, 3)) ∧ (decode prog_14_method_28_code 82 = .ok (.aload_n 0, 1)) ∧ (decode prog_14_method_28_code 83 = .ok (.aload_n 0, 1)) ∧ (decode prog_14_method_28_code 84 = .ok (.getfield 21, 3)) := by decide +kernel
theorem d153_60 : decode prog_14_method_28_code 60 = .ok (.getfield 166, 3) := dd153_60.1
theorem d153_63 : decode prog_14_method_28_code 63 = .ok (.ireturn, 1) := dd153_60.2.1
theorem d153_64 : decode prog_14_method_28_code 64 = .ok (.aload_n 0, 1) := dd153_60.2.2.1
theorem d153_65 : decode prog_14_method_28_code 65 = .ok (.getfield 24, 3) := dd153_60.2.2.2.1
theorem d153_68 : decode prog_14_method_28_code 68 = .ok (.iload_n 2, 1) := dd153_60.2.2.2.2.1
theorem d153_69 : decode prog_14_method_28_code 69 = .ok (.iaload, 1) := dd153_60.2.2.2.2.2.1
theorem d153_70 : decode prog_14_method_28_code 70 = .ok (.ireturn, 1) := dd153_60.2.2.2.2.2.2.1
theorem d153_71 : decode prog_14_method_28_code 71 = .ok (.aload_n 0, 1) := dd153_60.2.2.2.2.2.2.2.1
theorem d153_72 : decode prog_14_method_28_code 72 = .ok (.getfield 21, 3) := dd153_60.2.2.2.2.2.2.2.2.1
theorem d153_75 : decode prog_14_method_28_code 75 = .ok (.iload_n 2, 1) := dd153_60.2.2.2.2.2.2.2.2.2.1
theorem d153_76 : decode prog_14_method_28_code 76 = .ok (.iaload, 1) := dd153_60.2.2.2.2.2.2.2.2.2.2.1
theorem d153_77 : decode prog_14_method_28_code 77 = .ok (.bipush (-5), 2) := dd153_60.2.2.2.2.2.2.2.2.2.2.2.1
theorem d153_79 : decode prog_14_method_28_code 79 = .ok (.if_icmp .eq 22, 3) := dd153_60.2.2.2.2.2.2.2.2.2.2.2.2.1
theorem d153_82 : decode prog_14_method_28_code 82 = .ok (.aload_n 0, 1) := dd153_60.2.2.2.2.2.2.2.2.2.2.2.2.2.1
theorem d153_83 : decode prog_14_method_28_code 83 = .ok (.aload_n 0, 1) := dd153_60.2.2.2.2.2.2.2.2.2.2.2.2.2.2.1
theorem d153_84 : decode prog_14_method_28_code 84 = .ok (.getfield 21, 3) := dd153_60.2.2.2.2.2.2.2.2.2.2.2.2.2.2.2
theorem dd153_87 : (decode prog_14_method_28_code 87 = .ok (.iload_n 2, 1)) ∧ (decode prog_14_method_28_code 88 = .ok (.iaload, 1)) ∧ (decode prog_14_method_28_code 89 = .ok (.invokevirtual 173, 3)) ∧ (decode prog_14_method_28_code 92 = .ok (.bipush (-5), 2)) ∧ (decode prog_14_method_28_code 94 = .ok (.if_icmp .eq 7, 3)) ∧ (decode prog_14_method_28_code 97 = .ok (.iconst 1, 1)) ∧ (decode prog_14_method_28_code 98 = .ok (.goto 4, 3)) ∧ (decode prog_14_method_28_code 101 = .ok (.iconst 0, 1)) ∧ (decode prog_14_method_28_code 102 = .ok (.ireturn, 1)) := by decide +kernel
theorem d153_87 : decode prog_14_method_28_code 87 = .ok (.iload_n 2, 1) := dd153_87.1
theorem d153_88 : decode prog_14_method_28_code 88 = .ok (.iaload, 1) := dd153_87.2.1
theorem d153_89 : decode prog_14_method_28_code 89 = .ok (.invokevirtual 173, 3) := dd153_87.2.2.1
theorem d153_92 : decode prog_14_method_28_code 92 = .ok (.bipush (-5), 2) := dd153_87.2.2.2.1
theorem d153_94 : decode prog_14_method_28_code 94 = .ok (.if_icmp .eq 7, 3) := dd153_87.2.2.2.2.1
theorem d153_97 : decode prog_14_method_28_code 97 = .ok (.iconst 1, 1) := dd153_87.2.2.2.2.2.1
theorem d153_98 : decode prog_14_method_28_code 98 = .ok (.goto 4, 3) := dd153_87.2.2.2.2.2.2.1
theorem d153_101 : decode prog_14_method_28_code 101 = .ok (.iconst 0, 1) := dd153_87.2.2.2.2.2.2.2.1
theorem d153_102 : decode prog_14_method_28_code 102 = .ok (.ireturn, 1) := dd153_87.2.2.2.2.2.2.2.2
theorem b153_0 {d : Nat} {S : mm_S} {a0 : Nat} {x1 : Int32} {x2 : Int32} : mm_ex d 153 0 [.ref a0, .int x1, .int x2] [] S =
    mm_ex d 153 1 [.ref a0, .int x1, .int x2] [.int x1] S :=
  (mx_iload_n t153 d153_0 (x := x1) rfl)
theorem b153_1 {d : Nat} {S : mm_S} {a0 : Nat} {x1 : Int32} {x2 : Int32} {p0 : Int32} : mm_ex d 153 1 [.ref a0, .int x1, .int x2] [.int p0] S =
    if p0 = nI 0 then mm_ex d 153 40 [.ref a0, .int x1, .int x2] [] S else if p0 = nI 1 then mm_ex d 153 42 [.ref a0, .int x1, .int x2] [] S else if p0 = nI 2 then mm_ex d 153 49 [.ref a0, .int x1, .int x2] [] S else if p0 = nI 3 then mm_ex d 153 54 [.ref a0, .int x1, .int x2] [] S else if p0 = nI 4 then mm_ex d 153 59 [.ref a0, .int x1, .int x2] [] S else if p0 = nI 5 then mm_ex d 153 64 [.ref a0, .int x1, .int x2] [] S else mm_ex d 153 71 [.ref a0, .int x1, .int x2] [] S := by
  by_cases e0 : p0 = nI 0
  · subst e0
    rw [if_pos rfl]
    exact mx_tswI t153 d153_1 (by decide) (off := 39) (by decide) (by decide)
  by_cases e1 : p0 = nI 1
  · subst e1
    rw [if_neg (by decide), if_pos rfl]
    exact mx_tswI t153 d153_1 (by decide) (off := 41) (by decide) (by decide)
  by_cases e2 : p0 = nI 2
  · subst e2
    rw [if_neg (by decide), if_neg (by decide), if_pos rfl]
    exact mx_tswI t153 d153_1 (by decide) (off := 48) (by decide) (by decide)
  by_cases e3 : p0 = nI 3
  · subst e3
    rw [if_neg (by decide), if_neg (by decide), if_neg (by decide), if_pos rfl]
    exact mx_tswI t153 d153_1 (by decide) (off := 53) (by decide) (by decide)
  by_cases e4 : p0 = nI 4
  · subst e4
    rw [if_neg (by decide), if_neg (by decide), if_neg (by decide), if_neg (by decide), if_pos rfl]
    exact mx_tswI t153 d153_1 (by decide) (off := 58) (by decide) (by decide)
  by_cases e5 : p0 = nI 5
  · subst e5
    rw [if_neg (by decide), if_neg (by decide), if_neg (by decide), if_neg (by decide), if_neg (by decide), if_pos rfl]
    exact mx_tswI t153 d153_1 (by decide) (off := 63) (by decide) (by decide)
  rw [if_neg e0, if_neg e1, if_neg e2, if_neg e3, if_neg e4, if_neg e5]
  have g0 := mm_ni32 e0
  have g1 := mm_ni32 e1
  have g2 := mm_ni32 e2
  have g3 := mm_ni32 e3
  have g4 := mm_ni32 e4
  have g5 := mm_ni32 e5
  rw [show (nI 0 : Int32).toInt = 0 by decide] at g0
  rw [show (nI 1 : Int32).toInt = 1 by decide] at g1
  rw [show (nI 2 : Int32).toInt = 2 by decide] at g2
  rw [show (nI 3 : Int32).toInt = 3 by decide] at g3
  rw [show (nI 4 : Int32).toInt = 4 by decide] at g4
  rw [show (nI 5 : Int32).toInt = 5 by decide] at g5
  exact mx_tswD t153 d153_1 (by omega) (by decide)
theorem b153_40 {d : Nat} {S : mm_S} {a0 : Nat} {x1 : Int32} {x2 : Int32} : mm_ex d 153 40 [.ref a0, .int x1, .int x2] [] S =
    some (some (.int x2), S) :=
  Eq.trans (mx_iload_n t153 d153_40 (x := x2) rfl) <|
  (mx_iret t153 d153_41 (ty := .int) rfl rfl (fun h => nomatch h))
theorem b153_42 {d : Nat} {S : mm_S} {a0 : Nat} {x1 : Int32} {x2 : Int32} (h0 : mm_obj S a0 12 = true) (h1 : (mm_R S a0 1).isSome = true) (h2 : mm_inb x2 (mm_N S (mm_rg S a0 1)) = true) (h3 : mm_arr S (mm_rg S a0 1) 13 = true) : mm_ex d 153 42 [.ref a0, .int x1, .int x2] [] S =
    some (some (.int (mm_M S (mm_rg S a0 1) (x2).toNatClampNeg)), S) :=
  Eq.trans (mx_aload_n t153 d153_42 (x := a0) rfl) <|
  Eq.trans (mx_getR t153 d153_43 rfl fl12_9 h0 h1) <|
  Eq.trans (mx_iload_n t153 d153_46 (x := x2) rfl) <|
  Eq.trans (mx_iald t153 d153_47 h3 h2) <|
  (mx_iret t153 d153_48 (ty := .int) rfl rfl (fun h => nomatch h))
theorem b153_49 {d : Nat} {S : mm_S} {a0 : Nat} {x1 : Int32} {x2 : Int32} (h0 : mm_obj S a0 12 = true) : mm_ex d 153 49 [.ref a0, .int x1, .int x2] [] S =
    some (some (.int (mm_M S a0 10)), S) :=
  Eq.trans (mx_aload_n t153 d153_49 (x := a0) rfl) <|
  Eq.trans (mx_geti t153 d153_50 rfl fl12_36 h0) <|
  (mx_iret t153 d153_53 (ty := .int) rfl rfl (fun h => nomatch h))
theorem b153_54 {d : Nat} {S : mm_S} {a0 : Nat} {x1 : Int32} {x2 : Int32} (h0 : mm_obj S a0 12 = true) : mm_ex d 153 54 [.ref a0, .int x1, .int x2] [] S =
    some (some (.int (mm_M S a0 11)), S) :=
  Eq.trans (mx_aload_n t153 d153_54 (x := a0) rfl) <|
  Eq.trans (mx_geti t153 d153_55 rfl fl12_40 h0) <|
  (mx_iret t153 d153_58 (ty := .int) rfl rfl (fun h => nomatch h))
theorem b153_59 {d : Nat} {S : mm_S} {a0 : Nat} {x1 : Int32} {x2 : Int32} (h0 : mm_obj S a0 12 = true) : mm_ex d 153 59 [.ref a0, .int x1, .int x2] [] S =
    some (some (.int (mm_M S a0 8)), S) :=
  Eq.trans (mx_aload_n t153 d153_59 (x := a0) rfl) <|
  Eq.trans (mx_geti t153 d153_60 rfl fl12_166 h0) <|
  (mx_iret t153 d153_63 (ty := .int) rfl rfl (fun h => nomatch h))
theorem b153_64 {d : Nat} {S : mm_S} {a0 : Nat} {x1 : Int32} {x2 : Int32} (h0 : mm_obj S a0 12 = true) (h1 : (mm_R S a0 5).isSome = true) (h2 : mm_inb x2 (mm_N S (mm_rg S a0 5)) = true) (h3 : mm_arr S (mm_rg S a0 5) 13 = true) : mm_ex d 153 64 [.ref a0, .int x1, .int x2] [] S =
    some (some (.int (mm_M S (mm_rg S a0 5) (x2).toNatClampNeg)), S) :=
  Eq.trans (mx_aload_n t153 d153_64 (x := a0) rfl) <|
  Eq.trans (mx_getR t153 d153_65 rfl fl12_24 h0 h1) <|
  Eq.trans (mx_iload_n t153 d153_68 (x := x2) rfl) <|
  Eq.trans (mx_iald t153 d153_69 h3 h2) <|
  (mx_iret t153 d153_70 (ty := .int) rfl rfl (fun h => nomatch h))
theorem b153_71 {d : Nat} {S : mm_S} {a0 : Nat} {x1 : Int32} {x2 : Int32} (h0 : mm_obj S a0 12 = true) (h1 : (mm_R S a0 4).isSome = true) (h2 : mm_inb x2 (mm_N S (mm_rg S a0 4)) = true) (h3 : mm_arr S (mm_rg S a0 4) 13 = true) : mm_ex d 153 71 [.ref a0, .int x1, .int x2] [] S =
    if (mm_M S (mm_rg S a0 4) (x2).toNatClampNeg) = (-5) then mm_ex d 153 101 [.ref a0, .int x1, .int x2] [] S else mm_ex d 153 82 [.ref a0, .int x1, .int x2] [] S :=
  Eq.trans (mx_aload_n t153 d153_71 (x := a0) rfl) <|
  Eq.trans (mx_getR t153 d153_72 rfl fl12_21 h0 h1) <|
  Eq.trans (mx_iload_n t153 d153_75 (x := x2) rfl) <|
  Eq.trans (mx_iald t153 d153_76 h3 h2) <|
  Eq.trans (mx_bipush t153 d153_77 (v := -5) rfl) <|
  (mx_ceq t153 d153_79 (tgt := 101) (by decide))
theorem b153_82 {d : Nat} {S : mm_S} {a0 : Nat} {x1 : Int32} {x2 : Int32} (h0 : mm_obj S a0 12 = true) (h1 : (mm_R S a0 4).isSome = true) (h2 : mm_inb x2 (mm_N S (mm_rg S a0 4)) = true) (h3 : mm_arr S (mm_rg S a0 4) 13 = true) (h4 : mm_rk S a0 = 12) : mm_ex (d + 1) 153 82 [.ref a0, .int x1, .int x2] [] S =
    mm_bd (mm_cl d 130 [.ref a0, .int (mm_M S (mm_rg S a0 4) (x2).toNatClampNeg)] S) (fun v S2 => mm_ex (d + 1) 153 92 [.ref a0, .int x1, .int x2] (v.toList ++ []) S2) :=
  Eq.trans (mx_aload_n t153 d153_82 (x := a0) rfl) <|
  Eq.trans (mx_aload_n t153 d153_83 (x := a0) rfl) <|
  Eq.trans (mx_getR t153 d153_84 rfl fl12_21 h0 h1) <|
  Eq.trans (mx_iload_n t153 d153_87 (x := x2) rfl) <|
  Eq.trans (mx_iald t153 d153_88 h3 h2) <|
  (mx_virt (st := []) (k := 12) t153 [.int (mm_M S (mm_rg S a0 4) (x2).toNatClampNeg)] d153_89 vt12_173 rfl rfl (Nat.le_of_ble_eq_true rfl) (Nat.le_of_ble_eq_true rfl) h4)
theorem b153_92 {d : Nat} {S : mm_S} {a0 : Nat} {x1 : Int32} {x2 : Int32} {p0 : Int32} : mm_ex d 153 92 [.ref a0, .int x1, .int x2] [.int p0] S =
    if p0 = (-5) then mm_ex d 153 101 [.ref a0, .int x1, .int x2] [] S else mm_ex d 153 97 [.ref a0, .int x1, .int x2] [] S :=
  Eq.trans (mx_bipush t153 d153_92 (v := -5) rfl) <|
  (mx_ceq t153 d153_94 (tgt := 101) (by decide))
theorem b153_97 {d : Nat} {S : mm_S} {a0 : Nat} {x1 : Int32} {x2 : Int32} : mm_ex d 153 97 [.ref a0, .int x1, .int x2] [] S =
    some (some (.int (nI 1)), S) :=
  Eq.trans (mx_iconst t153 d153_97 (v := nI 1) rfl) <|
  Eq.trans (mx_goto t153 d153_98 (tgt := 102) (by decide)) <|
  (mx_iret t153 d153_102 (ty := .int) rfl rfl (fun h => nomatch h))
theorem b153_101 {d : Nat} {S : mm_S} {a0 : Nat} {x1 : Int32} {x2 : Int32} : mm_ex d 153 101 [.ref a0, .int x1, .int x2] [] S =
    some (some (.int (nI 0)), S) :=
  Eq.trans (mx_iconst t153 d153_101 (v := nI 0) rfl) <|
  (mx_iret t153 d153_102 (ty := .int) rfl rfl (fun h => nomatch h))
theorem e153 {d : Nat} {S : mm_S} {a0 : Nat} {x1 : Int32} {x2 : Int32} : mm_cl d 153 [.ref a0, .int x1, .int x2] S = mm_ex d 153 0 [.ref a0, .int x1, .int x2] [] S := mm_cl_eq t153 (Nat.le_of_ble_eq_true rfl) rfl
/-! X12_doesHold -/
theorem dd154_0 : (decode prog_14_method_29_code 0 = .ok (.iconst 0, 1)) ∧ (decode prog_14_method_29_code 1 = .ok (.istore_n 3, 1)) ∧ (decode prog_14_method_29_code 2 = .ok (.aload_n 0, 1)) ∧ (decode prog_14_method_29_code 3 = .ok (.getfield 58, 3)) ∧ (decode prog_14_method_29_code 6 = .ok (.iload_n 1, 1)) ∧ (decode prog_14_method_29_code 7 = .ok (.iaload, 1)) ∧ (decode prog_14_method_29_code 8 = .ok (.istore 4, 2)) ∧ (decode prog_14_method_29_code 10 = .ok (.iload 4, 2)) ∧ (decode prog_14_method_29_code 12 = .ok (.aload_n 0, 1)) ∧ (decode prog_14_method_29_code 13 = .ok (.getfield 61, 3)) ∧ (decode prog_14_method_29_code 16 = .ok (.iload_n 1, 1)) ∧ (decode prog_14_method_29_code 17 = .ok (.iaload, 1)) ∧ (decode prog_14_method_29_code 18 = .ok (.if_icmp .ge 243, 3)) ∧ (decode prog_14_method_29_code 21 = .ok (.aload_n 0, 1)) ∧ (decode prog_14_method_29_code 22 = .ok (.getfield 64, 3)) ∧ (decode prog_14_method_29_code 25 = .ok (.bipush 120, 2)) := by decide +kernel
theorem d154_0 : decode prog_14_method_29_code 0 = .ok (.iconst 0, 1) := dd154_0.1
theorem d154_1 : decode prog_14_method_29_code 1 = .ok (.istore_n 3, 1) := dd154_0.2.1
theorem d154_2 : decode prog_14_method_29_code 2 = .ok (.aload_n 0, 1) := dd154_0.2.2.1
theorem d154_3 : decode prog_14_method_29_code 3 = .ok (.getfield 58, 3) := dd154_0.2.2.2.1
theorem d154_6 : decode prog_14_method_29_code 6 = .ok (.iload_n 1, 1) := dd154_0.2.2.2.2.1
theorem d154_7 : decode prog_14_method_29_code 7 = .ok (.iaload, 1) := dd154_0.2.2.2.2.2.1
theorem d154_8 : decode prog_14_method_29_code 8 = .ok (.istore 4, 2) := dd154_0.2.2.2.2.2.2.1
theorem d154_10 : decode prog_14_method_29_code 10 = .ok (.iload 4, 2) := dd154_0.2.2.2.2.2.2.2.1
theorem d154_12 : decode prog_14_method_29_code 12 = .ok (.aload_n 0, 1) := dd154_0.2.2.2.2.2.2.2.2.1
theorem d154_13 : decode prog_14_method_29_code 13 = .ok (.getfield 61, 3) := dd154_0.2.2.2.2.2.2.2.2.2.1
theorem d154_16 : decode prog_14_method_29_code 16 = .ok (.iload_n 1, 1) := dd154_0.2.2.2.2.2.2.2.2.2.2.1
theorem d154_17 : decode prog_14_method_29_code 17 = .ok (.iaload, 1) := dd154_0.2.2.2.2.2.2.2.2.2.2.2.1
theorem d154_18 : decode prog_14_method_29_code 18 = .ok (.if_icmp .ge 243, 3) := dd154_0.2.2.2.2.2.2.2.2.2.2.2.2.1
theorem d154_21 : decode prog_14_method_29_code 21 = .ok (.aload_n 0, 1) := dd154_0.2.2.2.2.2.2.2.2.2.2.2.2.2.1
theorem d154_22 : decode prog_14_method_29_code 22 = .ok (.getfield 64, 3) := dd154_0.2.2.2.2.2.2.2.2.2.2.2.2.2.2.1
theorem d154_25 : decode prog_14_method_29_code 25 = .ok (.bipush 120, 2) := dd154_0.2.2.2.2.2.2.2.2.2.2.2.2.2.2.2
theorem dd154_27 : (decode prog_14_method_29_code 27 = .ok (.aload_n 0, 1)) ∧ (decode prog_14_method_29_code 28 = .ok (.getfield 46, 3)) ∧ (decode prog_14_method_29_code 31 = .ok (.imul, 1)) ∧ (decode prog_14_method_29_code 32 = .ok (.iload 4, 2)) ∧ (decode prog_14_method_29_code 34 = .ok (.iadd, 1)) ∧ (decode prog_14_method_29_code 35 = .ok (.iaload, 1)) ∧ (decode prog_14_method_29_code 36 = .ok (.istore 5, 2)) ∧ (decode prog_14_method_29_code 38 = .ok (.iload 5, 2)) ∧ (decode prog_14_method_29_code 40 = .ok (.sipush 1000, 3)) ∧ (decode prog_14_method_29_code 43 = .ok (.if_icmp .lt 109, 3)) ∧ (decode prog_14_method_29_code 46 = .ok (.aload_n 0, 1)) ∧ (decode prog_14_method_29_code 47 = .ok (.iload 5, 2)) ∧ (decode prog_14_method_29_code 49 = .ok (.sipush 1000, 3)) ∧ (decode prog_14_method_29_code 52 = .ok (.idiv, 1)) ∧ (decode prog_14_method_29_code 53 = .ok (.iconst 1, 1)) ∧ (decode prog_14_method_29_code 54 = .ok (.isub, 1)) := by decide +kernel
theorem d154_27 : decode prog_14_method_29_code 27 = .ok (.aload_n 0, 1) := dd154_27.1
theorem d154_28 : decode prog_14_method_29_code 28 = .ok (.getfield 46, 3) := dd154_27.2.1
theorem d154_31 : decode prog_14_method_29_code 31 = .ok (.imul, 1) := dd154_27.2.2.1
theorem d154_32 : decode prog_14_method_29_code 32 = .ok (.iload 4, 2) := dd154_27.2.2.2.1
theorem d154_34 : decode prog_14_method_29_code 34 = .ok (.iadd, 1) := dd154_27.2.2.2.2.1
theorem d154_35 : decode prog_14_method_29_code 35 = .ok (.iaload, 1) := dd154_27.2.2.2.2.2.1
theorem d154_36 : decode prog_14_method_29_code 36 = .ok (.istore 5, 2) := dd154_27.2.2.2.2.2.2.1
theorem d154_38 : decode prog_14_method_29_code 38 = .ok (.iload 5, 2) := dd154_27.2.2.2.2.2.2.2.1
theorem d154_40 : decode prog_14_method_29_code 40 = .ok (.sipush 1000, 3) := dd154_27.2.2.2.2.2.2.2.2.1
theorem d154_43 : decode prog_14_method_29_code 43 = .ok (.if_icmp .lt 109, 3) := dd154_27.2.2.2.2.2.2.2.2.2.1
theorem d154_46 : decode prog_14_method_29_code 46 = .ok (.aload_n 0, 1) := dd154_27.2.2.2.2.2.2.2.2.2.2.1
theorem d154_47 : decode prog_14_method_29_code 47 = .ok (.iload 5, 2) := dd154_27.2.2.2.2.2.2.2.2.2.2.2.1
theorem d154_49 : decode prog_14_method_29_code 49 = .ok (.sipush 1000, 3) := dd154_27.2.2.2.2.2.2.2.2.2.2.2.2.1
theorem d154_52 : decode prog_14_method_29_code 52 = .ok (.idiv, 1) := dd154_27.2.2.2.2.2.2.2.2.2.2.2.2.2.1
theorem d154_53 : decode prog_14_method_29_code 53 = .ok (.iconst 1, 1) := dd154_27.2.2.2.2.2.2.2.2.2.2.2.2.2.2.1
theorem d154_54 : decode prog_14_method_29_code 54 = .ok (.isub, 1) := dd154_27.2.2.2.2.2.2.2.2.2.2.2.2.2.2.2
theorem dd154_55 : (decode prog_14_method_29_code 55 = .ok (.iconst 3, 1)) ∧ (decode prog_14_method_29_code 56 = .ok (.idiv, 1)) ∧ (decode prog_14_method_29_code 57 = .ok (.iload_n 2, 1)) ∧ (decode prog_14_method_29_code 58 = .ok (.invokevirtual 243, 3)) ∧ (decode prog_14_method_29_code 61 = .ok (.istore 6, 2)) ∧ (decode prog_14_method_29_code 63 = .ok (.iload 5, 2)) ∧ (decode prog_14_method_29_code 65 = .ok (.sipush 1000, 3)) ∧ (decode prog_14_method_29_code 68 = .ok (.idiv, 1)) ∧ (decode prog_14_method_29_code 69 = .ok (.iconst 1, 1)) ∧ (decode prog_14_method_29_code 70 = .ok (.isub, 1)) ∧ (decode prog_14_method_29_code 71 = .ok (.iconst 3, 1)) ∧ (decode prog_14_method_29_code 72 = .ok (.irem, 1)) ∧ (decode prog_14_method_29_code 73 = .ok (.istore 7, 2)) ∧ (decode prog_14_method_29_code 75 = .ok (.aload_n 0, 1)) ∧ (decode prog_14_method_29_code 76 = .ok (.getfield 98, 3)) ∧ (decode prog_14_method_29_code 79 = .ok (.iload_n 3, 1)) := by decide +kernel
theorem d154_55 : decode prog_14_method_29_code 55 = .ok (.iconst 3, 1) := dd154_55.1
theorem d154_56 : decode prog_14_method_29_code 56 = .ok (.idiv, 1) := dd154_55.2.1
theorem d154_57 : decode prog_14_method_29_code 57 = .ok (.iload_n 2, 1) := dd154_55.2.2.1
theorem d154_58 : decode prog_14_method_29_code 58 = .ok (.invokevirtual 243, 3) := dd154_55.2.2.2.1
theorem d154_61 : decode prog_14_method_29_code 61 = .ok (.istore 6, 2) := dd154_55.2.2.2.2.1
theorem d154_63 : decode prog_14_method_29_code 63 = .ok (.iload 5, 2) := dd154_55.2.2.2.2.2.1
theorem d154_65 : decode prog_14_method_29_code 65 = .ok (.sipush 1000, 3) := dd154_55.2.2.2.2.2.2.1
theorem d154_68 : decode prog_14_method_29_code 68 = .ok (.idiv, 1) := dd154_55.2.2.2.2.2.2.2.1
theorem d154_69 : decode prog_14_method_29_code 69 = .ok (.iconst 1, 1) := dd154_55.2.2.2.2.2.2.2.2.1
theorem d154_70 : decode prog_14_method_29_code 70 = .ok (.isub, 1) := dd154_55.2.2.2.2.2.2.2.2.2.1
theorem d154_71 : decode prog_14_method_29_code 71 = .ok (.iconst 3, 1) := dd154_55.2.2.2.2.2.2.2.2.2.2.1
theorem d154_72 : decode prog_14_method_29_code 72 = .ok (.irem, 1) := dd154_55.2.2.2.2.2.2.2.2.2.2.2.1
theorem d154_73 : decode prog_14_method_29_code 73 = .ok (.istore 7, 2) := dd154_55.2.2.2.2.2.2.2.2.2.2.2.2.1
theorem d154_75 : decode prog_14_method_29_code 75 = .ok (.aload_n 0, 1) := dd154_55.2.2.2.2.2.2.2.2.2.2.2.2.2.1
theorem d154_76 : decode prog_14_method_29_code 76 = .ok (.getfield 98, 3) := dd154_55.2.2.2.2.2.2.2.2.2.2.2.2.2.2.1
theorem d154_79 : decode prog_14_method_29_code 79 = .ok (.iload_n 3, 1) := dd154_55.2.2.2.2.2.2.2.2.2.2.2.2.2.2.2
theorem dd154_80 : (decode prog_14_method_29_code 80 = .ok (.iload 7, 2)) ∧ (decode prog_14_method_29_code 82 = .ok (.ifCond .ne 22, 3)) ∧ (decode prog_14_method_29_code 85 = .ok (.iload 6, 2)) ∧ (decode prog_14_method_29_code 87 = .ok (.iload 5, 2)) ∧ (decode prog_14_method_29_code 89 = .ok (.sipush 1000, 3)) ∧ (decode prog_14_method_29_code 92 = .ok (.irem, 1)) ∧ (decode prog_14_method_29_code 93 = .ok (.if_icmp .ge 7, 3)) ∧ (decode prog_14_method_29_code 96 = .ok (.iconst 1, 1)) ∧ (decode prog_14_method_29_code 97 = .ok (.goto 48, 3)) ∧ (decode prog_14_method_29_code 100 = .ok (.iconst 0, 1)) ∧ (decode prog_14_method_29_code 101 = .ok (.goto 44, 3)) ∧ (decode prog_14_method_29_code 104 = .ok (.iload 7, 2)) ∧ (decode prog_14_method_29_code 106 = .ok (.iconst 1, 1)) ∧ (decode prog_14_method_29_code 107 = .ok (.if_icmp .ne 22, 3)) ∧ (decode prog_14_method_29_code 110 = .ok (.iload 6, 2)) ∧ (decode prog_14_method_29_code 112 = .ok (.iload 5, 2)) := by decide +kernel
theorem d154_80 : decode prog_14_method_29_code 80 = .ok (.iload 7, 2) := dd154_80.1
theorem d154_82 : decode prog_14_method_29_code 82 = .ok (.ifCond .ne 22, 3) := dd154_80.2.1
theorem d154_85 : decode prog_14_method_29_code 85 = .ok (.iload 6, 2) := dd154_80.2.2.1
theorem d154_87 : decode prog_14_method_29_code 87 = .ok (.iload 5, 2) := dd154_80.2.2.2.1
theorem d154_89 : decode prog_14_method_29_code 89 = .ok (.sipush 1000, 3) := dd154_80.2.2.2.2.1
theorem d154_92 : decode prog_14_method_29_code 92 = .ok (.irem, 1) := dd154_80.2.2.2.2.2.1
theorem d154_93 : decode prog_14_method_29_code 93 = .ok (.if_icmp .ge 7, 3) := dd154_80.2.2.2.2.2.2.1
theorem d154_96 : decode prog_14_method_29_code 96 = .ok (.iconst 1, 1) := dd154_80.2.2.2.2.2.2.2.1
theorem d154_97 : decode prog_14_method_29_code 97 = .ok (.goto 48, 3) := dd154_80.2.2.2.2.2.2.2.2.1
theorem d154_100 : decode prog_14_method_29_code 100 = .ok (.iconst 0, 1) := dd154_80.2.2.2.2.2.2.2.2.2.1
theorem d154_101 : decode prog_14_method_29_code 101 = .ok (.goto 44, 3) := dd154_80.2.2.2.2.2.2.2.2.2.2.1
theorem d154_104 : decode prog_14_method_29_code 104 = .ok (.iload 7, 2) := dd154_80.2.2.2.2.2.2.2.2.2.2.2.1
theorem d154_106 : decode prog_14_method_29_code 106 = .ok (.iconst 1, 1) := dd154_80.2.2.2.2.2.2.2.2.2.2.2.2.1
theorem d154_107 : decode prog_14_method_29_code 107 = .ok (.if_icmp .ne 22, 3) := dd154_80.2.2.2.2.2.2.2.2.2.2.2.2.2.1
theorem d154_110 : decode prog_14_method_29_code 110 = .ok (.iload 6, 2) := dd154_80.2.2.2.2.2.2.2.2.2.2.2.2.2.2.1
theorem d154_112 : decode prog_14_method_29_code 112 = .ok (.iload 5, 2) := dd154_80.2.2.2.2.2.2.2.2.2.2.2.2.2.2.2
theorem dd154_114 : (decode prog_14_method_29_code 114 = .ok (.sipush 1000, 3)) ∧ (decode prog_14_method_29_code 117 = .ok (.irem, 1)) ∧ (decode prog_14_method_29_code 118 = .ok (.if_icmp .ne 7, 3)) ∧ (decode prog_14_method_29_code 121 = .ok (.iconst 1, 1)) ∧ (decode prog_14_method_29_code 122 = .ok (.goto 23, 3)) ∧ (decode prog_14_method_29_code 125 = .ok (.iconst 0, 1)) ∧ (decode prog_14_method_29_code 126 = .ok (.goto 19, 3)) ∧ (decode prog_14_method_29_code 129 = .ok (.iload 6, 2)) ∧ (decode prog_14_method_29_code 131 = .ok (.iload 5, 2)) ∧ (decode prog_14_method_29_code 133 = .ok (.sipush 1000, 3)) ∧ (decode prog_14_method_29_code 136 = .ok (.irem, 1)) ∧ (decode prog_14_method_29_code 137 = .ok (.if_icmp .le 7, 3)) ∧ (decode prog_14_method_29_code 140 = .ok (.iconst 1, 1)) ∧ (decode prog_14_method_29_code 141 = .ok (.goto 4, 3)) ∧ (decode prog_14_method_29_code 144 = .ok (.iconst 0, 1)) ∧ (decode prog_14_method_29_code 145 = .ok (.bastore, 1)) := by decide +kernel
theorem d154_114 : decode prog_14_method_29_code 114 = .ok (.sipush 1000, 3) := dd154_114.1
theorem d154_117 : decode prog_14_method_29_code 117 = .ok (.irem, 1) := dd154_114.2.1
theorem d154_118 : decode prog_14_method_29_code 118 = .ok (.if_icmp .ne 7, 3) := dd154_114.2.2.1
theorem d154_121 : decode prog_14_method_29_code 121 = .ok (.iconst 1, 1) := dd154_114.2.2.2.1
theorem d154_122 : decode prog_14_method_29_code 122 = .ok (.goto 23, 3) := dd154_114.2.2.2.2.1
theorem d154_125 : decode prog_14_method_29_code 125 = .ok (.iconst 0, 1) := dd154_114.2.2.2.2.2.1
theorem d154_126 : decode prog_14_method_29_code 126 = .ok (.goto 19, 3) := dd154_114.2.2.2.2.2.2.1
theorem d154_129 : decode prog_14_method_29_code 129 = .ok (.iload 6, 2) := dd154_114.2.2.2.2.2.2.2.1
theorem d154_131 : decode prog_14_method_29_code 131 = .ok (.iload 5, 2) := dd154_114.2.2.2.2.2.2.2.2.1
theorem d154_133 : decode prog_14_method_29_code 133 = .ok (.sipush 1000, 3) := dd154_114.2.2.2.2.2.2.2.2.2.1
theorem d154_136 : decode prog_14_method_29_code 136 = .ok (.irem, 1) := dd154_114.2.2.2.2.2.2.2.2.2.2.1
theorem d154_137 : decode prog_14_method_29_code 137 = .ok (.if_icmp .le 7, 3) := dd154_114.2.2.2.2.2.2.2.2.2.2.2.1
theorem d154_140 : decode prog_14_method_29_code 140 = .ok (.iconst 1, 1) := dd154_114.2.2.2.2.2.2.2.2.2.2.2.2.1
theorem d154_141 : decode prog_14_method_29_code 141 = .ok (.goto 4, 3) := dd154_114.2.2.2.2.2.2.2.2.2.2.2.2.2.1
theorem d154_144 : decode prog_14_method_29_code 144 = .ok (.iconst 0, 1) := dd154_114.2.2.2.2.2.2.2.2.2.2.2.2.2.2.1
theorem d154_145 : decode prog_14_method_29_code 145 = .ok (.bastore, 1) := dd154_114.2.2.2.2.2.2.2.2.2.2.2.2.2.2.2
theorem dd154_146 : (decode prog_14_method_29_code 146 = .ok (.iinc 3 1, 3)) ∧ (decode prog_14_method_29_code 149 = .ok (.goto 106, 3)) ∧ (decode prog_14_method_29_code 152 = .ok (.iload 5, 2)) ∧ (decode prog_14_method_29_code 154 = .ok (.iconst 3, 1)) ∧ (decode prog_14_method_29_code 155 = .ok (.if_icmp .ne 30, 3)) ∧ (decode prog_14_method_29_code 158 = .ok (.aload_n 0, 1)) ∧ (decode prog_14_method_29_code 159 = .ok (.getfield 98, 3)) ∧ (decode prog_14_method_29_code 162 = .ok (.iload_n 3, 1)) ∧ (decode prog_14_method_29_code 163 = .ok (.iconst 1, 1)) ∧ (decode prog_14_method_29_code 164 = .ok (.isub, 1)) ∧ (decode prog_14_method_29_code 165 = .ok (.aload_n 0, 1)) ∧ (decode prog_14_method_29_code 166 = .ok (.getfield 98, 3)) ∧ (decode prog_14_method_29_code 169 = .ok (.iload_n 3, 1)) ∧ (decode prog_14_method_29_code 170 = .ok (.iconst 1, 1)) ∧ (decode prog_14_method_29_code 171 = .ok (.isub, 1)) ∧ (decode prog_14_method_29_code 172 = .ok (.baload, 1)) := by decide +kernel
theorem d154_146 : decode prog_14_method_29_code 146 = .ok (.iinc 3 1, 3) := dd154_146.1
theorem d154_149 : decode prog_14_method_29_code 149 = .ok (.goto 106, 3) := dd154_146.2.1
theorem d154_152 : decode prog_14_method_29_code 152 = .ok (.iload 5, 2) := dd154_146.2.2.1
theorem d154_154 : decode prog_14_method_29_code 154 = .ok (.iconst 3, 1) := dd154_146.2.2.2.1
theorem d154_155 : decode prog_14_method_29_code 155 = .ok (.if_icmp .ne 30, 3) := dd154_146.2.2.2.2.1
theorem d154_158 : decode prog_14_method_29_code 158 = .ok (.aload_n 0, 1) := dd154_146.2.2.2.2.2.1
theorem d154_159 : decode prog_14_method_29_code 159 = .ok (.getfield 98, 3) := dd154_146.2.2.2.2.2.2.1
theorem d154_162 : decode prog_14_method_29_code 162 = .ok (.iload_n 3, 1) := dd154_146.2.2.2.2.2.2.2.1
theorem d154_163 : decode prog_14_method_29_code 163 = .ok (.iconst 1, 1) := dd154_146.2.2.2.2.2.2.2.2.1
theorem d154_164 : decode prog_14_method_29_code 164 = .ok (.isub, 1) := dd154_146.2.2.2.2.2.2.2.2.2.1
theorem d154_165 : decode prog_14_method_29_code 165 = .ok (.aload_n 0, 1) := dd154_146.2.2.2.2.2.2.2.2.2.2.1
theorem d154_166 : decode prog_14_method_29_code 166 = .ok (.getfield 98, 3) := dd154_146.2.2.2.2.2.2.2.2.2.2.2.1
theorem d154_169 : decode prog_14_method_29_code 169 = .ok (.iload_n 3, 1) := dd154_146.2.2.2.2.2.2.2.2.2.2.2.2.1
theorem d154_170 : decode prog_14_method_29_code 170 = .ok (.iconst 1, 1) := dd154_146.2.2.2.2.2.2.2.2.2.2.2.2.2.1
theorem d154_171 : decode prog_14_method_29_code 171 = .ok (.isub, 1) := dd154_146.2.2.2.2.2.2.2.2.2.2.2.2.2.2.1
theorem d154_172 : decode prog_14_method_29_code 172 = .ok (.baload, 1) := dd154_146.2.2.2.2.2.2.2.2.2.2.2.2.2.2.2
theorem dd154_173 : (decode prog_14_method_29_code 173 = .ok (.ifCond .ne 7, 3)) ∧ (decode prog_14_method_29_code 176 = .ok (.iconst 1, 1)) ∧ (decode prog_14_method_29_code 177 = .ok (.goto 4, 3)) ∧ (decode prog_14_method_29_code 180 = .ok (.iconst 0, 1)) ∧ (decode prog_14_method_29_code 181 = .ok (.bastore, 1)) ∧ (decode prog_14_method_29_code 182 = .ok (.goto 73, 3)) ∧ (decode prog_14_method_29_code 185 = .ok (.iinc 3 (-1), 3)) ∧ (decode prog_14_method_29_code 188 = .ok (.aload_n 0, 1)) ∧ (decode prog_14_method_29_code 189 = .ok (.getfield 98, 3)) ∧ (decode prog_14_method_29_code 192 = .ok (.iload_n 3, 1)) ∧ (decode prog_14_method_29_code 193 = .ok (.iconst 1, 1)) ∧ (decode prog_14_method_29_code 194 = .ok (.isub, 1)) ∧ (decode prog_14_method_29_code 195 = .ok (.iload 5, 2)) ∧ (decode prog_14_method_29_code 197 = .ok (.iconst 1, 1)) ∧ (decode prog_14_method_29_code 198 = .ok (.if_icmp .ne 31, 3)) ∧ (decode prog_14_method_29_code 201 = .ok (.aload_n 0, 1)) := by decide +kernel
theorem d154_173 : decode prog_14_method_29_code 173 = .ok (.ifCond .ne 7, 3) := dd154_173.1
theorem d154_176 : decode prog_14_method_29_code 176 = .ok (.iconst 1, 1) := dd154_173.2.1
theorem d154_177 : decode prog_14_method_29_code 177 = .ok (.goto 4, 3) := dd154_173.2.2.1
theorem d154_180 : decode prog_14_method_29_code 180 = .ok (.iconst 0, 1) := dd154_173.2.2.2.1
theorem d154_181 : decode prog_14_method_29_code 181 = .ok (.bastore, 1) := dd154_173.2.2.2.2.1
theorem d154_182 : decode prog_14_method_29_code 182 = .ok (.goto 73, 3) := dd154_173.2.2.2.2.2.1
theorem d154_185 : decode prog_14_method_29_code 185 = .ok (.iinc 3 (-1), 3) := dd154_173.2.2.2.2.2.2.1
theorem d154_188 : decode prog_14_method_29_code 188 = .ok (.aload_n 0, 1) := dd154_173.2.2.2.2.2.2.2.1
theorem d154_189 : decode prog_14_method_29_code 189 = .ok (.getfield 98, 3) := dd154_173.2.2.2.2.2.2.2.2.1
theorem d154_192 : decode prog_14_method_29_code 192 = .ok (.iload_n 3, 1) := dd154_173.2.2.2.2.2.2.2.2.2.1
theorem d154_193 : decode prog_14_method_29_code 193 = .ok (.iconst 1, 1) := dd154_173.2.2.2.2.2.2.2.2.2.2.1
theorem d154_194 : decode prog_14_method_29_code 194 = .ok (.isub, 1) := dd154_173.2.2.2.2.2.2.2.2.2.2.2.1
theorem d154_195 : decode prog_14_method_29_code 195 = .ok (.iload 5, 2) := dd154_173.2.2.2.2.2.2.2.2.2.2.2.2.1
theorem d154_197 : decode prog_14_method_29_code 197 = .ok (.iconst 1, 1) := dd154_173.2.2.2.2.2.2.2.2.2.2.2.2.2.1
theorem d154_198 : decode prog_14_method_29_code 198 = .ok (.if_icmp .ne 31, 3) := dd154_173.2.2.2.2.2.2.2.2.2.2.2.2.2.2.1
theorem d154_201 : decode prog_14_method_29_code 201 = .ok (.aload_n 0, 1) := dd154_173.2.2.2.2.2.2.2.2.2.2.2.2.2.2.2
theorem dd154_202 : (decode prog_14_method_29_code 202 = .ok (.getfield 98, 3)) ∧ (decode prog_14_method_29_code 205 = .ok (.iload_n 3, 1)) ∧ (decode prog_14_method_29_code 206 = .ok (.iconst 1, 1)) ∧ (decode prog_14_method_29_code 207 = .ok (.isub, 1)) ∧ (decode prog_14_method_29_code 208 = .ok (.baload, 1)) ∧ (decode prog_14_method_29_code 209 = .ok (.ifCond .ne 12, 3)) ∧ (decode prog_14_method_29_code 212 = .ok (.aload_n 0, 1)) ∧ (decode prog_14_method_29_code 213 = .ok (.getfield 98, 3)) ∧ (decode prog_14_method_29_code 216 = .ok (.iload_n 3, 1)) ∧ (decode prog_14_method_29_code 217 = .ok (.baload, 1)) ∧ (decode prog_14_method_29_code 218 = .ok (.ifCond .eq 7, 3)) ∧ (decode prog_14_method_29_code 221 = .ok (.iconst 1, 1)) ∧ (decode prog_14_method_29_code 222 = .ok (.goto 32, 3)) ∧ (decode prog_14_method_29_code 225 = .ok (.iconst 0, 1)) ∧ (decode prog_14_method_29_code 226 = .ok (.goto 28, 3)) ∧ (decode prog_14_method_29_code 229 = .ok (.aload_n 0, 1)) := by decide +kernel
theorem d154_202 : decode prog_14_method_29_code 202 = .ok (.getfield 98, 3) := dd154_202.1
theorem d154_205 : decode prog_14_method_29_code 205 = .ok (.iload_n 3, 1) := dd154_202.2.1
theorem d154_206 : decode prog_14_method_29_code 206 = .ok (.iconst 1, 1) := dd154_202.2.2.1
theorem d154_207 : decode prog_14_method_29_code 207 = .ok (.isub, 1) := dd154_202.2.2.2.1
theorem d154_208 : decode prog_14_method_29_code 208 = .ok (.baload, 1) := dd154_202.2.2.2.2.1
theorem d154_209 : decode prog_14_method_29_code 209 = .ok (.ifCond .ne 12, 3) := dd154_202.2.2.2.2.2.1
theorem d154_212 : decode prog_14_method_29_code 212 = .ok (.aload_n 0, 1) := dd154_202.2.2.2.2.2.2.1
theorem d154_213 : decode prog_14_method_29_code 213 = .ok (.getfield 98, 3) := dd154_202.2.2.2.2.2.2.2.1
theorem d154_216 : decode prog_14_method_29_code 216 = .ok (.iload_n 3, 1) := dd154_202.2.2.2.2.2.2.2.2.1
theorem d154_217 : decode prog_14_method_29_code 217 = .ok (.baload, 1) := dd154_202.2.2.2.2.2.2.2.2.2.1
theorem d154_218 : decode prog_14_method_29_code 218 = .ok (.ifCond .eq 7, 3) := dd154_202.2.2.2.2.2.2.2.2.2.2.1
theorem d154_221 : decode prog_14_method_29_code 221 = .ok (.iconst 1, 1) := dd154_202.2.2.2.2.2.2.2.2.2.2.2.1
theorem d154_222 : decode prog_14_method_29_code 222 = .ok (.goto 32, 3) := dd154_202.2.2.2.2.2.2.2.2.2.2.2.2.1
theorem d154_225 : decode prog_14_method_29_code 225 = .ok (.iconst 0, 1) := dd154_202.2.2.2.2.2.2.2.2.2.2.2.2.2.1
theorem d154_226 : decode prog_14_method_29_code 226 = .ok (.goto 28, 3) := dd154_202.2.2.2.2.2.2.2.2.2.2.2.2.2.2.1
theorem d154_229 : decode prog_14_method_29_code 229 = .ok (.aload_n 0, 1) := dd154_202.2.2.2.2.2.2.2.2.2.2.2.2.2.2.2
theorem dd154_230 : (decode prog_14_method_29_code 230 = .ok (.getfield 98, 3)) ∧ (decode prog_14_method_29_code 233 = .ok (.iload_n 3, 1)) ∧ (decode prog_14_method_29_code 234 = .ok (.iconst 1, 1)) ∧ (decode prog_14_method_29_code 235 = .ok (.isub, 1)) ∧ (decode prog_14_method_29_code 236 = .ok (.baload, 1)) ∧ (decode prog_14_method_29_code 237 = .ok (.ifCond .eq 16, 3)) ∧ (decode prog_14_method_29_code 240 = .ok (.aload_n 0, 1)) ∧ (decode prog_14_method_29_code 241 = .ok (.getfield 98, 3)) ∧ (decode prog_14_method_29_code 244 = .ok (.iload_n 3, 1)) ∧ (decode prog_14_method_29_code 245 = .ok (.baload, 1)) ∧ (decode prog_14_method_29_code 246 = .ok (.ifCond .eq 7, 3)) ∧ (decode prog_14_method_29_code 249 = .ok (.iconst 1, 1)) ∧ (decode prog_14_method_29_code 250 = .ok (.goto 4, 3)) ∧ (decode prog_14_method_29_code 253 = .ok (.iconst 0, 1)) ∧ (decode prog_14_method_29_code 254 = .ok (.bastore, 1)) ∧ (decode prog_14_method_29_code 255 = .ok (.iinc 4 1, 3)) := by decide +kernel
theorem d154_230 : decode prog_14_method_29_code 230 = .ok (.getfield 98, 3) := dd154_230.1
theorem d154_233 : decode prog_14_method_29_code 233 = .ok (.iload_n 3, 1) := dd154_230.2.1
theorem d154_234 : decode prog_14_method_29_code 234 = .ok (.iconst 1, 1) := dd154_230.2.2.1
theorem d154_235 : decode prog_14_method_29_code 235 = .ok (.isub, 1) := dd154_230.2.2.2.1
theorem d154_236 : decode prog_14_method_29_code 236 = .ok (.baload, 1) := dd154_230.2.2.2.2.1
theorem d154_237 : decode prog_14_method_29_code 237 = .ok (.ifCond .eq 16, 3) := dd154_230.2.2.2.2.2.1
theorem d154_240 : decode prog_14_method_29_code 240 = .ok (.aload_n 0, 1) := dd154_230.2.2.2.2.2.2.1
theorem d154_241 : decode prog_14_method_29_code 241 = .ok (.getfield 98, 3) := dd154_230.2.2.2.2.2.2.2.1
theorem d154_244 : decode prog_14_method_29_code 244 = .ok (.iload_n 3, 1) := dd154_230.2.2.2.2.2.2.2.2.1
theorem d154_245 : decode prog_14_method_29_code 245 = .ok (.baload, 1) := dd154_230.2.2.2.2.2.2.2.2.2.1
theorem d154_246 : decode prog_14_method_29_code 246 = .ok (.ifCond .eq 7, 3) := dd154_230.2.2.2.2.2.2.2.2.2.2.1
theorem d154_249 : decode prog_14_method_29_code 249 = .ok (.iconst 1, 1) := dd154_230.2.2.2.2.2.2.2.2.2.2.2.1
theorem d154_250 : decode prog_14_method_29_code 250 = .ok (.goto 4, 3) := dd154_230.2.2.2.2.2.2.2.2.2.2.2.2.1
theorem d154_253 : decode prog_14_method_29_code 253 = .ok (.iconst 0, 1) := dd154_230.2.2.2.2.2.2.2.2.2.2.2.2.2.1
theorem d154_254 : decode prog_14_method_29_code 254 = .ok (.bastore, 1) := dd154_230.2.2.2.2.2.2.2.2.2.2.2.2.2.2.1
theorem d154_255 : decode prog_14_method_29_code 255 = .ok (.iinc 4 1, 3) := dd154_230.2.2.2.2.2.2.2.2.2.2.2.2.2.2.2
theorem dd154_258 : (decode prog_14_method_29_code 258 = .ok (.goto (-248), 3)) ∧ (decode prog_14_method_29_code 261 = .ok (.aload_n 0, 1)) ∧ (decode prog_14_method_29_code 262 = .ok (.getfield 98, 3)) ∧ (decode prog_14_method_29_code 265 = .ok (.iconst 0, 1)) ∧ (decode prog_14_method_29_code 266 = .ok (.baload, 1)) ∧ (decode prog_14_method_29_code 267 = .ok (.ireturn, 1)) := by decide +kernel
theorem d154_258 : decode prog_14_method_29_code 258 = .ok (.goto (-248), 3) := dd154_258.1
theorem d154_261 : decode prog_14_method_29_code 261 = .ok (.aload_n 0, 1) := dd154_258.2.1
theorem d154_262 : decode prog_14_method_29_code 262 = .ok (.getfield 98, 3) := dd154_258.2.2.1
theorem d154_265 : decode prog_14_method_29_code 265 = .ok (.iconst 0, 1) := dd154_258.2.2.2.1
theorem d154_266 : decode prog_14_method_29_code 266 = .ok (.baload, 1) := dd154_258.2.2.2.2.1
theorem d154_267 : decode prog_14_method_29_code 267 = .ok (.ireturn, 1) := dd154_258.2.2.2.2.2
theorem b154_0 {d : Nat} {S : mm_S} {a0 : Nat} {x1 : Int32} {x2 : Int32} (h0 : mm_obj S a0 12 = true) (h1 : (mm_R S a0 22).isSome = true) (h2 : mm_inb x1 (mm_N S (mm_rg S a0 22)) = true) (h3 : mm_arr S (mm_rg S a0 22) 13 = true) : mm_ex d 154 0 [.ref a0, .int x1, .int x2, .null, .null, .null, .null, .null] [] S =
    mm_ex d 154 10 [.ref a0, .int x1, .int x2, .int (nI 0), .int (mm_M S (mm_rg S a0 22) (x1).toNatClampNeg), .null, .null, .null] [] S :=
  Eq.trans (mx_iconst t154 d154_0 (v := nI 0) rfl) <|
  Eq.trans (mx_istore_n t154 d154_1 (ls' := [.ref a0, .int x1, .int x2, .int (nI 0), .null, .null, .null, .null]) rfl rfl) <|
  Eq.trans (mx_aload_n t154 d154_2 (x := a0) rfl) <|
  Eq.trans (mx_getR t154 d154_3 rfl fl12_58 h0 h1) <|
  Eq.trans (mx_iload_n t154 d154_6 (x := x1) rfl) <|
  Eq.trans (mx_iald t154 d154_7 h3 h2) <|
  (mx_istore t154 d154_8 (ls' := [.ref a0, .int x1, .int x2, .int (nI 0), .int (mm_M S (mm_rg S a0 22) (x1).toNatClampNeg), .null, .null, .null]) rfl rfl)
theorem b154_10 {d : Nat} {S : mm_S} {a0 : Nat} {x1 : Int32} {x2 : Int32} {x3 : Int32} {x4 : Int32} {v5 : Value} {v6 : Value} {v7 : Value} (h0 : mm_obj S a0 12 = true) (h1 : (mm_R S a0 23).isSome = true) (h2 : mm_inb x1 (mm_N S (mm_rg S a0 23)) = true) (h3 : mm_arr S (mm_rg S a0 23) 13 = true) : mm_ex d 154 10 [.ref a0, .int x1, .int x2, .int x3, .int x4, v5, v6, v7] [] S =
    if (mm_M S (mm_rg S a0 23) (x1).toNatClampNeg) ≤ x4 then mm_ex d 154 261 [.ref a0, .int x1, .int x2, .int x3, .int x4, v5, v6, v7] [] S else mm_ex d 154 21 [.ref a0, .int x1, .int x2, .int x3, .int x4, v5, v6, v7] [] S :=
  Eq.trans (mx_iload t154 d154_10 (x := x4) rfl) <|
  Eq.trans (mx_aload_n t154 d154_12 (x := a0) rfl) <|
  Eq.trans (mx_getR t154 d154_13 rfl fl12_61 h0 h1) <|
  Eq.trans (mx_iload_n t154 d154_16 (x := x1) rfl) <|
  Eq.trans (mx_iald t154 d154_17 h3 h2) <|
  (mx_cge t154 d154_18 (tgt := 261) (by decide))
theorem b154_21 {d : Nat} {S : mm_S} {a0 : Nat} {x1 : Int32} {x2 : Int32} {x3 : Int32} {x4 : Int32} {v5 : Value} {v6 : Value} {v7 : Value} (h0 : mm_obj S a0 12 = true) (h1 : (mm_R S a0 24).isSome = true) (h2 : mm_inb (((nI 120) * (mm_M S a0 18)) + x4) (mm_N S (mm_rg S a0 24)) = true) (h3 : mm_arr S (mm_rg S a0 24) 13 = true) : mm_ex d 154 21 [.ref a0, .int x1, .int x2, .int x3, .int x4, v5, v6, v7] [] S =
    if (mm_M S (mm_rg S a0 24) (((nI 120) * (mm_M S a0 18)) + x4).toNatClampNeg) < (nI 1000) then mm_ex d 154 152 [.ref a0, .int x1, .int x2, .int x3, .int x4, .int (mm_M S (mm_rg S a0 24) (((nI 120) * (mm_M S a0 18)) + x4).toNatClampNeg), v6, v7] [] S else mm_ex d 154 46 [.ref a0, .int x1, .int x2, .int x3, .int x4, .int (mm_M S (mm_rg S a0 24) (((nI 120) * (mm_M S a0 18)) + x4).toNatClampNeg), v6, v7] [] S :=
  Eq.trans (mx_aload_n t154 d154_21 (x := a0) rfl) <|
  Eq.trans (mx_getR t154 d154_22 rfl fl12_64 h0 h1) <|
  Eq.trans (mx_bipush t154 d154_25 (v := nI 120) rfl) <|
  Eq.trans (mx_aload_n t154 d154_27 (x := a0) rfl) <|
  Eq.trans (mx_geti t154 d154_28 rfl fl12_46 h0) <|
  Eq.trans (mx_imul t154 d154_31) <|
  Eq.trans (mx_iload t154 d154_32 (x := x4) rfl) <|
  Eq.trans (mx_iadd t154 d154_34) <|
  Eq.trans (mx_iald t154 d154_35 h3 h2) <|
  Eq.trans (mx_istore t154 d154_36 (ls' := [.ref a0, .int x1, .int x2, .int x3, .int x4, .int (mm_M S (mm_rg S a0 24) (((nI 120) * (mm_M S a0 18)) + x4).toNatClampNeg), v6, v7]) rfl rfl) <|
  Eq.trans (mx_iload t154 d154_38 (x := mm_M S (mm_rg S a0 24) (((nI 120) * (mm_M S a0 18)) + x4).toNatClampNeg) rfl) <|
  Eq.trans (mx_sipush t154 d154_40 (v := nI 1000) rfl) <|
  (mx_clt t154 d154_43 (tgt := 152) (by decide))
theorem b154_46 {d : Nat} {S : mm_S} {a0 : Nat} {x1 : Int32} {x2 : Int32} {x3 : Int32} {x4 : Int32} {x5 : Int32} {v6 : Value} {v7 : Value} (h0 : mm_rk S a0 = 12) : mm_ex (d + 1) 154 46 [.ref a0, .int x1, .int x2, .int x3, .int x4, .int x5, v6, v7] [] S =
    mm_bd (mm_cl d 153 [.ref a0, .int (((x5 / (nI 1000)) - (nI 1)) / (nI 3)), .int x2] S) (fun v S2 => mm_ex (d + 1) 154 61 [.ref a0, .int x1, .int x2, .int x3, .int x4, .int x5, v6, v7] (v.toList ++ []) S2) :=
  Eq.trans (mx_aload_n t154 d154_46 (x := a0) rfl) <|
  Eq.trans (mx_iload t154 d154_47 (x := x5) rfl) <|
  Eq.trans (mx_sipush t154 d154_49 (v := nI 1000) rfl) <|
  Eq.trans (mx_idiv t154 d154_52 (by decide)) <|
  Eq.trans (mx_iconst t154 d154_53 (v := nI 1) rfl) <|
  Eq.trans (mx_isub t154 d154_54) <|
  Eq.trans (mx_iconst t154 d154_55 (v := nI 3) rfl) <|
  Eq.trans (mx_idiv t154 d154_56 (by decide)) <|
  Eq.trans (mx_iload_n t154 d154_57 (x := x2) rfl) <|
  (mx_virt (st := []) (k := 12) t154 [.int (((x5 / (nI 1000)) - (nI 1)) / (nI 3)), .int x2] d154_58 vt12_243 rfl rfl (Nat.le_of_ble_eq_true rfl) (Nat.le_of_ble_eq_true rfl) h0)
theorem b154_61 {d : Nat} {S : mm_S} {a0 : Nat} {x1 : Int32} {x2 : Int32} {x3 : Int32} {x4 : Int32} {x5 : Int32} {v6 : Value} {v7 : Value} {p0 : Int32} (h0 : mm_obj S a0 12 = true) (h1 : (mm_R S a0 41).isSome = true) : mm_ex d 154 61 [.ref a0, .int x1, .int x2, .int x3, .int x4, .int x5, v6, v7] [.int p0] S =
    if (((x5 / (nI 1000)) - (nI 1)) - ((x5 / (nI 1000)) - (nI 1)) / (nI 3) * (nI 3)) = nI 0 then mm_ex d 154 85 [.ref a0, .int x1, .int x2, .int x3, .int x4, .int x5, .int p0, .int (((x5 / (nI 1000)) - (nI 1)) - ((x5 / (nI 1000)) - (nI 1)) / (nI 3) * (nI 3))] [.int x3, .ref (mm_rg S a0 41)] S else mm_ex d 154 104 [.ref a0, .int x1, .int x2, .int x3, .int x4, .int x5, .int p0, .int (((x5 / (nI 1000)) - (nI 1)) - ((x5 / (nI 1000)) - (nI 1)) / (nI 3) * (nI 3))] [.int x3, .ref (mm_rg S a0 41)] S :=
  Eq.trans (mx_istore t154 d154_61 (ls' := [.ref a0, .int x1, .int x2, .int x3, .int x4, .int x5, .int p0, v7]) rfl rfl) <|
  Eq.trans (mx_iload t154 d154_63 (x := x5) rfl) <|
  Eq.trans (mx_sipush t154 d154_65 (v := nI 1000) rfl) <|
  Eq.trans (mx_idiv t154 d154_68 (by decide)) <|
  Eq.trans (mx_iconst t154 d154_69 (v := nI 1) rfl) <|
  Eq.trans (mx_isub t154 d154_70) <|
  Eq.trans (mx_iconst t154 d154_71 (v := nI 3) rfl) <|
  Eq.trans (mx_irem t154 d154_72 (by decide)) <|
  Eq.trans (mx_istore t154 d154_73 (ls' := [.ref a0, .int x1, .int x2, .int x3, .int x4, .int x5, .int p0, .int (((x5 / (nI 1000)) - (nI 1)) - ((x5 / (nI 1000)) - (nI 1)) / (nI 3) * (nI 3))]) rfl rfl) <|
  Eq.trans (mx_aload_n t154 d154_75 (x := a0) rfl) <|
  Eq.trans (mx_getR t154 d154_76 rfl fl12_98 h0 h1) <|
  Eq.trans (mx_iload_n t154 d154_79 (x := x3) rfl) <|
  Eq.trans (mx_iload t154 d154_80 (x := ((x5 / (nI 1000)) - (nI 1)) - ((x5 / (nI 1000)) - (nI 1)) / (nI 3) * (nI 3)) rfl) <|
  (mx_ine t154 d154_82 (tgt := 104) (by decide))
theorem b154_85 {d : Nat} {S : mm_S} {a0 : Nat} {x1 : Int32} {x2 : Int32} {x3 : Int32} {x4 : Int32} {x5 : Int32} {x6 : Int32} {x7 : Int32} {p0 : Int32} {p1 : Nat} : mm_ex d 154 85 [.ref a0, .int x1, .int x2, .int x3, .int x4, .int x5, .int x6, .int x7] [.int p0, .ref p1] S =
    if (x5 - x5 / (nI 1000) * (nI 1000)) ≤ x6 then mm_ex d 154 100 [.ref a0, .int x1, .int x2, .int x3, .int x4, .int x5, .int x6, .int x7] [.int p0, .ref p1] S else mm_ex d 154 96 [.ref a0, .int x1, .int x2, .int x3, .int x4, .int x5, .int x6, .int x7] [.int p0, .ref p1] S :=
  Eq.trans (mx_iload t154 d154_85 (x := x6) rfl) <|
  Eq.trans (mx_iload t154 d154_87 (x := x5) rfl) <|
  Eq.trans (mx_sipush t154 d154_89 (v := nI 1000) rfl) <|
  Eq.trans (mx_irem t154 d154_92 (by decide)) <|
  (mx_cge t154 d154_93 (tgt := 100) (by decide))
theorem b154_96 {d : Nat} {S : mm_S} {a0 : Nat} {x1 : Int32} {x2 : Int32} {x3 : Int32} {x4 : Int32} {x5 : Int32} {x6 : Int32} {x7 : Int32} {p0 : Int32} {p1 : Nat} (h0 : mm_arr S p1 15 = true) (h1 : mm_inb p0 (mm_N S p1) = true) : mm_ex d 154 96 [.ref a0, .int x1, .int x2, .int x3, .int x4, .int x5, .int x6, .int x7] [.int p0, .ref p1] S =
    mm_ex d 154 10 [.ref a0, .int x1, .int x2, .int (x3 + nI 1), .int (x4 + nI 1), .int x5, .int x6, .int x7] [] (mm_uM S p1 (p0).toNatClampNeg (vp_nar .boolean (nI 1))) :=
  Eq.trans (mx_iconst t154 d154_96 (v := nI 1) rfl) <|
  Eq.trans (mx_goto t154 d154_97 (tgt := 145) (by decide)) <|
  Eq.trans (mx_zast2 t154 d154_145 h0 h1) <|
  Eq.trans (mx_iinc t154 d154_146 (x := x3) (v := nI 1) (ls' := [.ref a0, .int x1, .int x2, .int (x3 + nI 1), .int x4, .int x5, .int x6, .int x7]) rfl rfl rfl rfl) <|
  Eq.trans (mx_goto t154 d154_149 (tgt := 255) (by decide)) <|
  Eq.trans (mx_iinc t154 d154_255 (x := x4) (v := nI 1) (ls' := [.ref a0, .int x1, .int x2, .int (x3 + nI 1), .int (x4 + nI 1), .int x5, .int x6, .int x7]) rfl rfl rfl rfl) <|
  (mx_goto t154 d154_258 (tgt := 10) (by decide))
theorem b154_100 {d : Nat} {S : mm_S} {a0 : Nat} {x1 : Int32} {x2 : Int32} {x3 : Int32} {x4 : Int32} {x5 : Int32} {x6 : Int32} {x7 : Int32} {p0 : Int32} {p1 : Nat} (h0 : mm_arr S p1 15 = true) (h1 : mm_inb p0 (mm_N S p1) = true) : mm_ex d 154 100 [.ref a0, .int x1, .int x2, .int x3, .int x4, .int x5, .int x6, .int x7] [.int p0, .ref p1] S =
    mm_ex d 154 10 [.ref a0, .int x1, .int x2, .int (x3 + nI 1), .int (x4 + nI 1), .int x5, .int x6, .int x7] [] (mm_uM S p1 (p0).toNatClampNeg (vp_nar .boolean (nI 0))) :=
  Eq.trans (mx_iconst t154 d154_100 (v := nI 0) rfl) <|
  Eq.trans (mx_goto t154 d154_101 (tgt := 145) (by decide)) <|
  Eq.trans (mx_zast2 t154 d154_145 h0 h1) <|
  Eq.trans (mx_iinc t154 d154_146 (x := x3) (v := nI 1) (ls' := [.ref a0, .int x1, .int x2, .int (x3 + nI 1), .int x4, .int x5, .int x6, .int x7]) rfl rfl rfl rfl) <|
  Eq.trans (mx_goto t154 d154_149 (tgt := 255) (by decide)) <|
  Eq.trans (mx_iinc t154 d154_255 (x := x4) (v := nI 1) (ls' := [.ref a0, .int x1, .int x2, .int (x3 + nI 1), .int (x4 + nI 1), .int x5, .int x6, .int x7]) rfl rfl rfl rfl) <|
  (mx_goto t154 d154_258 (tgt := 10) (by decide))
theorem b154_104 {d : Nat} {S : mm_S} {a0 : Nat} {x1 : Int32} {x2 : Int32} {x3 : Int32} {x4 : Int32} {x5 : Int32} {x6 : Int32} {x7 : Int32} {p0 : Int32} {p1 : Nat} : mm_ex d 154 104 [.ref a0, .int x1, .int x2, .int x3, .int x4, .int x5, .int x6, .int x7] [.int p0, .ref p1] S =
    if x7 = (nI 1) then mm_ex d 154 110 [.ref a0, .int x1, .int x2, .int x3, .int x4, .int x5, .int x6, .int x7] [.int p0, .ref p1] S else mm_ex d 154 129 [.ref a0, .int x1, .int x2, .int x3, .int x4, .int x5, .int x6, .int x7] [.int p0, .ref p1] S :=
  Eq.trans (mx_iload t154 d154_104 (x := x7) rfl) <|
  Eq.trans (mx_iconst t154 d154_106 (v := nI 1) rfl) <|
  (mx_cne t154 d154_107 (tgt := 129) (by decide))
theorem b154_110 {d : Nat} {S : mm_S} {a0 : Nat} {x1 : Int32} {x2 : Int32} {x3 : Int32} {x4 : Int32} {x5 : Int32} {x6 : Int32} {x7 : Int32} {p0 : Int32} {p1 : Nat} : mm_ex d 154 110 [.ref a0, .int x1, .int x2, .int x3, .int x4, .int x5, .int x6, .int x7] [.int p0, .ref p1] S =
    if x6 = (x5 - x5 / (nI 1000) * (nI 1000)) then mm_ex d 154 121 [.ref a0, .int x1, .int x2, .int x3, .int x4, .int x5, .int x6, .int x7] [.int p0, .ref p1] S else mm_ex d 154 125 [.ref a0, .int x1, .int x2, .int x3, .int x4, .int x5, .int x6, .int x7] [.int p0, .ref p1] S :=
  Eq.trans (mx_iload t154 d154_110 (x := x6) rfl) <|
  Eq.trans (mx_iload t154 d154_112 (x := x5) rfl) <|
  Eq.trans (mx_sipush t154 d154_114 (v := nI 1000) rfl) <|
  Eq.trans (mx_irem t154 d154_117 (by decide)) <|
  (mx_cne t154 d154_118 (tgt := 125) (by decide))
theorem b154_121 {d : Nat} {S : mm_S} {a0 : Nat} {x1 : Int32} {x2 : Int32} {x3 : Int32} {x4 : Int32} {x5 : Int32} {x6 : Int32} {x7 : Int32} {p0 : Int32} {p1 : Nat} (h0 : mm_arr S p1 15 = true) (h1 : mm_inb p0 (mm_N S p1) = true) : mm_ex d 154 121 [.ref a0, .int x1, .int x2, .int x3, .int x4, .int x5, .int x6, .int x7] [.int p0, .ref p1] S =
    mm_ex d 154 10 [.ref a0, .int x1, .int x2, .int (x3 + nI 1), .int (x4 + nI 1), .int x5, .int x6, .int x7] [] (mm_uM S p1 (p0).toNatClampNeg (vp_nar .boolean (nI 1))) :=
  Eq.trans (mx_iconst t154 d154_121 (v := nI 1) rfl) <|
  Eq.trans (mx_goto t154 d154_122 (tgt := 145) (by decide)) <|
  Eq.trans (mx_zast2 t154 d154_145 h0 h1) <|
  Eq.trans (mx_iinc t154 d154_146 (x := x3) (v := nI 1) (ls' := [.ref a0, .int x1, .int x2, .int (x3 + nI 1), .int x4, .int x5, .int x6, .int x7]) rfl rfl rfl rfl) <|
  Eq.trans (mx_goto t154 d154_149 (tgt := 255) (by decide)) <|
  Eq.trans (mx_iinc t154 d154_255 (x := x4) (v := nI 1) (ls' := [.ref a0, .int x1, .int x2, .int (x3 + nI 1), .int (x4 + nI 1), .int x5, .int x6, .int x7]) rfl rfl rfl rfl) <|
  (mx_goto t154 d154_258 (tgt := 10) (by decide))
theorem b154_125 {d : Nat} {S : mm_S} {a0 : Nat} {x1 : Int32} {x2 : Int32} {x3 : Int32} {x4 : Int32} {x5 : Int32} {x6 : Int32} {x7 : Int32} {p0 : Int32} {p1 : Nat} (h0 : mm_arr S p1 15 = true) (h1 : mm_inb p0 (mm_N S p1) = true) : mm_ex d 154 125 [.ref a0, .int x1, .int x2, .int x3, .int x4, .int x5, .int x6, .int x7] [.int p0, .ref p1] S =
    mm_ex d 154 10 [.ref a0, .int x1, .int x2, .int (x3 + nI 1), .int (x4 + nI 1), .int x5, .int x6, .int x7] [] (mm_uM S p1 (p0).toNatClampNeg (vp_nar .boolean (nI 0))) :=
  Eq.trans (mx_iconst t154 d154_125 (v := nI 0) rfl) <|
  Eq.trans (mx_goto t154 d154_126 (tgt := 145) (by decide)) <|
  Eq.trans (mx_zast2 t154 d154_145 h0 h1) <|
  Eq.trans (mx_iinc t154 d154_146 (x := x3) (v := nI 1) (ls' := [.ref a0, .int x1, .int x2, .int (x3 + nI 1), .int x4, .int x5, .int x6, .int x7]) rfl rfl rfl rfl) <|
  Eq.trans (mx_goto t154 d154_149 (tgt := 255) (by decide)) <|
  Eq.trans (mx_iinc t154 d154_255 (x := x4) (v := nI 1) (ls' := [.ref a0, .int x1, .int x2, .int (x3 + nI 1), .int (x4 + nI 1), .int x5, .int x6, .int x7]) rfl rfl rfl rfl) <|
  (mx_goto t154 d154_258 (tgt := 10) (by decide))
theorem b154_129 {d : Nat} {S : mm_S} {a0 : Nat} {x1 : Int32} {x2 : Int32} {x3 : Int32} {x4 : Int32} {x5 : Int32} {x6 : Int32} {x7 : Int32} {p0 : Int32} {p1 : Nat} : mm_ex d 154 129 [.ref a0, .int x1, .int x2, .int x3, .int x4, .int x5, .int x6, .int x7] [.int p0, .ref p1] S =
    if x6 ≤ (x5 - x5 / (nI 1000) * (nI 1000)) then mm_ex d 154 144 [.ref a0, .int x1, .int x2, .int x3, .int x4, .int x5, .int x6, .int x7] [.int p0, .ref p1] S else mm_ex d 154 140 [.ref a0, .int x1, .int x2, .int x3, .int x4, .int x5, .int x6, .int x7] [.int p0, .ref p1] S :=
  Eq.trans (mx_iload t154 d154_129 (x := x6) rfl) <|
  Eq.trans (mx_iload t154 d154_131 (x := x5) rfl) <|
  Eq.trans (mx_sipush t154 d154_133 (v := nI 1000) rfl) <|
  Eq.trans (mx_irem t154 d154_136 (by decide)) <|
  (mx_cle t154 d154_137 (tgt := 144) (by decide))
theorem b154_140 {d : Nat} {S : mm_S} {a0 : Nat} {x1 : Int32} {x2 : Int32} {x3 : Int32} {x4 : Int32} {x5 : Int32} {x6 : Int32} {x7 : Int32} {p0 : Int32} {p1 : Nat} (h0 : mm_arr S p1 15 = true) (h1 : mm_inb p0 (mm_N S p1) = true) : mm_ex d 154 140 [.ref a0, .int x1, .int x2, .int x3, .int x4, .int x5, .int x6, .int x7] [.int p0, .ref p1] S =
    mm_ex d 154 10 [.ref a0, .int x1, .int x2, .int (x3 + nI 1), .int (x4 + nI 1), .int x5, .int x6, .int x7] [] (mm_uM S p1 (p0).toNatClampNeg (vp_nar .boolean (nI 1))) :=
  Eq.trans (mx_iconst t154 d154_140 (v := nI 1) rfl) <|
  Eq.trans (mx_goto t154 d154_141 (tgt := 145) (by decide)) <|
  Eq.trans (mx_zast2 t154 d154_145 h0 h1) <|
  Eq.trans (mx_iinc t154 d154_146 (x := x3) (v := nI 1) (ls' := [.ref a0, .int x1, .int x2, .int (x3 + nI 1), .int x4, .int x5, .int x6, .int x7]) rfl rfl rfl rfl) <|
  Eq.trans (mx_goto t154 d154_149 (tgt := 255) (by decide)) <|
  Eq.trans (mx_iinc t154 d154_255 (x := x4) (v := nI 1) (ls' := [.ref a0, .int x1, .int x2, .int (x3 + nI 1), .int (x4 + nI 1), .int x5, .int x6, .int x7]) rfl rfl rfl rfl) <|
  (mx_goto t154 d154_258 (tgt := 10) (by decide))
theorem b154_144 {d : Nat} {S : mm_S} {a0 : Nat} {x1 : Int32} {x2 : Int32} {x3 : Int32} {x4 : Int32} {x5 : Int32} {x6 : Int32} {x7 : Int32} {p0 : Int32} {p1 : Nat} (h0 : mm_arr S p1 15 = true) (h1 : mm_inb p0 (mm_N S p1) = true) : mm_ex d 154 144 [.ref a0, .int x1, .int x2, .int x3, .int x4, .int x5, .int x6, .int x7] [.int p0, .ref p1] S =
    mm_ex d 154 10 [.ref a0, .int x1, .int x2, .int (x3 + nI 1), .int (x4 + nI 1), .int x5, .int x6, .int x7] [] (mm_uM S p1 (p0).toNatClampNeg (vp_nar .boolean (nI 0))) :=
  Eq.trans (mx_iconst t154 d154_144 (v := nI 0) rfl) <|
  Eq.trans (mx_zast2 t154 d154_145 h0 h1) <|
  Eq.trans (mx_iinc t154 d154_146 (x := x3) (v := nI 1) (ls' := [.ref a0, .int x1, .int x2, .int (x3 + nI 1), .int x4, .int x5, .int x6, .int x7]) rfl rfl rfl rfl) <|
  Eq.trans (mx_goto t154 d154_149 (tgt := 255) (by decide)) <|
  Eq.trans (mx_iinc t154 d154_255 (x := x4) (v := nI 1) (ls' := [.ref a0, .int x1, .int x2, .int (x3 + nI 1), .int (x4 + nI 1), .int x5, .int x6, .int x7]) rfl rfl rfl rfl) <|
  (mx_goto t154 d154_258 (tgt := 10) (by decide))
theorem b154_152 {d : Nat} {S : mm_S} {a0 : Nat} {x1 : Int32} {x2 : Int32} {x3 : Int32} {x4 : Int32} {x5 : Int32} {v6 : Value} {v7 : Value} : mm_ex d 154 152 [.ref a0, .int x1, .int x2, .int x3, .int x4, .int x5, v6, v7] [] S =
    if x5 = (nI 3) then mm_ex d 154 158 [.ref a0, .int x1, .int x2, .int x3, .int x4, .int x5, v6, v7] [] S else mm_ex d 154 185 [.ref a0, .int x1, .int x2, .int x3, .int x4, .int x5, v6, v7] [] S :=
  Eq.trans (mx_iload t154 d154_152 (x := x5) rfl) <|
  Eq.trans (mx_iconst t154 d154_154 (v := nI 3) rfl) <|
  (mx_cne t154 d154_155 (tgt := 185) (by decide))
theorem b154_158 {d : Nat} {S : mm_S} {a0 : Nat} {x1 : Int32} {x2 : Int32} {x3 : Int32} {x4 : Int32} {x5 : Int32} {v6 : Value} {v7 : Value} (h0 : mm_obj S a0 12 = true) (h1 : (mm_R S a0 41).isSome = true) (h2 : mm_inb (x3 - (nI 1)) (mm_N S (mm_rg S a0 41)) = true) (h3 : mm_arr S (mm_rg S a0 41) 15 = true) : mm_ex d 154 158 [.ref a0, .int x1, .int x2, .int x3, .int x4, .int x5, v6, v7] [] S =
    if (mm_M S (mm_rg S a0 41) (x3 - (nI 1)).toNatClampNeg) = nI 0 then mm_ex d 154 176 [.ref a0, .int x1, .int x2, .int x3, .int x4, .int x5, v6, v7] [.int (x3 - (nI 1)), .ref (mm_rg S a0 41)] S else mm_ex d 154 180 [.ref a0, .int x1, .int x2, .int x3, .int x4, .int x5, v6, v7] [.int (x3 - (nI 1)), .ref (mm_rg S a0 41)] S :=
  Eq.trans (mx_aload_n t154 d154_158 (x := a0) rfl) <|
  Eq.trans (mx_getR t154 d154_159 rfl fl12_98 h0 h1) <|
  Eq.trans (mx_iload_n t154 d154_162 (x := x3) rfl) <|
  Eq.trans (mx_iconst t154 d154_163 (v := nI 1) rfl) <|
  Eq.trans (mx_isub t154 d154_164) <|
  Eq.trans (mx_aload_n t154 d154_165 (x := a0) rfl) <|
  Eq.trans (mx_getR t154 d154_166 rfl fl12_98 h0 h1) <|
  Eq.trans (mx_iload_n t154 d154_169 (x := x3) rfl) <|
  Eq.trans (mx_iconst t154 d154_170 (v := nI 1) rfl) <|
  Eq.trans (mx_isub t154 d154_171) <|
  Eq.trans (mx_zald t154 d154_172 h3 h2) <|
  (mx_ine t154 d154_173 (tgt := 180) (by decide))
theorem b154_176 {d : Nat} {S : mm_S} {a0 : Nat} {x1 : Int32} {x2 : Int32} {x3 : Int32} {x4 : Int32} {x5 : Int32} {v6 : Value} {v7 : Value} {p0 : Int32} {p1 : Nat} (h0 : mm_arr S p1 15 = true) (h1 : mm_inb p0 (mm_N S p1) = true) : mm_ex d 154 176 [.ref a0, .int x1, .int x2, .int x3, .int x4, .int x5, v6, v7] [.int p0, .ref p1] S =
    mm_ex d 154 10 [.ref a0, .int x1, .int x2, .int x3, .int (x4 + nI 1), .int x5, v6, v7] [] (mm_uM S p1 (p0).toNatClampNeg (vp_nar .boolean (nI 1))) :=
  Eq.trans (mx_iconst t154 d154_176 (v := nI 1) rfl) <|
  Eq.trans (mx_goto t154 d154_177 (tgt := 181) (by decide)) <|
  Eq.trans (mx_zast2 t154 d154_181 h0 h1) <|
  Eq.trans (mx_goto t154 d154_182 (tgt := 255) (by decide)) <|
  Eq.trans (mx_iinc t154 d154_255 (x := x4) (v := nI 1) (ls' := [.ref a0, .int x1, .int x2, .int x3, .int (x4 + nI 1), .int x5, v6, v7]) rfl rfl rfl rfl) <|
  (mx_goto t154 d154_258 (tgt := 10) (by decide))
theorem b154_180 {d : Nat} {S : mm_S} {a0 : Nat} {x1 : Int32} {x2 : Int32} {x3 : Int32} {x4 : Int32} {x5 : Int32} {v6 : Value} {v7 : Value} {p0 : Int32} {p1 : Nat} (h0 : mm_arr S p1 15 = true) (h1 : mm_inb p0 (mm_N S p1) = true) : mm_ex d 154 180 [.ref a0, .int x1, .int x2, .int x3, .int x4, .int x5, v6, v7] [.int p0, .ref p1] S =
    mm_ex d 154 10 [.ref a0, .int x1, .int x2, .int x3, .int (x4 + nI 1), .int x5, v6, v7] [] (mm_uM S p1 (p0).toNatClampNeg (vp_nar .boolean (nI 0))) :=
  Eq.trans (mx_iconst t154 d154_180 (v := nI 0) rfl) <|
  Eq.trans (mx_zast2 t154 d154_181 h0 h1) <|
  Eq.trans (mx_goto t154 d154_182 (tgt := 255) (by decide)) <|
  Eq.trans (mx_iinc t154 d154_255 (x := x4) (v := nI 1) (ls' := [.ref a0, .int x1, .int x2, .int x3, .int (x4 + nI 1), .int x5, v6, v7]) rfl rfl rfl rfl) <|
  (mx_goto t154 d154_258 (tgt := 10) (by decide))
theorem b154_185 {d : Nat} {S : mm_S} {a0 : Nat} {x1 : Int32} {x2 : Int32} {x3 : Int32} {x4 : Int32} {x5 : Int32} {v6 : Value} {v7 : Value} (h0 : mm_obj S a0 12 = true) (h1 : (mm_R S a0 41).isSome = true) : mm_ex d 154 185 [.ref a0, .int x1, .int x2, .int x3, .int x4, .int x5, v6, v7] [] S =
    if x5 = (nI 1) then mm_ex d 154 201 [.ref a0, .int x1, .int x2, .int (x3 + (-1)), .int x4, .int x5, v6, v7] [.int ((x3 + (-1)) - (nI 1)), .ref (mm_rg S a0 41)] S else mm_ex d 154 229 [.ref a0, .int x1, .int x2, .int (x3 + (-1)), .int x4, .int x5, v6, v7] [.int ((x3 + (-1)) - (nI 1)), .ref (mm_rg S a0 41)] S :=
  Eq.trans (mx_iinc t154 d154_185 (x := x3) (v := -1) (ls' := [.ref a0, .int x1, .int x2, .int (x3 + (-1)), .int x4, .int x5, v6, v7]) rfl rfl rfl rfl) <|
  Eq.trans (mx_aload_n t154 d154_188 (x := a0) rfl) <|
  Eq.trans (mx_getR t154 d154_189 rfl fl12_98 h0 h1) <|
  Eq.trans (mx_iload_n t154 d154_192 (x := x3 + (-1)) rfl) <|
  Eq.trans (mx_iconst t154 d154_193 (v := nI 1) rfl) <|
  Eq.trans (mx_isub t154 d154_194) <|
  Eq.trans (mx_iload t154 d154_195 (x := x5) rfl) <|
  Eq.trans (mx_iconst t154 d154_197 (v := nI 1) rfl) <|
  (mx_cne t154 d154_198 (tgt := 229) (by decide))
theorem b154_201 {d : Nat} {S : mm_S} {a0 : Nat} {x1 : Int32} {x2 : Int32} {x3 : Int32} {x4 : Int32} {x5 : Int32} {v6 : Value} {v7 : Value} {p0 : Int32} {p1 : Nat} (h0 : mm_obj S a0 12 = true) (h1 : (mm_R S a0 41).isSome = true) (h2 : mm_inb (x3 - (nI 1)) (mm_N S (mm_rg S a0 41)) = true) (h3 : mm_arr S (mm_rg S a0 41) 15 = true) : mm_ex d 154 201 [.ref a0, .int x1, .int x2, .int x3, .int x4, .int x5, v6, v7] [.int p0, .ref p1] S =
    if (mm_M S (mm_rg S a0 41) (x3 - (nI 1)).toNatClampNeg) = nI 0 then mm_ex d 154 212 [.ref a0, .int x1, .int x2, .int x3, .int x4, .int x5, v6, v7] [.int p0, .ref p1] S else mm_ex d 154 221 [.ref a0, .int x1, .int x2, .int x3, .int x4, .int x5, v6, v7] [.int p0, .ref p1] S :=
  Eq.trans (mx_aload_n t154 d154_201 (x := a0) rfl) <|
  Eq.trans (mx_getR t154 d154_202 rfl fl12_98 h0 h1) <|
  Eq.trans (mx_iload_n t154 d154_205 (x := x3) rfl) <|
  Eq.trans (mx_iconst t154 d154_206 (v := nI 1) rfl) <|
  Eq.trans (mx_isub t154 d154_207) <|
  Eq.trans (mx_zald t154 d154_208 h3 h2) <|
  (mx_ine t154 d154_209 (tgt := 221) (by decide))
theorem b154_212 {d : Nat} {S : mm_S} {a0 : Nat} {x1 : Int32} {x2 : Int32} {x3 : Int32} {x4 : Int32} {x5 : Int32} {v6 : Value} {v7 : Value} {p0 : Int32} {p1 : Nat} (h0 : mm_obj S a0 12 = true) (h1 : (mm_R S a0 41).isSome = true) (h2 : mm_inb x3 (mm_N S (mm_rg S a0 41)) = true) (h3 : mm_arr S (mm_rg S a0 41) 15 = true) : mm_ex d 154 212 [.ref a0, .int x1, .int x2, .int x3, .int x4, .int x5, v6, v7] [.int p0, .ref p1] S =
    if (mm_M S (mm_rg S a0 41) (x3).toNatClampNeg) = nI 0 then mm_ex d 154 225 [.ref a0, .int x1, .int x2, .int x3, .int x4, .int x5, v6, v7] [.int p0, .ref p1] S else mm_ex d 154 221 [.ref a0, .int x1, .int x2, .int x3, .int x4, .int x5, v6, v7] [.int p0, .ref p1] S :=
  Eq.trans (mx_aload_n t154 d154_212 (x := a0) rfl) <|
  Eq.trans (mx_getR t154 d154_213 rfl fl12_98 h0 h1) <|
  Eq.trans (mx_iload_n t154 d154_216 (x := x3) rfl) <|
  Eq.trans (mx_zald t154 d154_217 h3 h2) <|
  (mx_ieq t154 d154_218 (tgt := 225) (by decide))
theorem b154_221 {d : Nat} {S : mm_S} {a0 : Nat} {x1 : Int32} {x2 : Int32} {x3 : Int32} {x4 : Int32} {x5 : Int32} {v6 : Value} {v7 : Value} {p0 : Int32} {p1 : Nat} (h0 : mm_arr S p1 15 = true) (h1 : mm_inb p0 (mm_N S p1) = true) : mm_ex d 154 221 [.ref a0, .int x1, .int x2, .int x3, .int x4, .int x5, v6, v7] [.int p0, .ref p1] S =
    mm_ex d 154 10 [.ref a0, .int x1, .int x2, .int x3, .int (x4 + nI 1), .int x5, v6, v7] [] (mm_uM S p1 (p0).toNatClampNeg (vp_nar .boolean (nI 1))) :=
  Eq.trans (mx_iconst t154 d154_221 (v := nI 1) rfl) <|
  Eq.trans (mx_goto t154 d154_222 (tgt := 254) (by decide)) <|
  Eq.trans (mx_zast2 t154 d154_254 h0 h1) <|
  Eq.trans (mx_iinc t154 d154_255 (x := x4) (v := nI 1) (ls' := [.ref a0, .int x1, .int x2, .int x3, .int (x4 + nI 1), .int x5, v6, v7]) rfl rfl rfl rfl) <|
  (mx_goto t154 d154_258 (tgt := 10) (by decide))
theorem b154_225 {d : Nat} {S : mm_S} {a0 : Nat} {x1 : Int32} {x2 : Int32} {x3 : Int32} {x4 : Int32} {x5 : Int32} {v6 : Value} {v7 : Value} {p0 : Int32} {p1 : Nat} (h0 : mm_arr S p1 15 = true) (h1 : mm_inb p0 (mm_N S p1) = true) : mm_ex d 154 225 [.ref a0, .int x1, .int x2, .int x3, .int x4, .int x5, v6, v7] [.int p0, .ref p1] S =
    mm_ex d 154 10 [.ref a0, .int x1, .int x2, .int x3, .int (x4 + nI 1), .int x5, v6, v7] [] (mm_uM S p1 (p0).toNatClampNeg (vp_nar .boolean (nI 0))) :=
  Eq.trans (mx_iconst t154 d154_225 (v := nI 0) rfl) <|
  Eq.trans (mx_goto t154 d154_226 (tgt := 254) (by decide)) <|
  Eq.trans (mx_zast2 t154 d154_254 h0 h1) <|
  Eq.trans (mx_iinc t154 d154_255 (x := x4) (v := nI 1) (ls' := [.ref a0, .int x1, .int x2, .int x3, .int (x4 + nI 1), .int x5, v6, v7]) rfl rfl rfl rfl) <|
  (mx_goto t154 d154_258 (tgt := 10) (by decide))
theorem b154_229 {d : Nat} {S : mm_S} {a0 : Nat} {x1 : Int32} {x2 : Int32} {x3 : Int32} {x4 : Int32} {x5 : Int32} {v6 : Value} {v7 : Value} {p0 : Int32} {p1 : Nat} (h0 : mm_obj S a0 12 = true) (h1 : (mm_R S a0 41).isSome = true) (h2 : mm_inb (x3 - (nI 1)) (mm_N S (mm_rg S a0 41)) = true) (h3 : mm_arr S (mm_rg S a0 41) 15 = true) : mm_ex d 154 229 [.ref a0, .int x1, .int x2, .int x3, .int x4, .int x5, v6, v7] [.int p0, .ref p1] S =
    if (mm_M S (mm_rg S a0 41) (x3 - (nI 1)).toNatClampNeg) = nI 0 then mm_ex d 154 253 [.ref a0, .int x1, .int x2, .int x3, .int x4, .int x5, v6, v7] [.int p0, .ref p1] S else mm_ex d 154 240 [.ref a0, .int x1, .int x2, .int x3, .int x4, .int x5, v6, v7] [.int p0, .ref p1] S :=
  Eq.trans (mx_aload_n t154 d154_229 (x := a0) rfl) <|
  Eq.trans (mx_getR t154 d154_230 rfl fl12_98 h0 h1) <|
  Eq.trans (mx_iload_n t154 d154_233 (x := x3) rfl) <|
  Eq.trans (mx_iconst t154 d154_234 (v := nI 1) rfl) <|
  Eq.trans (mx_isub t154 d154_235) <|
  Eq.trans (mx_zald t154 d154_236 h3 h2) <|
  (mx_ieq t154 d154_237 (tgt := 253) (by decide))
theorem b154_240 {d : Nat} {S : mm_S} {a0 : Nat} {x1 : Int32} {x2 : Int32} {x3 : Int32} {x4 : Int32} {x5 : Int32} {v6 : Value} {v7 : Value} {p0 : Int32} {p1 : Nat} (h0 : mm_obj S a0 12 = true) (h1 : (mm_R S a0 41).isSome = true) (h2 : mm_inb x3 (mm_N S (mm_rg S a0 41)) = true) (h3 : mm_arr S (mm_rg S a0 41) 15 = true) : mm_ex d 154 240 [.ref a0, .int x1, .int x2, .int x3, .int x4, .int x5, v6, v7] [.int p0, .ref p1] S =
    if (mm_M S (mm_rg S a0 41) (x3).toNatClampNeg) = nI 0 then mm_ex d 154 253 [.ref a0, .int x1, .int x2, .int x3, .int x4, .int x5, v6, v7] [.int p0, .ref p1] S else mm_ex d 154 249 [.ref a0, .int x1, .int x2, .int x3, .int x4, .int x5, v6, v7] [.int p0, .ref p1] S :=
  Eq.trans (mx_aload_n t154 d154_240 (x := a0) rfl) <|
  Eq.trans (mx_getR t154 d154_241 rfl fl12_98 h0 h1) <|
  Eq.trans (mx_iload_n t154 d154_244 (x := x3) rfl) <|
  Eq.trans (mx_zald t154 d154_245 h3 h2) <|
  (mx_ieq t154 d154_246 (tgt := 253) (by decide))
theorem b154_249 {d : Nat} {S : mm_S} {a0 : Nat} {x1 : Int32} {x2 : Int32} {x3 : Int32} {x4 : Int32} {x5 : Int32} {v6 : Value} {v7 : Value} {p0 : Int32} {p1 : Nat} (h0 : mm_arr S p1 15 = true) (h1 : mm_inb p0 (mm_N S p1) = true) : mm_ex d 154 249 [.ref a0, .int x1, .int x2, .int x3, .int x4, .int x5, v6, v7] [.int p0, .ref p1] S =
    mm_ex d 154 10 [.ref a0, .int x1, .int x2, .int x3, .int (x4 + nI 1), .int x5, v6, v7] [] (mm_uM S p1 (p0).toNatClampNeg (vp_nar .boolean (nI 1))) :=
  Eq.trans (mx_iconst t154 d154_249 (v := nI 1) rfl) <|
  Eq.trans (mx_goto t154 d154_250 (tgt := 254) (by decide)) <|
  Eq.trans (mx_zast2 t154 d154_254 h0 h1) <|
  Eq.trans (mx_iinc t154 d154_255 (x := x4) (v := nI 1) (ls' := [.ref a0, .int x1, .int x2, .int x3, .int (x4 + nI 1), .int x5, v6, v7]) rfl rfl rfl rfl) <|
  (mx_goto t154 d154_258 (tgt := 10) (by decide))
theorem b154_253 {d : Nat} {S : mm_S} {a0 : Nat} {x1 : Int32} {x2 : Int32} {x3 : Int32} {x4 : Int32} {x5 : Int32} {v6 : Value} {v7 : Value} {p0 : Int32} {p1 : Nat} (h0 : mm_arr S p1 15 = true) (h1 : mm_inb p0 (mm_N S p1) = true) : mm_ex d 154 253 [.ref a0, .int x1, .int x2, .int x3, .int x4, .int x5, v6, v7] [.int p0, .ref p1] S =
    mm_ex d 154 10 [.ref a0, .int x1, .int x2, .int x3, .int (x4 + nI 1), .int x5, v6, v7] [] (mm_uM S p1 (p0).toNatClampNeg (vp_nar .boolean (nI 0))) :=
  Eq.trans (mx_iconst t154 d154_253 (v := nI 0) rfl) <|
  Eq.trans (mx_zast2 t154 d154_254 h0 h1) <|
  Eq.trans (mx_iinc t154 d154_255 (x := x4) (v := nI 1) (ls' := [.ref a0, .int x1, .int x2, .int x3, .int (x4 + nI 1), .int x5, v6, v7]) rfl rfl rfl rfl) <|
  (mx_goto t154 d154_258 (tgt := 10) (by decide))
theorem b154_261 {d : Nat} {S : mm_S} {a0 : Nat} {x1 : Int32} {x2 : Int32} {x3 : Int32} {x4 : Int32} {v5 : Value} {v6 : Value} {v7 : Value} (h0 : mm_obj S a0 12 = true) (h1 : (mm_R S a0 41).isSome = true) (h2 : mm_inb (nI 0) (mm_N S (mm_rg S a0 41)) = true) (h3 : mm_arr S (mm_rg S a0 41) 15 = true) (h4 : narrow .boolean (.int (mm_M S (mm_rg S a0 41) (nI 0).toNatClampNeg)) = .int (mm_M S (mm_rg S a0 41) (nI 0).toNatClampNeg)) : mm_ex d 154 261 [.ref a0, .int x1, .int x2, .int x3, .int x4, v5, v6, v7] [] S =
    some (some (.int (mm_M S (mm_rg S a0 41) (nI 0).toNatClampNeg)), S) :=
  Eq.trans (mx_aload_n t154 d154_261 (x := a0) rfl) <|
  Eq.trans (mx_getR t154 d154_262 rfl fl12_98 h0 h1) <|
  Eq.trans (mx_iconst t154 d154_265 (v := nI 0) rfl) <|
  Eq.trans (mx_zald t154 d154_266 h3 h2) <|
  (mx_iret t154 d154_267 (ty := .boolean) rfl h4 (fun h => nomatch h))
theorem e154 {d : Nat} {S : mm_S} {a0 : Nat} {x1 : Int32} {x2 : Int32} : mm_cl d 154 [.ref a0, .int x1, .int x2] S = mm_ex d 154 0 [.ref a0, .int x1, .int x2, .null, .null, .null, .null, .null] [] S := mm_cl_eq t154 (Nat.le_of_ble_eq_true rfl) rfl
/-! X12_sumOf -/
theorem dd155_0 : (decode prog_14_method_30_code 0 = .ok (.iconst 0, 1)) ∧ (decode prog_14_method_30_code 1 = .ok (.istore_n 3, 1)) ∧ (decode prog_14_method_30_code 2 = .ok (.bipush 10, 2)) ∧ (decode prog_14_method_30_code 4 = .ok (.aload_n 0, 1)) ∧ (decode prog_14_method_30_code 5 = .ok (.getfield 46, 3)) ∧ (decode prog_14_method_30_code 8 = .ok (.imul, 1)) ∧ (decode prog_14_method_30_code 9 = .ok (.istore 4, 2)) ∧ (decode prog_14_method_30_code 11 = .ok (.aload_n 0, 1)) ∧ (decode prog_14_method_30_code 12 = .ok (.getfield 46, 3)) ∧ (decode prog_14_method_30_code 15 = .ok (.ifCond .lt 66, 3)) ∧ (decode prog_14_method_30_code 18 = .ok (.iload 4, 2)) ∧ (decode prog_14_method_30_code 20 = .ok (.bipush 10, 2)) ∧ (decode prog_14_method_30_code 22 = .ok (.aload_n 0, 1)) ∧ (decode prog_14_method_30_code 23 = .ok (.getfield 46, 3)) ∧ (decode prog_14_method_30_code 26 = .ok (.imul, 1)) ∧ (decode prog_14_method_30_code 27 = .ok (.aload_n 0, 1)) := by decide +kernel
theorem d155_0 : decode prog_14_method_30_code 0 = .ok (.iconst 0, 1) := dd155_0.1
theorem d155_1 : decode prog_14_method_30_code 1 = .ok (.istore_n 3, 1) := dd155_0.2.1
theorem d155_2 : decode prog_14_method_30_code 2 = .ok (.bipush 10, 2) := dd155_0.2.2.1
theorem d155_4 : decode prog_14_method_30_code 4 = .ok (.aload_n 0, 1) := dd155_0.2.2.2.1
theorem d155_5 : decode prog_14_method_30_code 5 = .ok (.getfield 46, 3) := dd155_0.2.2.2.2.1
theorem d155_8 : decode prog_14_method_30_code 8 = .ok (.imul, 1) := dd155_0.2.2.2.2.2.1
theorem d155_9 : decode prog_14_method_30_code 9 = .ok (.istore 4, 2) := dd155_0.2.2.2.2.2.2.1
theorem d155_11 : decode prog_14_method_30_code 11 = .ok (.aload_n 0, 1) := dd155_0.2.2.2.2.2.2.2.1
theorem d155_12 : decode prog_14_method_30_code 12 = .ok (.getfield 46, 3) := dd155_0.2.2.2.2.2.2.2.2.1
theorem d155_15 : decode prog_14_method_30_code 15 = .ok (.ifCond .lt 66, 3) := dd155_0.2.2.2.2.2.2.2.2.2.1
theorem d155_18 : decode prog_14_method_30_code 18 = .ok (.iload 4, 2) := dd155_0.2.2.2.2.2.2.2.2.2.2.1
theorem d155_20 : decode prog_14_method_30_code 20 = .ok (.bipush 10, 2) := dd155_0.2.2.2.2.2.2.2.2.2.2.2.1
theorem d155_22 : decode prog_14_method_30_code 22 = .ok (.aload_n 0, 1) := dd155_0.2.2.2.2.2.2.2.2.2.2.2.2.1
theorem d155_23 : decode prog_14_method_30_code 23 = .ok (.getfield 46, 3) := dd155_0.2.2.2.2.2.2.2.2.2.2.2.2.2.1
theorem d155_26 : decode prog_14_method_30_code 26 = .ok (.imul, 1) := dd155_0.2.2.2.2.2.2.2.2.2.2.2.2.2.2.1
theorem d155_27 : decode prog_14_method_30_code 27 = .ok (.aload_n 0, 1) := dd155_0.2.2.2.2.2.2.2.2.2.2.2.2.2.2.2
theorem dd155_28 : (decode prog_14_method_30_code 28 = .ok (.getfield 49, 3)) ∧ (decode prog_14_method_30_code 31 = .ok (.aload_n 0, 1)) ∧ (decode prog_14_method_30_code 32 = .ok (.getfield 46, 3)) ∧ (decode prog_14_method_30_code 35 = .ok (.iaload, 1)) ∧ (decode prog_14_method_30_code 36 = .ok (.iadd, 1)) ∧ (decode prog_14_method_30_code 37 = .ok (.if_icmp .ge 44, 3)) ∧ (decode prog_14_method_30_code 40 = .ok (.iload_n 3, 1)) ∧ (decode prog_14_method_30_code 41 = .ok (.aload_n 0, 1)) ∧ (decode prog_14_method_30_code 42 = .ok (.getfield 52, 3)) ∧ (decode prog_14_method_30_code 45 = .ok (.iload 4, 2)) ∧ (decode prog_14_method_30_code 47 = .ok (.iaload, 1)) ∧ (decode prog_14_method_30_code 48 = .ok (.iload_n 1, 1)) ∧ (decode prog_14_method_30_code 49 = .ok (.if_icmp .ne 23, 3)) ∧ (decode prog_14_method_30_code 52 = .ok (.aload_n 0, 1)) ∧ (decode prog_14_method_30_code 53 = .ok (.iload 4, 2)) ∧ (decode prog_14_method_30_code 55 = .ok (.iload_n 2, 1)) := by decide +kernel
theorem d155_28 : decode prog_14_method_30_code 28 = .ok (.getfield 49, 3) := dd155_28.1
theorem d155_31 : decode prog_14_method_30_code 31 = .ok (.aload_n 0, 1) := dd155_28.2.1
theorem d155_32 : decode prog_14_method_30_code 32 = .ok (.getfield 46, 3) := dd155_28.2.2.1
theorem d155_35 : decode prog_14_method_30_code 35 = .ok (.iaload, 1) := dd155_28.2.2.2.1
theorem d155_36 : decode prog_14_method_30_code 36 = .ok (.iadd, 1) := dd155_28.2.2.2.2.1
theorem d155_37 : decode prog_14_method_30_code 37 = .ok (.if_icmp .ge 44, 3) := dd155_28.2.2.2.2.2.1
theorem d155_40 : decode prog_14_method_30_code 40 = .ok (.iload_n 3, 1) := dd155_28.2.2.2.2.2.2.1
theorem d155_41 : decode prog_14_method_30_code 41 = .ok (.aload_n 0, 1) := dd155_28.2.2.2.2.2.2.2.1
theorem d155_42 : decode prog_14_method_30_code 42 = .ok (.getfield 52, 3) := dd155_28.2.2.2.2.2.2.2.2.1
theorem d155_45 : decode prog_14_method_30_code 45 = .ok (.iload 4, 2) := dd155_28.2.2.2.2.2.2.2.2.2.1
theorem d155_47 : decode prog_14_method_30_code 47 = .ok (.iaload, 1) := dd155_28.2.2.2.2.2.2.2.2.2.2.1
theorem d155_48 : decode prog_14_method_30_code 48 = .ok (.iload_n 1, 1) := dd155_28.2.2.2.2.2.2.2.2.2.2.2.1
theorem d155_49 : decode prog_14_method_30_code 49 = .ok (.if_icmp .ne 23, 3) := dd155_28.2.2.2.2.2.2.2.2.2.2.2.2.1
theorem d155_52 : decode prog_14_method_30_code 52 = .ok (.aload_n 0, 1) := dd155_28.2.2.2.2.2.2.2.2.2.2.2.2.2.1
theorem d155_53 : decode prog_14_method_30_code 53 = .ok (.iload 4, 2) := dd155_28.2.2.2.2.2.2.2.2.2.2.2.2.2.2.1
theorem d155_55 : decode prog_14_method_30_code 55 = .ok (.iload_n 2, 1) := dd155_28.2.2.2.2.2.2.2.2.2.2.2.2.2.2.2
theorem dd155_56 : (decode prog_14_method_30_code 56 = .ok (.invokevirtual 247, 3)) ∧ (decode prog_14_method_30_code 59 = .ok (.ifCond .eq 13, 3)) ∧ (decode prog_14_method_30_code 62 = .ok (.aload_n 0, 1)) ∧ (decode prog_14_method_30_code 63 = .ok (.getfield 55, 3)) ∧ (decode prog_14_method_30_code 66 = .ok (.iload 4, 2)) ∧ (decode prog_14_method_30_code 68 = .ok (.iaload, 1)) ∧ (decode prog_14_method_30_code 69 = .ok (.goto 4, 3)) ∧ (decode prog_14_method_30_code 72 = .ok (.iconst 0, 1)) ∧ (decode prog_14_method_30_code 73 = .ok (.iadd, 1)) ∧ (decode prog_14_method_30_code 74 = .ok (.istore_n 3, 1)) ∧ (decode prog_14_method_30_code 75 = .ok (.iinc 4 1, 3)) ∧ (decode prog_14_method_30_code 78 = .ok (.goto (-67), 3)) ∧ (decode prog_14_method_30_code 81 = .ok (.iload_n 3, 1)) ∧ (decode prog_14_method_30_code 82 = .ok (.ireturn, 1)) := by decide +kernel
theorem d155_56 : decode prog_14_method_30_code 56 = .ok (.invokevirtual 247, 3) := dd155_56.1
theorem d155_59 : decode prog_14_method_30_code 59 = .ok (.ifCond .eq 13, 3) := dd155_56.2.1
theorem d155_62 : decode prog_14_method_30_code 62 = .ok (.aload_n 0, 1) := dd155_56.2.2.1
theorem d155_63 : decode prog_14_method_30_code 63 = .ok (.getfield 55, 3) := dd155_56.2.2.2.1
theorem d155_66 : decode prog_14_method_30_code 66 = .ok (.iload 4, 2) := dd155_56.2.2.2.2.1
theorem d155_68 : decode prog_14_method_30_code 68 = .ok (.iaload, 1) := dd155_56.2.2.2.2.2.1
theorem d155_69 : decode prog_14_method_30_code 69 = .ok (.goto 4, 3) := dd155_56.2.2.2.2.2.2.1
theorem d155_72 : decode prog_14_method_30_code 72 = .ok (.iconst 0, 1) := dd155_56.2.2.2.2.2.2.2.1
theorem d155_73 : decode prog_14_method_30_code 73 = .ok (.iadd, 1) := dd155_56.2.2.2.2.2.2.2.2.1
theorem d155_74 : decode prog_14_method_30_code 74 = .ok (.istore_n 3, 1) := dd155_56.2.2.2.2.2.2.2.2.2.1
theorem d155_75 : decode prog_14_method_30_code 75 = .ok (.iinc 4 1, 3) := dd155_56.2.2.2.2.2.2.2.2.2.2.1
theorem d155_78 : decode prog_14_method_30_code 78 = .ok (.goto (-67), 3) := dd155_56.2.2.2.2.2.2.2.2.2.2.2.1
theorem d155_81 : decode prog_14_method_30_code 81 = .ok (.iload_n 3, 1) := dd155_56.2.2.2.2.2.2.2.2.2.2.2.2.1
theorem d155_82 : decode prog_14_method_30_code 82 = .ok (.ireturn, 1) := dd155_56.2.2.2.2.2.2.2.2.2.2.2.2.2
theorem b155_0 {d : Nat} {S : mm_S} {a0 : Nat} {x1 : Int32} {x2 : Int32} (h0 : mm_obj S a0 12 = true) : mm_ex d 155 0 [.ref a0, .int x1, .int x2, .null, .null] [] S =
    mm_ex d 155 11 [.ref a0, .int x1, .int x2, .int (nI 0), .int ((nI 10) * (mm_M S a0 18))] [] S :=
  Eq.trans (mx_iconst t155 d155_0 (v := nI 0) rfl) <|
  Eq.trans (mx_istore_n t155 d155_1 (ls' := [.ref a0, .int x1, .int x2, .int (nI 0), .null]) rfl rfl) <|
  Eq.trans (mx_bipush t155 d155_2 (v := nI 10) rfl) <|
  Eq.trans (mx_aload_n t155 d155_4 (x := a0) rfl) <|
  Eq.trans (mx_geti t155 d155_5 rfl fl12_46 h0) <|
  Eq.trans (mx_imul t155 d155_8) <|
  (mx_istore t155 d155_9 (ls' := [.ref a0, .int x1, .int x2, .int (nI 0), .int ((nI 10) * (mm_M S a0 18))]) rfl rfl)
theorem b155_11 {d : Nat} {S : mm_S} {a0 : Nat} {x1 : Int32} {x2 : Int32} {x3 : Int32} {x4 : Int32} (h0 : mm_obj S a0 12 = true) : mm_ex d 155 11 [.ref a0, .int x1, .int x2, .int x3, .int x4] [] S =
    if (mm_M S a0 18) < nI 0 then mm_ex d 155 81 [.ref a0, .int x1, .int x2, .int x3, .int x4] [] S else mm_ex d 155 18 [.ref a0, .int x1, .int x2, .int x3, .int x4] [] S :=
  Eq.trans (mx_aload_n t155 d155_11 (x := a0) rfl) <|
  Eq.trans (mx_geti t155 d155_12 rfl fl12_46 h0) <|
  (mx_ilt t155 d155_15 (tgt := 81) (by decide))
theorem b155_18 {d : Nat} {S : mm_S} {a0 : Nat} {x1 : Int32} {x2 : Int32} {x3 : Int32} {x4 : Int32} (h0 : mm_obj S a0 12 = true) (h1 : (mm_R S a0 19).isSome = true) (h2 : mm_inb (mm_M S a0 18) (mm_N S (mm_rg S a0 19)) = true) (h3 : mm_arr S (mm_rg S a0 19) 13 = true) : mm_ex d 155 18 [.ref a0, .int x1, .int x2, .int x3, .int x4] [] S =
    if (((nI 10) * (mm_M S a0 18)) + (mm_M S (mm_rg S a0 19) (mm_M S a0 18).toNatClampNeg)) ≤ x4 then mm_ex d 155 81 [.ref a0, .int x1, .int x2, .int x3, .int x4] [] S else mm_ex d 155 40 [.ref a0, .int x1, .int x2, .int x3, .int x4] [] S :=
  Eq.trans (mx_iload t155 d155_18 (x := x4) rfl) <|
  Eq.trans (mx_bipush t155 d155_20 (v := nI 10) rfl) <|
  Eq.trans (mx_aload_n t155 d155_22 (x := a0) rfl) <|
  Eq.trans (mx_geti t155 d155_23 rfl fl12_46 h0) <|
  Eq.trans (mx_imul t155 d155_26) <|
  Eq.trans (mx_aload_n t155 d155_27 (x := a0) rfl) <|
  Eq.trans (mx_getR t155 d155_28 rfl fl12_49 h0 h1) <|
  Eq.trans (mx_aload_n t155 d155_31 (x := a0) rfl) <|
  Eq.trans (mx_geti t155 d155_32 rfl fl12_46 h0) <|
  Eq.trans (mx_iald t155 d155_35 h3 h2) <|
  Eq.trans (mx_iadd t155 d155_36) <|
  (mx_cge t155 d155_37 (tgt := 81) (by decide))
theorem b155_40 {d : Nat} {S : mm_S} {a0 : Nat} {x1 : Int32} {x2 : Int32} {x3 : Int32} {x4 : Int32} (h0 : mm_obj S a0 12 = true) (h1 : (mm_R S a0 20).isSome = true) (h2 : mm_inb x4 (mm_N S (mm_rg S a0 20)) = true) (h3 : mm_arr S (mm_rg S a0 20) 13 = true) : mm_ex d 155 40 [.ref a0, .int x1, .int x2, .int x3, .int x4] [] S =
    if (mm_M S (mm_rg S a0 20) (x4).toNatClampNeg) = x1 then mm_ex d 155 52 [.ref a0, .int x1, .int x2, .int x3, .int x4] [.int x3] S else mm_ex d 155 72 [.ref a0, .int x1, .int x2, .int x3, .int x4] [.int x3] S :=
  Eq.trans (mx_iload_n t155 d155_40 (x := x3) rfl) <|
  Eq.trans (mx_aload_n t155 d155_41 (x := a0) rfl) <|
  Eq.trans (mx_getR t155 d155_42 rfl fl12_52 h0 h1) <|
  Eq.trans (mx_iload t155 d155_45 (x := x4) rfl) <|
  Eq.trans (mx_iald t155 d155_47 h3 h2) <|
  Eq.trans (mx_iload_n t155 d155_48 (x := x1) rfl) <|
  (mx_cne t155 d155_49 (tgt := 72) (by decide))
theorem b155_52 {d : Nat} {S : mm_S} {a0 : Nat} {x1 : Int32} {x2 : Int32} {x3 : Int32} {x4 : Int32} {p0 : Int32} (h0 : mm_rk S a0 = 12) : mm_ex (d + 1) 155 52 [.ref a0, .int x1, .int x2, .int x3, .int x4] [.int p0] S =
    mm_bd (mm_cl d 154 [.ref a0, .int x4, .int x2] S) (fun v S2 => mm_ex (d + 1) 155 59 [.ref a0, .int x1, .int x2, .int x3, .int x4] (v.toList ++ [.int p0]) S2) :=
  Eq.trans (mx_aload_n t155 d155_52 (x := a0) rfl) <|
  Eq.trans (mx_iload t155 d155_53 (x := x4) rfl) <|
  Eq.trans (mx_iload_n t155 d155_55 (x := x2) rfl) <|
  (mx_virt (st := [.int p0]) (k := 12) t155 [.int x4, .int x2] d155_56 vt12_247 rfl rfl (Nat.le_of_ble_eq_true rfl) (Nat.le_of_ble_eq_true rfl) h0)
theorem b155_59 {d : Nat} {S : mm_S} {a0 : Nat} {x1 : Int32} {x2 : Int32} {x3 : Int32} {x4 : Int32} {p0 : Int32} {p1 : Int32} : mm_ex d 155 59 [.ref a0, .int x1, .int x2, .int x3, .int x4] [.int p0, .int p1] S =
    if p0 = nI 0 then mm_ex d 155 72 [.ref a0, .int x1, .int x2, .int x3, .int x4] [.int p1] S else mm_ex d 155 62 [.ref a0, .int x1, .int x2, .int x3, .int x4] [.int p1] S :=
  (mx_ieq t155 d155_59 (tgt := 72) (by decide))
theorem b155_62 {d : Nat} {S : mm_S} {a0 : Nat} {x1 : Int32} {x2 : Int32} {x3 : Int32} {x4 : Int32} {p0 : Int32} (h0 : mm_obj S a0 12 = true) (h1 : (mm_R S a0 21).isSome = true) (h2 : mm_inb x4 (mm_N S (mm_rg S a0 21)) = true) (h3 : mm_arr S (mm_rg S a0 21) 13 = true) : mm_ex d 155 62 [.ref a0, .int x1, .int x2, .int x3, .int x4] [.int p0] S =
    mm_ex d 155 11 [.ref a0, .int x1, .int x2, .int (p0 + (mm_M S (mm_rg S a0 21) (x4).toNatClampNeg)), .int (x4 + nI 1)] [] S :=
  Eq.trans (mx_aload_n t155 d155_62 (x := a0) rfl) <|
  Eq.trans (mx_getR t155 d155_63 rfl fl12_55 h0 h1) <|
  Eq.trans (mx_iload t155 d155_66 (x := x4) rfl) <|
  Eq.trans (mx_iald t155 d155_68 h3 h2) <|
  Eq.trans (mx_goto t155 d155_69 (tgt := 73) (by decide)) <|
  Eq.trans (mx_iadd t155 d155_73) <|
  Eq.trans (mx_istore_n t155 d155_74 (ls' := [.ref a0, .int x1, .int x2, .int (p0 + (mm_M S (mm_rg S a0 21) (x4).toNatClampNeg)), .int x4]) rfl rfl) <|
  Eq.trans (mx_iinc t155 d155_75 (x := x4) (v := nI 1) (ls' := [.ref a0, .int x1, .int x2, .int (p0 + (mm_M S (mm_rg S a0 21) (x4).toNatClampNeg)), .int (x4 + nI 1)]) rfl rfl rfl rfl) <|
  (mx_goto t155 d155_78 (tgt := 11) (by decide))
theorem b155_72 {d : Nat} {S : mm_S} {a0 : Nat} {x1 : Int32} {x2 : Int32} {x3 : Int32} {x4 : Int32} {p0 : Int32} : mm_ex d 155 72 [.ref a0, .int x1, .int x2, .int x3, .int x4] [.int p0] S =
    mm_ex d 155 11 [.ref a0, .int x1, .int x2, .int (p0 + (nI 0)), .int (x4 + nI 1)] [] S :=
  Eq.trans (mx_iconst t155 d155_72 (v := nI 0) rfl) <|
  Eq.trans (mx_iadd t155 d155_73) <|
  Eq.trans (mx_istore_n t155 d155_74 (ls' := [.ref a0, .int x1, .int x2, .int (p0 + (nI 0)), .int x4]) rfl rfl) <|
  Eq.trans (mx_iinc t155 d155_75 (x := x4) (v := nI 1) (ls' := [.ref a0, .int x1, .int x2, .int (p0 + (nI 0)), .int (x4 + nI 1)]) rfl rfl rfl rfl) <|
  (mx_goto t155 d155_78 (tgt := 11) (by decide))
theorem b155_81 {d : Nat} {S : mm_S} {a0 : Nat} {x1 : Int32} {x2 : Int32} {x3 : Int32} {x4 : Int32} : mm_ex d 155 81 [.ref a0, .int x1, .int x2, .int x3, .int x4] [] S =
    some (some (.int x3), S) :=
  Eq.trans (mx_iload_n t155 d155_81 (x := x3) rfl) <|
  (mx_iret t155 d155_82 (ty := .int) rfl rfl (fun h => nomatch h))
theorem e155 {d : Nat} {S : mm_S} {a0 : Nat} {x1 : Int32} {x2 : Int32} : mm_cl d 155 [.ref a0, .int x1, .int x2] S = mm_ex d 155 0 [.ref a0, .int x1, .int x2, .null, .null] [] S := mm_cl_eq t155 (Nat.le_of_ble_eq_true rfl) rfl
/-! X12_valueOf -/
theorem d156_0 : decode prog_14_method_31_code 0 = .ok (.aload_n 0, 1) := by decide +kernel
theorem d156_1 : decode prog_14_method_31_code 1 = .ok (.getfield 18, 3) := by decide +kernel
theorem d156_4 : decode prog_14_method_31_code 4 = .ok (.iload_n 1, 1) := by decide +kernel
theorem d156_5 : decode prog_14_method_31_code 5 = .ok (.iaload, 1) := by decide +kernel
theorem d156_6 : decode prog_14_method_31_code 6 = .ok (.aload_n 0, 1) := by decide +kernel
theorem d156_7 : decode prog_14_method_31_code 7 = .ok (.iconst 0, 1) := by decide +kernel
theorem d156_8 : decode prog_14_method_31_code 8 = .ok (.iload_n 1, 1) := by decide +kernel
theorem d156_9 : decode prog_14_method_31_code 9 = .ok (.invokevirtual 251, 3) := by decide +kernel
theorem d156_12 : decode prog_14_method_31_code 12 = .ok (.iadd, 1) := by decide +kernel
theorem d156_13 : decode prog_14_method_31_code 13 = .ok (.ireturn, 1) := by decide +kernel
theorem b156_0 {d : Nat} {S : mm_S} {a0 : Nat} {x1 : Int32} (h0 : mm_obj S a0 12 = true) (h1 : (mm_R S a0 3).isSome = true) (h2 : mm_inb x1 (mm_N S (mm_rg S a0 3)) = true) (h3 : mm_arr S (mm_rg S a0 3) 13 = true) (h4 : mm_rk S a0 = 12) : mm_ex (d + 1) 156 0 [.ref a0, .int x1] [] S =
    mm_bd (mm_cl d 155 [.ref a0, .int (nI 0), .int x1] S) (fun v S2 => mm_ex (d + 1) 156 12 [.ref a0, .int x1] (v.toList ++ [.int (mm_M S (mm_rg S a0 3) (x1).toNatClampNeg)]) S2) :=
  Eq.trans (mx_aload_n t156 d156_0 (x := a0) rfl) <|
  Eq.trans (mx_getR t156 d156_1 rfl fl12_18 h0 h1) <|
  Eq.trans (mx_iload_n t156 d156_4 (x := x1) rfl) <|
  Eq.trans (mx_iald t156 d156_5 h3 h2) <|
  Eq.trans (mx_aload_n t156 d156_6 (x := a0) rfl) <|
  Eq.trans (mx_iconst t156 d156_7 (v := nI 0) rfl) <|
  Eq.trans (mx_iload_n t156 d156_8 (x := x1) rfl) <|
  (mx_virt (st := [.int (mm_M S (mm_rg S a0 3) (x1).toNatClampNeg)]) (k := 12) t156 [.int (nI 0), .int x1] d156_9 vt12_251 rfl rfl (Nat.le_of_ble_eq_true rfl) (Nat.le_of_ble_eq_true rfl) h4)
theorem b156_12 {d : Nat} {S : mm_S} {a0 : Nat} {x1 : Int32} {p0 : Int32} {p1 : Int32} : mm_ex d 156 12 [.ref a0, .int x1] [.int p0, .int p1] S =
    some (some (.int (p1 + p0)), S) :=
  Eq.trans (mx_iadd t156 d156_12) <|
  (mx_iret t156 d156_13 (ty := .int) rfl rfl (fun h => nomatch h))
theorem e156 {d : Nat} {S : mm_S} {a0 : Nat} {x1 : Int32} : mm_cl d 156 [.ref a0, .int x1] S = mm_ex d 156 0 [.ref a0, .int x1] [] S := mm_cl_eq t156 (Nat.le_of_ble_eq_true rfl) rfl
/-! X12_costOf -/
theorem d157_0 : decode prog_14_method_32_code 0 = .ok (.aload_n 0, 1) := by decide +kernel
theorem d157_1 : decode prog_14_method_32_code 1 = .ok (.iconst 1, 1) := by decide +kernel
theorem d157_2 : decode prog_14_method_32_code 2 = .ok (.iload_n 1, 1) := by decide +kernel
theorem d157_3 : decode prog_14_method_32_code 3 = .ok (.invokevirtual 251, 3) := by decide +kernel
theorem d157_6 : decode prog_14_method_32_code 6 = .ok (.ireturn, 1) := by decide +kernel
theorem b157_0 {d : Nat} {S : mm_S} {a0 : Nat} {x1 : Int32} (h0 : mm_rk S a0 = 12) : mm_ex (d + 1) 157 0 [.ref a0, .int x1] [] S =
    mm_bd (mm_cl d 155 [.ref a0, .int (nI 1), .int x1] S) (fun v S2 => mm_ex (d + 1) 157 6 [.ref a0, .int x1] (v.toList ++ []) S2) :=
  Eq.trans (mx_aload_n t157 d157_0 (x := a0) rfl) <|
  Eq.trans (mx_iconst t157 d157_1 (v := nI 1) rfl) <|
  Eq.trans (mx_iload_n t157 d157_2 (x := x1) rfl) <|
  (mx_virt (st := []) (k := 12) t157 [.int (nI 1), .int x1] d157_3 vt12_251 rfl rfl (Nat.le_of_ble_eq_true rfl) (Nat.le_of_ble_eq_true rfl) h0)
theorem b157_6 {d : Nat} {S : mm_S} {a0 : Nat} {x1 : Int32} {p0 : Int32} : mm_ex d 157 6 [.ref a0, .int x1] [.int p0] S =
    some (some (.int p0), S) :=
  (mx_iret t157 d157_6 (ty := .int) rfl rfl (fun h => nomatch h))
theorem e157 {d : Nat} {S : mm_S} {a0 : Nat} {x1 : Int32} : mm_cl d 157 [.ref a0, .int x1] S = mm_ex d 157 0 [.ref a0, .int x1] [] S := mm_cl_eq t157 (Nat.le_of_ble_eq_true rfl) rfl
/-! X12_lawOf -/
theorem dd158_0 : (decode prog_14_method_33_code 0 = .ok (.iload_n 1, 1)) ∧ (decode prog_14_method_33_code 1 = .ok (.iconst 5, 1)) ∧ (decode prog_14_method_33_code 2 = .ok (.if_icmp .ne 7, 3)) ∧ (decode prog_14_method_33_code 5 = .ok (.iconst 0, 1)) ∧ (decode prog_14_method_33_code 6 = .ok (.goto 4, 3)) ∧ (decode prog_14_method_33_code 9 = .ok (.iconst 1, 1)) ∧ (decode prog_14_method_33_code 10 = .ok (.istore_n 2, 1)) ∧ (decode prog_14_method_33_code 11 = .ok (.bipush 10, 2)) ∧ (decode prog_14_method_33_code 13 = .ok (.aload_n 0, 1)) ∧ (decode prog_14_method_33_code 14 = .ok (.getfield 46, 3)) ∧ (decode prog_14_method_33_code 17 = .ok (.imul, 1)) ∧ (decode prog_14_method_33_code 18 = .ok (.istore_n 3, 1)) ∧ (decode prog_14_method_33_code 19 = .ok (.aload_n 0, 1)) ∧ (decode prog_14_method_33_code 20 = .ok (.getfield 46, 3)) ∧ (decode prog_14_method_33_code 23 = .ok (.ifCond .lt 51, 3)) ∧ (decode prog_14_method_33_code 26 = .ok (.iload_n 3, 1)) := by decide +kernel
theorem d158_0 : decode prog_14_method_33_code 0 = .ok (.iload_n 1, 1) := dd158_0.1
theorem d158_1 : decode prog_14_method_33_code 1 = .ok (.iconst 5, 1) := dd158_0.2.1
theorem d158_2 : decode prog_14_method_33_code 2 = .ok (.if_icmp .ne 7, 3) := dd158_0.2.2.1
theorem d158_5 : decode prog_14_method_33_code 5 = .ok (.iconst 0, 1) := dd158_0.2.2.2.1
theorem d158_6 : decode prog_14_method_33_code 6 = .ok (.goto 4, 3) := dd158_0.2.2.2.2.1
theorem d158_9 : decode prog_14_method_33_code 9 = .ok (.iconst 1, 1) := dd158_0.2.2.2.2.2.1
theorem d158_10 : decode prog_14_method_33_code 10 = .ok (.istore_n 2, 1) := dd158_0.2.2.2.2.2.2.1
theorem d158_11 : decode prog_14_method_33_code 11 = .ok (.bipush 10, 2) := dd158_0.2.2.2.2.2.2.2.1
theorem d158_13 : decode prog_14_method_33_code 13 = .ok (.aload_n 0, 1) := dd158_0.2.2.2.2.2.2.2.2.1
theorem d158_14 : decode prog_14_method_33_code 14 = .ok (.getfield 46, 3) := dd158_0.2.2.2.2.2.2.2.2.2.1
theorem d158_17 : decode prog_14_method_33_code 17 = .ok (.imul, 1) := dd158_0.2.2.2.2.2.2.2.2.2.2.1
theorem d158_18 : decode prog_14_method_33_code 18 = .ok (.istore_n 3, 1) := dd158_0.2.2.2.2.2.2.2.2.2.2.2.1
theorem d158_19 : decode prog_14_method_33_code 19 = .ok (.aload_n 0, 1) := dd158_0.2.2.2.2.2.2.2.2.2.2.2.2.1
theorem d158_20 : decode prog_14_method_33_code 20 = .ok (.getfield 46, 3) := dd158_0.2.2.2.2.2.2.2.2.2.2.2.2.2.1
theorem d158_23 : decode prog_14_method_33_code 23 = .ok (.ifCond .lt 51, 3) := dd158_0.2.2.2.2.2.2.2.2.2.2.2.2.2.2.1
theorem d158_26 : decode prog_14_method_33_code 26 = .ok (.iload_n 3, 1) := dd158_0.2.2.2.2.2.2.2.2.2.2.2.2.2.2.2
theorem dd158_27 : (decode prog_14_method_33_code 27 = .ok (.bipush 10, 2)) ∧ (decode prog_14_method_33_code 29 = .ok (.aload_n 0, 1)) ∧ (decode prog_14_method_33_code 30 = .ok (.getfield 46, 3)) ∧ (decode prog_14_method_33_code 33 = .ok (.imul, 1)) ∧ (decode prog_14_method_33_code 34 = .ok (.aload_n 0, 1)) ∧ (decode prog_14_method_33_code 35 = .ok (.getfield 49, 3)) ∧ (decode prog_14_method_33_code 38 = .ok (.aload_n 0, 1)) ∧ (decode prog_14_method_33_code 39 = .ok (.getfield 46, 3)) ∧ (decode prog_14_method_33_code 42 = .ok (.iaload, 1)) ∧ (decode prog_14_method_33_code 43 = .ok (.iadd, 1)) ∧ (decode prog_14_method_33_code 44 = .ok (.if_icmp .ge 30, 3)) ∧ (decode prog_14_method_33_code 47 = .ok (.aload_n 0, 1)) ∧ (decode prog_14_method_33_code 48 = .ok (.getfield 52, 3)) ∧ (decode prog_14_method_33_code 51 = .ok (.iload_n 3, 1)) ∧ (decode prog_14_method_33_code 52 = .ok (.iaload, 1)) ∧ (decode prog_14_method_33_code 53 = .ok (.iload_n 1, 1)) := by decide +kernel
theorem d158_27 : decode prog_14_method_33_code 27 = .ok (.bipush 10, 2) := dd158_27.1
theorem d158_29 : decode prog_14_method_33_code 29 = .ok (.aload_n 0, 1) := dd158_27.2.1
theorem d158_30 : decode prog_14_method_33_code 30 = .ok (.getfield 46, 3) := dd158_27.2.2.1
theorem d158_33 : decode prog_14_method_33_code 33 = .ok (.imul, 1) := dd158_27.2.2.2.1
theorem d158_34 : decode prog_14_method_33_code 34 = .ok (.aload_n 0, 1) := dd158_27.2.2.2.2.1
theorem d158_35 : decode prog_14_method_33_code 35 = .ok (.getfield 49, 3) := dd158_27.2.2.2.2.2.1
theorem d158_38 : decode prog_14_method_33_code 38 = .ok (.aload_n 0, 1) := dd158_27.2.2.2.2.2.2.1
theorem d158_39 : decode prog_14_method_33_code 39 = .ok (.getfield 46, 3) := dd158_27.2.2.2.2.2.2.2.1
theorem d158_42 : decode prog_14_method_33_code 42 = .ok (.iaload, 1) := dd158_27.2.2.2.2.2.2.2.2.1
theorem d158_43 : decode prog_14_method_33_code 43 = .ok (.iadd, 1) := dd158_27.2.2.2.2.2.2.2.2.2.1
theorem d158_44 : decode prog_14_method_33_code 44 = .ok (.if_icmp .ge 30, 3) := dd158_27.2.2.2.2.2.2.2.2.2.2.1
theorem d158_47 : decode prog_14_method_33_code 47 = .ok (.aload_n 0, 1) := dd158_27.2.2.2.2.2.2.2.2.2.2.2.1
theorem d158_48 : decode prog_14_method_33_code 48 = .ok (.getfield 52, 3) := dd158_27.2.2.2.2.2.2.2.2.2.2.2.2.1
theorem d158_51 : decode prog_14_method_33_code 51 = .ok (.iload_n 3, 1) := dd158_27.2.2.2.2.2.2.2.2.2.2.2.2.2.1
theorem d158_52 : decode prog_14_method_33_code 52 = .ok (.iaload, 1) := dd158_27.2.2.2.2.2.2.2.2.2.2.2.2.2.2.1
theorem d158_53 : decode prog_14_method_33_code 53 = .ok (.iload_n 1, 1) := dd158_27.2.2.2.2.2.2.2.2.2.2.2.2.2.2.2
theorem dd158_54 : (decode prog_14_method_33_code 54 = .ok (.if_icmp .ne 12, 3)) ∧ (decode prog_14_method_33_code 57 = .ok (.aload_n 0, 1)) ∧ (decode prog_14_method_33_code 58 = .ok (.getfield 55, 3)) ∧ (decode prog_14_method_33_code 61 = .ok (.iload_n 3, 1)) ∧ (decode prog_14_method_33_code 62 = .ok (.iaload, 1)) ∧ (decode prog_14_method_33_code 63 = .ok (.goto 4, 3)) ∧ (decode prog_14_method_33_code 66 = .ok (.iload_n 2, 1)) ∧ (decode prog_14_method_33_code 67 = .ok (.istore_n 2, 1)) ∧ (decode prog_14_method_33_code 68 = .ok (.iinc 3 1, 3)) ∧ (decode prog_14_method_33_code 71 = .ok (.goto (-52), 3)) ∧ (decode prog_14_method_33_code 74 = .ok (.iload_n 1, 1)) ∧ (decode prog_14_method_33_code 75 = .ok (.iconst 4, 1)) ∧ (decode prog_14_method_33_code 76 = .ok (.if_icmp .ne 16, 3)) ∧ (decode prog_14_method_33_code 79 = .ok (.iload_n 2, 1)) ∧ (decode prog_14_method_33_code 80 = .ok (.bipush 9, 2)) ∧ (decode prog_14_method_33_code 82 = .ok (.if_icmp .le 8, 3)) := by decide +kernel
theorem d158_54 : decode prog_14_method_33_code 54 = .ok (.if_icmp .ne 12, 3) := dd158_54.1
theorem d158_57 : decode prog_14_method_33_code 57 = .ok (.aload_n 0, 1) := dd158_54.2.1
theorem d158_58 : decode prog_14_method_33_code 58 = .ok (.getfield 55, 3) := dd158_54.2.2.1
theorem d158_61 : decode prog_14_method_33_code 61 = .ok (.iload_n 3, 1) := dd158_54.2.2.2.1
theorem d158_62 : decode prog_14_method_33_code 62 = .ok (.iaload, 1) := dd158_54.2.2.2.2.1
theorem d158_63 : decode prog_14_method_33_code 63 = .ok (.goto 4, 3) := dd158_54.2.2.2.2.2.1
theorem d158_66 : decode prog_14_method_33_code 66 = .ok (.iload_n 2, 1) := dd158_54.2.2.2.2.2.2.1
theorem d158_67 : decode prog_14_method_33_code 67 = .ok (.istore_n 2, 1) := dd158_54.2.2.2.2.2.2.2.1
theorem d158_68 : decode prog_14_method_33_code 68 = .ok (.iinc 3 1, 3) := dd158_54.2.2.2.2.2.2.2.2.1
theorem d158_71 : decode prog_14_method_33_code 71 = .ok (.goto (-52), 3) := dd158_54.2.2.2.2.2.2.2.2.2.1
theorem d158_74 : decode prog_14_method_33_code 74 = .ok (.iload_n 1, 1) := dd158_54.2.2.2.2.2.2.2.2.2.2.1
theorem d158_75 : decode prog_14_method_33_code 75 = .ok (.iconst 4, 1) := dd158_54.2.2.2.2.2.2.2.2.2.2.2.1
theorem d158_76 : decode prog_14_method_33_code 76 = .ok (.if_icmp .ne 16, 3) := dd158_54.2.2.2.2.2.2.2.2.2.2.2.2.1
theorem d158_79 : decode prog_14_method_33_code 79 = .ok (.iload_n 2, 1) := dd158_54.2.2.2.2.2.2.2.2.2.2.2.2.2.1
theorem d158_80 : decode prog_14_method_33_code 80 = .ok (.bipush 9, 2) := dd158_54.2.2.2.2.2.2.2.2.2.2.2.2.2.2.1
theorem d158_82 : decode prog_14_method_33_code 82 = .ok (.if_icmp .le 8, 3) := dd158_54.2.2.2.2.2.2.2.2.2.2.2.2.2.2.2
theorem dd158_85 : (decode prog_14_method_33_code 85 = .ok (.bipush 9, 2)) ∧ (decode prog_14_method_33_code 87 = .ok (.goto 4, 3)) ∧ (decode prog_14_method_33_code 90 = .ok (.iload_n 2, 1)) ∧ (decode prog_14_method_33_code 91 = .ok (.ireturn, 1)) ∧ (decode prog_14_method_33_code 92 = .ok (.iload_n 1, 1)) ∧ (decode prog_14_method_33_code 93 = .ok (.iconst 5, 1)) ∧ (decode prog_14_method_33_code 94 = .ok (.if_icmp .ne 17, 3)) ∧ (decode prog_14_method_33_code 97 = .ok (.aload_n 0, 1)) ∧ (decode prog_14_method_33_code 98 = .ok (.getfield 70, 3)) ∧ (decode prog_14_method_33_code 101 = .ok (.ifCond .lt 10, 3)) ∧ (decode prog_14_method_33_code 104 = .ok (.aload_n 0, 1)) ∧ (decode prog_14_method_33_code 105 = .ok (.getfield 70, 3)) ∧ (decode prog_14_method_33_code 108 = .ok (.goto 4, 3)) ∧ (decode prog_14_method_33_code 111 = .ok (.iload_n 2, 1)) ∧ (decode prog_14_method_33_code 112 = .ok (.ireturn, 1)) := by decide +kernel
theorem d158_85 : decode prog_14_method_33_code 85 = .ok (.bipush 9, 2) := dd158_85.1
theorem d158_87 : decode prog_14_method_33_code 87 = .ok (.goto 4, 3) := dd158_85.2.1
theorem d158_90 : decode prog_14_method_33_code 90 = .ok (.iload_n 2, 1) := dd158_85.2.2.1
theorem d158_91 : decode prog_14_method_33_code 91 = .ok (.ireturn, 1) := dd158_85.2.2.2.1
theorem d158_92 : decode prog_14_method_33_code 92 = .ok (.iload_n 1, 1) := dd158_85.2.2.2.2.1
theorem d158_93 : decode prog_14_method_33_code 93 = .ok (.iconst 5, 1) := dd158_85.2.2.2.2.2.1
theorem d158_94 : decode prog_14_method_33_code 94 = .ok (.if_icmp .ne 17, 3) := dd158_85.2.2.2.2.2.2.1
theorem d158_97 : decode prog_14_method_33_code 97 = .ok (.aload_n 0, 1) := dd158_85.2.2.2.2.2.2.2.1
theorem d158_98 : decode prog_14_method_33_code 98 = .ok (.getfield 70, 3) := dd158_85.2.2.2.2.2.2.2.2.1
theorem d158_101 : decode prog_14_method_33_code 101 = .ok (.ifCond .lt 10, 3) := dd158_85.2.2.2.2.2.2.2.2.2.1
theorem d158_104 : decode prog_14_method_33_code 104 = .ok (.aload_n 0, 1) := dd158_85.2.2.2.2.2.2.2.2.2.2.1
theorem d158_105 : decode prog_14_method_33_code 105 = .ok (.getfield 70, 3) := dd158_85.2.2.2.2.2.2.2.2.2.2.2.1
theorem d158_108 : decode prog_14_method_33_code 108 = .ok (.goto 4, 3) := dd158_85.2.2.2.2.2.2.2.2.2.2.2.2.1
theorem d158_111 : decode prog_14_method_33_code 111 = .ok (.iload_n 2, 1) := dd158_85.2.2.2.2.2.2.2.2.2.2.2.2.2.1
theorem d158_112 : decode prog_14_method_33_code 112 = .ok (.ireturn, 1) := dd158_85.2.2.2.2.2.2.2.2.2.2.2.2.2.2
theorem b158_0 {d : Nat} {S : mm_S} {a0 : Nat} {x1 : Int32} : mm_ex d 158 0 [.ref a0, .int x1, .null, .null] [] S =
    if x1 = (nI 5) then mm_ex d 158 5 [.ref a0, .int x1, .null, .null] [] S else mm_ex d 158 9 [.ref a0, .int x1, .null, .null] [] S :=
  Eq.trans (mx_iload_n t158 d158_0 (x := x1) rfl) <|
  Eq.trans (mx_iconst t158 d158_1 (v := nI 5) rfl) <|
  (mx_cne t158 d158_2 (tgt := 9) (by decide))
theorem b158_5 {d : Nat} {S : mm_S} {a0 : Nat} {x1 : Int32} (h0 : mm_obj S a0 12 = true) : mm_ex d 158 5 [.ref a0, .int x1, .null, .null] [] S =
    mm_ex d 158 19 [.ref a0, .int x1, .int (nI 0), .int ((nI 10) * (mm_M S a0 18))] [] S :=
  Eq.trans (mx_iconst t158 d158_5 (v := nI 0) rfl) <|
  Eq.trans (mx_goto t158 d158_6 (tgt := 10) (by decide)) <|
  Eq.trans (mx_istore_n t158 d158_10 (ls' := [.ref a0, .int x1, .int (nI 0), .null]) rfl rfl) <|
  Eq.trans (mx_bipush t158 d158_11 (v := nI 10) rfl) <|
  Eq.trans (mx_aload_n t158 d158_13 (x := a0) rfl) <|
  Eq.trans (mx_geti t158 d158_14 rfl fl12_46 h0) <|
  Eq.trans (mx_imul t158 d158_17) <|
  (mx_istore_n t158 d158_18 (ls' := [.ref a0, .int x1, .int (nI 0), .int ((nI 10) * (mm_M S a0 18))]) rfl rfl)
theorem b158_9 {d : Nat} {S : mm_S} {a0 : Nat} {x1 : Int32} (h0 : mm_obj S a0 12 = true) : mm_ex d 158 9 [.ref a0, .int x1, .null, .null] [] S =
    mm_ex d 158 19 [.ref a0, .int x1, .int (nI 1), .int ((nI 10) * (mm_M S a0 18))] [] S :=
  Eq.trans (mx_iconst t158 d158_9 (v := nI 1) rfl) <|
  Eq.trans (mx_istore_n t158 d158_10 (ls' := [.ref a0, .int x1, .int (nI 1), .null]) rfl rfl) <|
  Eq.trans (mx_bipush t158 d158_11 (v := nI 10) rfl) <|
  Eq.trans (mx_aload_n t158 d158_13 (x := a0) rfl) <|
  Eq.trans (mx_geti t158 d158_14 rfl fl12_46 h0) <|
  Eq.trans (mx_imul t158 d158_17) <|
  (mx_istore_n t158 d158_18 (ls' := [.ref a0, .int x1, .int (nI 1), .int ((nI 10) * (mm_M S a0 18))]) rfl rfl)
theorem b158_19 {d : Nat} {S : mm_S} {a0 : Nat} {x1 : Int32} {x2 : Int32} {x3 : Int32} (h0 : mm_obj S a0 12 = true) : mm_ex d 158 19 [.ref a0, .int x1, .int x2, .int x3] [] S =
    if (mm_M S a0 18) < nI 0 then mm_ex d 158 74 [.ref a0, .int x1, .int x2, .int x3] [] S else mm_ex d 158 26 [.ref a0, .int x1, .int x2, .int x3] [] S :=
  Eq.trans (mx_aload_n t158 d158_19 (x := a0) rfl) <|
  Eq.trans (mx_geti t158 d158_20 rfl fl12_46 h0) <|
  (mx_ilt t158 d158_23 (tgt := 74) (by decide))
theorem b158_26 {d : Nat} {S : mm_S} {a0 : Nat} {x1 : Int32} {x2 : Int32} {x3 : Int32} (h0 : mm_obj S a0 12 = true) (h1 : (mm_R S a0 19).isSome = true) (h2 : mm_inb (mm_M S a0 18) (mm_N S (mm_rg S a0 19)) = true) (h3 : mm_arr S (mm_rg S a0 19) 13 = true) : mm_ex d 158 26 [.ref a0, .int x1, .int x2, .int x3] [] S =
    if (((nI 10) * (mm_M S a0 18)) + (mm_M S (mm_rg S a0 19) (mm_M S a0 18).toNatClampNeg)) ≤ x3 then mm_ex d 158 74 [.ref a0, .int x1, .int x2, .int x3] [] S else mm_ex d 158 47 [.ref a0, .int x1, .int x2, .int x3] [] S :=
  Eq.trans (mx_iload_n t158 d158_26 (x := x3) rfl) <|
  Eq.trans (mx_bipush t158 d158_27 (v := nI 10) rfl) <|
  Eq.trans (mx_aload_n t158 d158_29 (x := a0) rfl) <|
  Eq.trans (mx_geti t158 d158_30 rfl fl12_46 h0) <|
  Eq.trans (mx_imul t158 d158_33) <|
  Eq.trans (mx_aload_n t158 d158_34 (x := a0) rfl) <|
  Eq.trans (mx_getR t158 d158_35 rfl fl12_49 h0 h1) <|
  Eq.trans (mx_aload_n t158 d158_38 (x := a0) rfl) <|
  Eq.trans (mx_geti t158 d158_39 rfl fl12_46 h0) <|
  Eq.trans (mx_iald t158 d158_42 h3 h2) <|
  Eq.trans (mx_iadd t158 d158_43) <|
  (mx_cge t158 d158_44 (tgt := 74) (by decide))
theorem b158_47 {d : Nat} {S : mm_S} {a0 : Nat} {x1 : Int32} {x2 : Int32} {x3 : Int32} (h0 : mm_obj S a0 12 = true) (h1 : (mm_R S a0 20).isSome = true) (h2 : mm_inb x3 (mm_N S (mm_rg S a0 20)) = true) (h3 : mm_arr S (mm_rg S a0 20) 13 = true) : mm_ex d 158 47 [.ref a0, .int x1, .int x2, .int x3] [] S =
    if (mm_M S (mm_rg S a0 20) (x3).toNatClampNeg) = x1 then mm_ex d 158 57 [.ref a0, .int x1, .int x2, .int x3] [] S else mm_ex d 158 66 [.ref a0, .int x1, .int x2, .int x3] [] S :=
  Eq.trans (mx_aload_n t158 d158_47 (x := a0) rfl) <|
  Eq.trans (mx_getR t158 d158_48 rfl fl12_52 h0 h1) <|
  Eq.trans (mx_iload_n t158 d158_51 (x := x3) rfl) <|
  Eq.trans (mx_iald t158 d158_52 h3 h2) <|
  Eq.trans (mx_iload_n t158 d158_53 (x := x1) rfl) <|
  (mx_cne t158 d158_54 (tgt := 66) (by decide))
theorem b158_57 {d : Nat} {S : mm_S} {a0 : Nat} {x1 : Int32} {x2 : Int32} {x3 : Int32} (h0 : mm_obj S a0 12 = true) (h1 : (mm_R S a0 21).isSome = true) (h2 : mm_inb x3 (mm_N S (mm_rg S a0 21)) = true) (h3 : mm_arr S (mm_rg S a0 21) 13 = true) : mm_ex d 158 57 [.ref a0, .int x1, .int x2, .int x3] [] S =
    mm_ex d 158 19 [.ref a0, .int x1, .int (mm_M S (mm_rg S a0 21) (x3).toNatClampNeg), .int (x3 + nI 1)] [] S :=
  Eq.trans (mx_aload_n t158 d158_57 (x := a0) rfl) <|
  Eq.trans (mx_getR t158 d158_58 rfl fl12_55 h0 h1) <|
  Eq.trans (mx_iload_n t158 d158_61 (x := x3) rfl) <|
  Eq.trans (mx_iald t158 d158_62 h3 h2) <|
  Eq.trans (mx_goto t158 d158_63 (tgt := 67) (by decide)) <|
  Eq.trans (mx_istore_n t158 d158_67 (ls' := [.ref a0, .int x1, .int (mm_M S (mm_rg S a0 21) (x3).toNatClampNeg), .int x3]) rfl rfl) <|
  Eq.trans (mx_iinc t158 d158_68 (x := x3) (v := nI 1) (ls' := [.ref a0, .int x1, .int (mm_M S (mm_rg S a0 21) (x3).toNatClampNeg), .int (x3 + nI 1)]) rfl rfl rfl rfl) <|
  (mx_goto t158 d158_71 (tgt := 19) (by decide))
theorem b158_66 {d : Nat} {S : mm_S} {a0 : Nat} {x1 : Int32} {x2 : Int32} {x3 : Int32} : mm_ex d 158 66 [.ref a0, .int x1, .int x2, .int x3] [] S =
    mm_ex d 158 19 [.ref a0, .int x1, .int x2, .int (x3 + nI 1)] [] S :=
  Eq.trans (mx_iload_n t158 d158_66 (x := x2) rfl) <|
  Eq.trans (mx_istore_n t158 d158_67 (ls' := [.ref a0, .int x1, .int x2, .int x3]) rfl rfl) <|
  Eq.trans (mx_iinc t158 d158_68 (x := x3) (v := nI 1) (ls' := [.ref a0, .int x1, .int x2, .int (x3 + nI 1)]) rfl rfl rfl rfl) <|
  (mx_goto t158 d158_71 (tgt := 19) (by decide))
theorem b158_74 {d : Nat} {S : mm_S} {a0 : Nat} {x1 : Int32} {x2 : Int32} {x3 : Int32} : mm_ex d 158 74 [.ref a0, .int x1, .int x2, .int x3] [] S =
    if x1 = (nI 4) then mm_ex d 158 79 [.ref a0, .int x1, .int x2, .int x3] [] S else mm_ex d 158 92 [.ref a0, .int x1, .int x2, .int x3] [] S :=
  Eq.trans (mx_iload_n t158 d158_74 (x := x1) rfl) <|
  Eq.trans (mx_iconst t158 d158_75 (v := nI 4) rfl) <|
  (mx_cne t158 d158_76 (tgt := 92) (by decide))
theorem b158_79 {d : Nat} {S : mm_S} {a0 : Nat} {x1 : Int32} {x2 : Int32} {x3 : Int32} : mm_ex d 158 79 [.ref a0, .int x1, .int x2, .int x3] [] S =
    if x2 ≤ (nI 9) then mm_ex d 158 90 [.ref a0, .int x1, .int x2, .int x3] [] S else mm_ex d 158 85 [.ref a0, .int x1, .int x2, .int x3] [] S :=
  Eq.trans (mx_iload_n t158 d158_79 (x := x2) rfl) <|
  Eq.trans (mx_bipush t158 d158_80 (v := nI 9) rfl) <|
  (mx_cle t158 d158_82 (tgt := 90) (by decide))
theorem b158_85 {d : Nat} {S : mm_S} {a0 : Nat} {x1 : Int32} {x2 : Int32} {x3 : Int32} : mm_ex d 158 85 [.ref a0, .int x1, .int x2, .int x3] [] S =
    some (some (.int (nI 9)), S) :=
  Eq.trans (mx_bipush t158 d158_85 (v := nI 9) rfl) <|
  Eq.trans (mx_goto t158 d158_87 (tgt := 91) (by decide)) <|
  (mx_iret t158 d158_91 (ty := .int) rfl rfl (fun h => nomatch h))
theorem b158_90 {d : Nat} {S : mm_S} {a0 : Nat} {x1 : Int32} {x2 : Int32} {x3 : Int32} : mm_ex d 158 90 [.ref a0, .int x1, .int x2, .int x3] [] S =
    some (some (.int x2), S) :=
  Eq.trans (mx_iload_n t158 d158_90 (x := x2) rfl) <|
  (mx_iret t158 d158_91 (ty := .int) rfl rfl (fun h => nomatch h))
theorem b158_92 {d : Nat} {S : mm_S} {a0 : Nat} {x1 : Int32} {x2 : Int32} {x3 : Int32} : mm_ex d 158 92 [.ref a0, .int x1, .int x2, .int x3] [] S =
    if x1 = (nI 5) then mm_ex d 158 97 [.ref a0, .int x1, .int x2, .int x3] [] S else mm_ex d 158 111 [.ref a0, .int x1, .int x2, .int x3] [] S :=
  Eq.trans (mx_iload_n t158 d158_92 (x := x1) rfl) <|
  Eq.trans (mx_iconst t158 d158_93 (v := nI 5) rfl) <|
  (mx_cne t158 d158_94 (tgt := 111) (by decide))
theorem b158_97 {d : Nat} {S : mm_S} {a0 : Nat} {x1 : Int32} {x2 : Int32} {x3 : Int32} (h0 : mm_obj S a0 12 = true) : mm_ex d 158 97 [.ref a0, .int x1, .int x2, .int x3] [] S =
    if (mm_M S a0 27) < nI 0 then mm_ex d 158 111 [.ref a0, .int x1, .int x2, .int x3] [] S else mm_ex d 158 104 [.ref a0, .int x1, .int x2, .int x3] [] S :=
  Eq.trans (mx_aload_n t158 d158_97 (x := a0) rfl) <|
  Eq.trans (mx_geti t158 d158_98 rfl fl12_70 h0) <|
  (mx_ilt t158 d158_101 (tgt := 111) (by decide))
theorem b158_104 {d : Nat} {S : mm_S} {a0 : Nat} {x1 : Int32} {x2 : Int32} {x3 : Int32} (h0 : mm_obj S a0 12 = true) : mm_ex d 158 104 [.ref a0, .int x1, .int x2, .int x3] [] S =
    some (some (.int (mm_M S a0 27)), S) :=
  Eq.trans (mx_aload_n t158 d158_104 (x := a0) rfl) <|
  Eq.trans (mx_geti t158 d158_105 rfl fl12_70 h0) <|
  Eq.trans (mx_goto t158 d158_108 (tgt := 112) (by decide)) <|
  (mx_iret t158 d158_112 (ty := .int) rfl rfl (fun h => nomatch h))
theorem b158_111 {d : Nat} {S : mm_S} {a0 : Nat} {x1 : Int32} {x2 : Int32} {x3 : Int32} : mm_ex d 158 111 [.ref a0, .int x1, .int x2, .int x3] [] S =
    some (some (.int x2), S) :=
  Eq.trans (mx_iload_n t158 d158_111 (x := x2) rfl) <|
  (mx_iret t158 d158_112 (ty := .int) rfl rfl (fun h => nomatch h))
theorem e158 {d : Nat} {S : mm_S} {a0 : Nat} {x1 : Int32} : mm_cl d 158 [.ref a0, .int x1] S = mm_ex d 158 0 [.ref a0, .int x1, .null, .null] [] S := mm_cl_eq t158 (Nat.le_of_ble_eq_true rfl) rfl
/-! X12_told -/
theorem dd159_0 : (decode prog_14_method_34_code 0 = .ok (.iload_n 1, 1)) ∧ (decode prog_14_method_34_code 1 = .ok (.tableswitch 107 0 9 #[55, 55, 55, 55, 63, 68, 73, 78, 83, 88], 55)) ∧ (decode prog_14_method_34_code 56 = .ok (.aload_n 0, 1)) ∧ (decode prog_14_method_34_code 57 = .ok (.iload_n 1, 1)) ∧ (decode prog_14_method_34_code 58 = .ok (.iconst 2, 1)) ∧ (decode prog_14_method_34_code 59 = .ok (.iadd, 1)) ∧ (decode prog_14_method_34_code 60 = .ok (.invokevirtual 254, 3)) ∧ (decode prog_14_method_34_code 63 = .ok (.ireturn, 1)) ∧ (decode prog_14_method_34_code 64 = .ok (.aload_n 0, 1)) ∧ (decode prog_14_method_34_code 65 = .ok (.getfield 36, 3)) ∧ (decode prog_14_method_34_code 68 = .ok (.ireturn, 1)) ∧ (decode prog_14_method_34_code 69 = .ok (.aload_n 0, 1)) ∧ (decode prog_14_method_34_code 70 = .ok (.getfield 40, 3)) ∧ (decode prog_14_method_34_code 73 = .ok (.ireturn, 1)) ∧ (decode prog_14_method_34_code 74 = .ok (.aload_n 0, 1)) ∧ (decode prog_14_method_34_code 75 = .ok (.getfield 257, 3)) := by decide +kernel
theorem d159_0 : decode prog_14_method_34_code 0 = .ok (.iload_n 1, 1) := dd159_0.1
theorem d159_1 : decode prog_14_method_34_code 1 = .ok (.tableswitch 107 0 9 #[55, 55, 55, 55, 63, 68, 73, 78, 83, 88], 55) := dd159_0.2.1
theorem d159_56 : decode prog_14_method_34_code 56 = .ok (.aload_n 0, 1) := dd159_0.2.2.1
theorem d159_57 : decode prog_14_method_34_code 57 = .ok (.iload_n 1, 1) := dd159_0.2.2.2.1
theorem d159_58 : decode prog_14_method_34_code 58 = .ok (.iconst 2, 1) := dd159_0.2.2.2.2.1
theorem d159_59 : decode prog_14_method_34_code 59 = .ok (.iadd, 1) := dd159_0.2.2.2.2.2.1
theorem d159_60 : decode prog_14_method_34_code 60 = .ok (.invokevirtual 254, 3) := dd159_0.2.2.2.2.2.2.1
theorem d159_63 : decode prog_14_method_34_code 63 = .ok (.ireturn, 1) := dd159_0.2.2.2.2.2.2.2.1
theorem d159_64 : decode prog_14_method_34_code 64 = .ok (.aload_n 0, 1) := dd159_0.2.2.2.2.2.2.2.2.1
theorem d159_65 : decode prog_14_method_34_code 65 = .ok (.getfield 36, 3) := dd159_0.2.2.2.2.2.2.2.2.2.1
theorem d159_68 : decode prog_14_method_34_code 68 = .ok (.ireturn, 1) := dd159_0.2.2.2.2.2.2.2.2.2.2.1
theorem d159_69 : decode prog_14_method_34_code 69 = .ok (.aload_n 0, 1) := dd159_0.2.2.2.2.2.2.2.2.2.2.2.1
theorem d159_70 : decode prog_14_method_34_code 70 = .ok (.getfield 40, 3) := dd159_0.2.2.2.2.2.2.2.2.2.2.2.2.1
theorem d159_73 : decode prog_14_method_34_code 73 = .ok (.ireturn, 1) := dd159_0.2.2.2.2.2.2.2.2.2.2.2.2.2.1
theorem d159_74 : decode prog_14_method_34_code 74 = .ok (.aload_n 0, 1) := dd159_0.2.2.2.2.2.2.2.2.2.2.2.2.2.2.1
theorem d159_75 : decode prog_14_method_34_code 75 = .ok (.getfield 257, 3) := dd159_0.2.2.2.2.2.2.2.2.2.2.2.2.2.2.2
theorem dd159_78 : (decode prog_14_method_34_code 78 = .ok (.ireturn, 1)) ∧ (decode prog_14_method_34_code 79 = .ok (.aload_n 0, 1)) ∧ (decode prog_14_method_34_code 80 = .ok (.getfield 260, 3)) ∧ (decode prog_14_method_34_code 83 = .ok (.ireturn, 1)) ∧ (decode prog_14_method_34_code 84 = .ok (.aload_n 0, 1)) ∧ (decode prog_14_method_34_code 85 = .ok (.getfield 166, 3)) ∧ (decode prog_14_method_34_code 88 = .ok (.ireturn, 1)) ∧ (decode prog_14_method_34_code 89 = .ok (.aload_n 0, 1)) ∧ (decode prog_14_method_34_code 90 = .ok (.getfield 166, 3)) ∧ (decode prog_14_method_34_code 93 = .ok (.ifCond .ne 8, 3)) ∧ (decode prog_14_method_34_code 96 = .ok (.bipush (-5), 2)) ∧ (decode prog_14_method_34_code 98 = .ok (.goto 9, 3)) ∧ (decode prog_14_method_34_code 101 = .ok (.aload_n 0, 1)) ∧ (decode prog_14_method_34_code 102 = .ok (.getfield 33, 3)) ∧ (decode prog_14_method_34_code 105 = .ok (.iconst 0, 1)) ∧ (decode prog_14_method_34_code 106 = .ok (.iaload, 1)) := by decide +kernel
theorem d159_78 : decode prog_14_method_34_code 78 = .ok (.ireturn, 1) := dd159_78.1
theorem d159_79 : decode prog_14_method_34_code 79 = .ok (.aload_n 0, 1) := dd159_78.2.1
theorem d159_80 : decode prog_14_method_34_code 80 = .ok (.getfield 260, 3) := dd159_78.2.2.1
theorem d159_83 : decode prog_14_method_34_code 83 = .ok (.ireturn, 1) := dd159_78.2.2.2.1
theorem d159_84 : decode prog_14_method_34_code 84 = .ok (.aload_n 0, 1) := dd159_78.2.2.2.2.1
theorem d159_85 : decode prog_14_method_34_code 85 = .ok (.getfield 166, 3) := dd159_78.2.2.2.2.2.1
theorem d159_88 : decode prog_14_method_34_code 88 = .ok (.ireturn, 1) := dd159_78.2.2.2.2.2.2.1
theorem d159_89 : decode prog_14_method_34_code 89 = .ok (.aload_n 0, 1) := dd159_78.2.2.2.2.2.2.2.1
theorem d159_90 : decode prog_14_method_34_code 90 = .ok (.getfield 166, 3) := dd159_78.2.2.2.2.2.2.2.2.1
theorem d159_93 : decode prog_14_method_34_code 93 = .ok (.ifCond .ne 8, 3) := dd159_78.2.2.2.2.2.2.2.2.2.1
theorem d159_96 : decode prog_14_method_34_code 96 = .ok (.bipush (-5), 2) := dd159_78.2.2.2.2.2.2.2.2.2.2.1
theorem d159_98 : decode prog_14_method_34_code 98 = .ok (.goto 9, 3) := dd159_78.2.2.2.2.2.2.2.2.2.2.2.1
theorem d159_101 : decode prog_14_method_34_code 101 = .ok (.aload_n 0, 1) := dd159_78.2.2.2.2.2.2.2.2.2.2.2.2.1
theorem d159_102 : decode prog_14_method_34_code 102 = .ok (.getfield 33, 3) := dd159_78.2.2.2.2.2.2.2.2.2.2.2.2.2.1
theorem d159_105 : decode prog_14_method_34_code 105 = .ok (.iconst 0, 1) := dd159_78.2.2.2.2.2.2.2.2.2.2.2.2.2.2.1
theorem d159_106 : decode prog_14_method_34_code 106 = .ok (.iaload, 1) := dd159_78.2.2.2.2.2.2.2.2.2.2.2.2.2.2.2
theorem dd159_107 : (decode prog_14_method_34_code 107 = .ok (.ireturn, 1)) ∧ (decode prog_14_method_34_code 108 = .ok (.iconst (-1), 1)) ∧ (decode prog_14_method_34_code 109 = .ok (.ireturn, 1)) := by decide +kernel
theorem d159_107 : decode prog_14_method_34_code 107 = .ok (.ireturn, 1) := dd159_107.1
theorem d159_108 : decode prog_14_method_34_code 108 = .ok (.iconst (-1), 1) := dd159_107.2.1
theorem d159_109 : decode prog_14_method_34_code 109 = .ok (.ireturn, 1) := dd159_107.2.2
theorem b159_0 {d : Nat} {S : mm_S} {a0 : Nat} {x1 : Int32} : mm_ex d 159 0 [.ref a0, .int x1] [] S =
    mm_ex d 159 1 [.ref a0, .int x1] [.int x1] S :=
  (mx_iload_n t159 d159_0 (x := x1) rfl)
theorem b159_1 {d : Nat} {S : mm_S} {a0 : Nat} {x1 : Int32} {p0 : Int32} : mm_ex d 159 1 [.ref a0, .int x1] [.int p0] S =
    if p0 = nI 0 then mm_ex d 159 56 [.ref a0, .int x1] [] S else if p0 = nI 1 then mm_ex d 159 56 [.ref a0, .int x1] [] S else if p0 = nI 2 then mm_ex d 159 56 [.ref a0, .int x1] [] S else if p0 = nI 3 then mm_ex d 159 56 [.ref a0, .int x1] [] S else if p0 = nI 4 then mm_ex d 159 64 [.ref a0, .int x1] [] S else if p0 = nI 5 then mm_ex d 159 69 [.ref a0, .int x1] [] S else if p0 = nI 6 then mm_ex d 159 74 [.ref a0, .int x1] [] S else if p0 = nI 7 then mm_ex d 159 79 [.ref a0, .int x1] [] S else if p0 = nI 8 then mm_ex d 159 84 [.ref a0, .int x1] [] S else if p0 = nI 9 then mm_ex d 159 89 [.ref a0, .int x1] [] S else mm_ex d 159 108 [.ref a0, .int x1] [] S := by
  by_cases e0 : p0 = nI 0
  · subst e0
    rw [if_pos rfl]
    exact mx_tswI t159 d159_1 (by decide) (off := 55) (by decide) (by decide)
  by_cases e1 : p0 = nI 1
  · subst e1
    rw [if_neg (by decide), if_pos rfl]
    exact mx_tswI t159 d159_1 (by decide) (off := 55) (by decide) (by decide)
  by_cases e2 : p0 = nI 2
  · subst e2
    rw [if_neg (by decide), if_neg (by decide), if_pos rfl]
    exact mx_tswI t159 d159_1 (by decide) (off := 55) (by decide) (by decide)
  by_cases e3 : p0 = nI 3
  · subst e3
    rw [if_neg (by decide), if_neg (by decide), if_neg (by decide), if_pos rfl]
    exact mx_tswI t159 d159_1 (by decide) (off := 55) (by decide) (by decide)
  by_cases e4 : p0 = nI 4
  · subst e4
    rw [if_neg (by decide), if_neg (by decide), if_neg (by decide), if_neg (by decide), if_pos rfl]
    exact mx_tswI t159 d159_1 (by decide) (off := 63) (by decide) (by decide)
  by_cases e5 : p0 = nI 5
  · subst e5
    rw [if_neg (by decide), if_neg (by decide), if_neg (by decide), if_neg (by decide), if_neg (by decide), if_pos rfl]
    exact mx_tswI t159 d159_1 (by decide) (off := 68) (by decide) (by decide)
  by_cases e6 : p0 = nI 6
  · subst e6
    rw [if_neg (by decide), if_neg (by decide), if_neg (by decide), if_neg (by decide), if_neg (by decide), if_neg (by decide), if_pos rfl]
    exact mx_tswI t159 d159_1 (by decide) (off := 73) (by decide) (by decide)
  by_cases e7 : p0 = nI 7
  · subst e7
    rw [if_neg (by decide), if_neg (by decide), if_neg (by decide), if_neg (by decide), if_neg (by decide), if_neg (by decide), if_neg (by decide), if_pos rfl]
    exact mx_tswI t159 d159_1 (by decide) (off := 78) (by decide) (by decide)
  by_cases e8 : p0 = nI 8
  · subst e8
    rw [if_neg (by decide), if_neg (by decide), if_neg (by decide), if_neg (by decide), if_neg (by decide), if_neg (by decide), if_neg (by decide), if_neg (by decide), if_pos rfl]
    exact mx_tswI t159 d159_1 (by decide) (off := 83) (by decide) (by decide)
  by_cases e9 : p0 = nI 9
  · subst e9
    rw [if_neg (by decide), if_neg (by decide), if_neg (by decide), if_neg (by decide), if_neg (by decide), if_neg (by decide), if_neg (by decide), if_neg (by decide), if_neg (by decide), if_pos rfl]
    exact mx_tswI t159 d159_1 (by decide) (off := 88) (by decide) (by decide)
  rw [if_neg e0, if_neg e1, if_neg e2, if_neg e3, if_neg e4, if_neg e5, if_neg e6, if_neg e7, if_neg e8, if_neg e9]
  have g0 := mm_ni32 e0
  have g1 := mm_ni32 e1
  have g2 := mm_ni32 e2
  have g3 := mm_ni32 e3
  have g4 := mm_ni32 e4
  have g5 := mm_ni32 e5
  have g6 := mm_ni32 e6
  have g7 := mm_ni32 e7
  have g8 := mm_ni32 e8
  have g9 := mm_ni32 e9
  rw [show (nI 0 : Int32).toInt = 0 by decide] at g0
  rw [show (nI 1 : Int32).toInt = 1 by decide] at g1
  rw [show (nI 2 : Int32).toInt = 2 by decide] at g2
  rw [show (nI 3 : Int32).toInt = 3 by decide] at g3
  rw [show (nI 4 : Int32).toInt = 4 by decide] at g4
  rw [show (nI 5 : Int32).toInt = 5 by decide] at g5
  rw [show (nI 6 : Int32).toInt = 6 by decide] at g6
  rw [show (nI 7 : Int32).toInt = 7 by decide] at g7
  rw [show (nI 8 : Int32).toInt = 8 by decide] at g8
  rw [show (nI 9 : Int32).toInt = 9 by decide] at g9
  exact mx_tswD t159 d159_1 (by omega) (by decide)
theorem b159_56 {d : Nat} {S : mm_S} {a0 : Nat} {x1 : Int32} (h0 : mm_rk S a0 = 12) : mm_ex (d + 1) 159 56 [.ref a0, .int x1] [] S =
    mm_bd (mm_cl d 158 [.ref a0, .int (x1 + (nI 2))] S) (fun v S2 => mm_ex (d + 1) 159 63 [.ref a0, .int x1] (v.toList ++ []) S2) :=
  Eq.trans (mx_aload_n t159 d159_56 (x := a0) rfl) <|
  Eq.trans (mx_iload_n t159 d159_57 (x := x1) rfl) <|
  Eq.trans (mx_iconst t159 d159_58 (v := nI 2) rfl) <|
  Eq.trans (mx_iadd t159 d159_59) <|
  (mx_virt (st := []) (k := 12) t159 [.int (x1 + (nI 2))] d159_60 vt12_254 rfl rfl (Nat.le_of_ble_eq_true rfl) (Nat.le_of_ble_eq_true rfl) h0)
theorem b159_63 {d : Nat} {S : mm_S} {a0 : Nat} {x1 : Int32} {p0 : Int32} : mm_ex d 159 63 [.ref a0, .int x1] [.int p0] S =
    some (some (.int p0), S) :=
  (mx_iret t159 d159_63 (ty := .int) rfl rfl (fun h => nomatch h))
theorem b159_64 {d : Nat} {S : mm_S} {a0 : Nat} {x1 : Int32} (h0 : mm_obj S a0 12 = true) : mm_ex d 159 64 [.ref a0, .int x1] [] S =
    some (some (.int (mm_M S a0 10)), S) :=
  Eq.trans (mx_aload_n t159 d159_64 (x := a0) rfl) <|
  Eq.trans (mx_geti t159 d159_65 rfl fl12_36 h0) <|
  (mx_iret t159 d159_68 (ty := .int) rfl rfl (fun h => nomatch h))
theorem b159_69 {d : Nat} {S : mm_S} {a0 : Nat} {x1 : Int32} (h0 : mm_obj S a0 12 = true) : mm_ex d 159 69 [.ref a0, .int x1] [] S =
    some (some (.int (mm_M S a0 11)), S) :=
  Eq.trans (mx_aload_n t159 d159_69 (x := a0) rfl) <|
  Eq.trans (mx_geti t159 d159_70 rfl fl12_40 h0) <|
  (mx_iret t159 d159_73 (ty := .int) rfl rfl (fun h => nomatch h))
theorem b159_74 {d : Nat} {S : mm_S} {a0 : Nat} {x1 : Int32} (h0 : mm_obj S a0 12 = true) : mm_ex d 159 74 [.ref a0, .int x1] [] S =
    some (some (.int (mm_M S a0 12)), S) :=
  Eq.trans (mx_aload_n t159 d159_74 (x := a0) rfl) <|
  Eq.trans (mx_geti t159 d159_75 rfl fl12_257 h0) <|
  (mx_iret t159 d159_78 (ty := .int) rfl rfl (fun h => nomatch h))
theorem b159_79 {d : Nat} {S : mm_S} {a0 : Nat} {x1 : Int32} (h0 : mm_obj S a0 12 = true) : mm_ex d 159 79 [.ref a0, .int x1] [] S =
    some (some (.int (mm_M S a0 13)), S) :=
  Eq.trans (mx_aload_n t159 d159_79 (x := a0) rfl) <|
  Eq.trans (mx_geti t159 d159_80 rfl fl12_260 h0) <|
  (mx_iret t159 d159_83 (ty := .int) rfl rfl (fun h => nomatch h))
theorem b159_84 {d : Nat} {S : mm_S} {a0 : Nat} {x1 : Int32} (h0 : mm_obj S a0 12 = true) : mm_ex d 159 84 [.ref a0, .int x1] [] S =
    some (some (.int (mm_M S a0 8)), S) :=
  Eq.trans (mx_aload_n t159 d159_84 (x := a0) rfl) <|
  Eq.trans (mx_geti t159 d159_85 rfl fl12_166 h0) <|
  (mx_iret t159 d159_88 (ty := .int) rfl rfl (fun h => nomatch h))
theorem b159_89 {d : Nat} {S : mm_S} {a0 : Nat} {x1 : Int32} (h0 : mm_obj S a0 12 = true) : mm_ex d 159 89 [.ref a0, .int x1] [] S =
    if (mm_M S a0 8) = nI 0 then mm_ex d 159 96 [.ref a0, .int x1] [] S else mm_ex d 159 101 [.ref a0, .int x1] [] S :=
  Eq.trans (mx_aload_n t159 d159_89 (x := a0) rfl) <|
  Eq.trans (mx_geti t159 d159_90 rfl fl12_166 h0) <|
  (mx_ine t159 d159_93 (tgt := 101) (by decide))
theorem b159_96 {d : Nat} {S : mm_S} {a0 : Nat} {x1 : Int32} : mm_ex d 159 96 [.ref a0, .int x1] [] S =
    some (some (.int (-5)), S) :=
  Eq.trans (mx_bipush t159 d159_96 (v := -5) rfl) <|
  Eq.trans (mx_goto t159 d159_98 (tgt := 107) (by decide)) <|
  (mx_iret t159 d159_107 (ty := .int) rfl rfl (fun h => nomatch h))
theorem b159_101 {d : Nat} {S : mm_S} {a0 : Nat} {x1 : Int32} (h0 : mm_obj S a0 12 = true) (h1 : (mm_R S a0 9).isSome = true) (h2 : mm_inb (nI 0) (mm_N S (mm_rg S a0 9)) = true) (h3 : mm_arr S (mm_rg S a0 9) 13 = true) : mm_ex d 159 101 [.ref a0, .int x1] [] S =
    some (some (.int (mm_M S (mm_rg S a0 9) (nI 0).toNatClampNeg)), S) :=
  Eq.trans (mx_aload_n t159 d159_101 (x := a0) rfl) <|
  Eq.trans (mx_getR t159 d159_102 rfl fl12_33 h0 h1) <|
  Eq.trans (mx_iconst t159 d159_105 (v := nI 0) rfl) <|
  Eq.trans (mx_iald t159 d159_106 h3 h2) <|
  (mx_iret t159 d159_107 (ty := .int) rfl rfl (fun h => nomatch h))
theorem b159_108 {d : Nat} {S : mm_S} {a0 : Nat} {x1 : Int32} : mm_ex d 159 108 [.ref a0, .int x1] [] S =
    some (some (.int (-1)), S) :=
  Eq.trans (mx_iconst t159 d159_108 (v := -1) rfl) <|
  (mx_iret t159 d159_109 (ty := .int) rfl rfl (fun h => nomatch h))
theorem e159 {d : Nat} {S : mm_S} {a0 : Nat} {x1 : Int32} : mm_cl d 159 [.ref a0, .int x1] S = mm_ex d 159 0 [.ref a0, .int x1] [] S := mm_cl_eq t159 (Nat.le_of_ble_eq_true rfl) rfl
/-! X12_mayAway -/
theorem d160_0 : decode prog_14_method_35_code 0 = .ok (.aload_n 0, 1) := by decide +kernel
theorem d160_1 : decode prog_14_method_35_code 1 = .ok (.getfield 24, 3) := by decide +kernel
theorem d160_4 : decode prog_14_method_35_code 4 = .ok (.iload_n 1, 1) := by decide +kernel
theorem d160_5 : decode prog_14_method_35_code 5 = .ok (.iaload, 1) := by decide +kernel
theorem d160_6 : decode prog_14_method_35_code 6 = .ok (.aload_n 0, 1) := by decide +kernel
theorem d160_7 : decode prog_14_method_35_code 7 = .ok (.iconst 4, 1) := by decide +kernel
theorem d160_8 : decode prog_14_method_35_code 8 = .ok (.invokevirtual 254, 3) := by decide +kernel
theorem d160_11 : decode prog_14_method_35_code 11 = .ok (.if_icmp .ge 7, 3) := by decide +kernel
theorem d160_14 : decode prog_14_method_35_code 14 = .ok (.iconst 1, 1) := by decide +kernel
theorem d160_15 : decode prog_14_method_35_code 15 = .ok (.goto 4, 3) := by decide +kernel
theorem d160_18 : decode prog_14_method_35_code 18 = .ok (.iconst 0, 1) := by decide +kernel
theorem d160_19 : decode prog_14_method_35_code 19 = .ok (.ireturn, 1) := by decide +kernel
theorem b160_0 {d : Nat} {S : mm_S} {a0 : Nat} {x1 : Int32} (h0 : mm_obj S a0 12 = true) (h1 : (mm_R S a0 5).isSome = true) (h2 : mm_inb x1 (mm_N S (mm_rg S a0 5)) = true) (h3 : mm_arr S (mm_rg S a0 5) 13 = true) (h4 : mm_rk S a0 = 12) : mm_ex (d + 1) 160 0 [.ref a0, .int x1] [] S =
    mm_bd (mm_cl d 158 [.ref a0, .int (nI 4)] S) (fun v S2 => mm_ex (d + 1) 160 11 [.ref a0, .int x1] (v.toList ++ [.int (mm_M S (mm_rg S a0 5) (x1).toNatClampNeg)]) S2) :=
  Eq.trans (mx_aload_n t160 d160_0 (x := a0) rfl) <|
  Eq.trans (mx_getR t160 d160_1 rfl fl12_24 h0 h1) <|
  Eq.trans (mx_iload_n t160 d160_4 (x := x1) rfl) <|
  Eq.trans (mx_iald t160 d160_5 h3 h2) <|
  Eq.trans (mx_aload_n t160 d160_6 (x := a0) rfl) <|
  Eq.trans (mx_iconst t160 d160_7 (v := nI 4) rfl) <|
  (mx_virt (st := [.int (mm_M S (mm_rg S a0 5) (x1).toNatClampNeg)]) (k := 12) t160 [.int (nI 4)] d160_8 vt12_254 rfl rfl (Nat.le_of_ble_eq_true rfl) (Nat.le_of_ble_eq_true rfl) h4)
theorem b160_11 {d : Nat} {S : mm_S} {a0 : Nat} {x1 : Int32} {p0 : Int32} {p1 : Int32} : mm_ex d 160 11 [.ref a0, .int x1] [.int p0, .int p1] S =
    if p0 ≤ p1 then mm_ex d 160 18 [.ref a0, .int x1] [] S else mm_ex d 160 14 [.ref a0, .int x1] [] S :=
  (mx_cge t160 d160_11 (tgt := 18) (by decide))
theorem b160_14 {d : Nat} {S : mm_S} {a0 : Nat} {x1 : Int32} : mm_ex d 160 14 [.ref a0, .int x1] [] S =
    some (some (.int (nI 1)), S) :=
  Eq.trans (mx_iconst t160 d160_14 (v := nI 1) rfl) <|
  Eq.trans (mx_goto t160 d160_15 (tgt := 19) (by decide)) <|
  (mx_iret t160 d160_19 (ty := .boolean) rfl rfl (fun h => nomatch h))
theorem b160_18 {d : Nat} {S : mm_S} {a0 : Nat} {x1 : Int32} : mm_ex d 160 18 [.ref a0, .int x1] [] S =
    some (some (.int (nI 0)), S) :=
  Eq.trans (mx_iconst t160 d160_18 (v := nI 0) rfl) <|
  (mx_iret t160 d160_19 (ty := .boolean) rfl rfl (fun h => nomatch h))
theorem e160 {d : Nat} {S : mm_S} {a0 : Nat} {x1 : Int32} : mm_cl d 160 [.ref a0, .int x1] S = mm_ex d 160 0 [.ref a0, .int x1] [] S := mm_cl_eq t160 (Nat.le_of_ble_eq_true rfl) rfl
