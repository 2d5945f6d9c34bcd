/-! X11_init -/
theorem dd72_0 : (decode prog_1_method_1_code 0 = .ok (.aload_n 0, 1)) ∧ (decode prog_1_method_1_code 1 = .ok (.invokespecial 3, 3)) ∧ (decode prog_1_method_1_code 4 = .ok (.new 9, 3)) ∧ (decode prog_1_method_1_code 7 = .ok (.dup, 1)) ∧ (decode prog_1_method_1_code 8 = .ok (.invokespecial 11, 3)) ∧ (decode prog_1_method_1_code 11 = .ok (.astore_n 1, 1)) ∧ (decode prog_1_method_1_code 12 = .ok (.aload_n 0, 1)) ∧ (decode prog_1_method_1_code 13 = .ok (.new 12, 3)) ∧ (decode prog_1_method_1_code 16 = .ok (.dup, 1)) ∧ (decode prog_1_method_1_code 17 = .ok (.aload_n 1, 1)) ∧ (decode prog_1_method_1_code 18 = .ok (.invokespecial 14, 3)) ∧ (decode prog_1_method_1_code 21 = .ok (.putfield 17, 3)) ∧ (decode prog_1_method_1_code 24 = .ok (.aload_n 0, 1)) ∧ (decode prog_1_method_1_code 25 = .ok (.new 12, 3)) ∧ (decode prog_1_method_1_code 28 = .ok (.dup, 1)) ∧ (decode prog_1_method_1_code 29 = .ok (.aload_n 1, 1)) := by decide +kernel
theorem d72_0 : decode prog_1_method_1_code 0 = .ok (.aload_n 0, 1) := dd72_0.1
theorem d72_1 : decode prog_1_method_1_code 1 = .ok (.invokespecial 3, 3) := dd72_0.2.1
theorem d72_4 : decode prog_1_method_1_code 4 = .ok (.new 9, 3) := dd72_0.2.2.1
theorem d72_7 : decode prog_1_method_1_code 7 = .ok (.dup, 1) := dd72_0.2.2.2.1
theorem d72_8 : decode prog_1_method_1_code 8 = .ok (.invokespecial 11, 3) := dd72_0.2.2.2.2.1
theorem d72_11 : decode prog_1_method_1_code 11 = .ok (.astore_n 1, 1) := dd72_0.2.2.2.2.2.1
theorem d72_12 : decode prog_1_method_1_code 12 = .ok (.aload_n 0, 1) := dd72_0.2.2.2.2.2.2.1
theorem d72_13 : decode prog_1_method_1_code 13 = .ok (.new 12, 3) := dd72_0.2.2.2.2.2.2.2.1
theorem d72_16 : decode prog_1_method_1_code 16 = .ok (.dup, 1) := dd72_0.2.2.2.2.2.2.2.2.1
theorem d72_17 : decode prog_1_method_1_code 17 = .ok (.aload_n 1, 1) := dd72_0.2.2.2.2.2.2.2.2.2.1
theorem d72_18 : decode prog_1_method_1_code 18 = .ok (.invokespecial 14, 3) := dd72_0.2.2.2.2.2.2.2.2.2.2.1
theorem d72_21 : decode prog_1_method_1_code 21 = .ok (.putfield 17, 3) := dd72_0.2.2.2.2.2.2.2.2.2.2.2.1
theorem d72_24 : decode prog_1_method_1_code 24 = .ok (.aload_n 0, 1) := dd72_0.2.2.2.2.2.2.2.2.2.2.2.2.1
theorem d72_25 : decode prog_1_method_1_code 25 = .ok (.new 12, 3) := dd72_0.2.2.2.2.2.2.2.2.2.2.2.2.2.1
theorem d72_28 : decode prog_1_method_1_code 28 = .ok (.dup, 1) := dd72_0.2.2.2.2.2.2.2.2.2.2.2.2.2.2.1
theorem d72_29 : decode prog_1_method_1_code 29 = .ok (.aload_n 1, 1) := dd72_0.2.2.2.2.2.2.2.2.2.2.2.2.2.2.2
theorem dd72_30 : (decode prog_1_method_1_code 30 = .ok (.invokespecial 14, 3)) ∧ (decode prog_1_method_1_code 33 = .ok (.putfield 23, 3)) ∧ (decode prog_1_method_1_code 36 = .ok (.aload_n 0, 1)) ∧ (decode prog_1_method_1_code 37 = .ok (.new 12, 3)) ∧ (decode prog_1_method_1_code 40 = .ok (.dup, 1)) ∧ (decode prog_1_method_1_code 41 = .ok (.aload_n 1, 1)) ∧ (decode prog_1_method_1_code 42 = .ok (.invokespecial 14, 3)) ∧ (decode prog_1_method_1_code 45 = .ok (.putfield 26, 3)) ∧ (decode prog_1_method_1_code 48 = .ok (.aload_n 0, 1)) ∧ (decode prog_1_method_1_code 49 = .ok (.new 12, 3)) ∧ (decode prog_1_method_1_code 52 = .ok (.dup, 1)) ∧ (decode prog_1_method_1_code 53 = .ok (.aload_n 1, 1)) ∧ (decode prog_1_method_1_code 54 = .ok (.invokespecial 14, 3)) ∧ (decode prog_1_method_1_code 57 = .ok (.putfield 29, 3)) ∧ (decode prog_1_method_1_code 60 = .ok (.aload_n 0, 1)) ∧ (decode prog_1_method_1_code 61 = .ok (.bipush 6, 2)) := by decide +kernel
theorem d72_30 : decode prog_1_method_1_code 30 = .ok (.invokespecial 14, 3) := dd72_30.1
theorem d72_33 : decode prog_1_method_1_code 33 = .ok (.putfield 23, 3) := dd72_30.2.1
theorem d72_36 : decode prog_1_method_1_code 36 = .ok (.aload_n 0, 1) := dd72_30.2.2.1
theorem d72_37 : decode prog_1_method_1_code 37 = .ok (.new 12, 3) := dd72_30.2.2.2.1
theorem d72_40 : decode prog_1_method_1_code 40 = .ok (.dup, 1) := dd72_30.2.2.2.2.1
theorem d72_41 : decode prog_1_method_1_code 41 = .ok (.aload_n 1, 1) := dd72_30.2.2.2.2.2.1
theorem d72_42 : decode prog_1_method_1_code 42 = .ok (.invokespecial 14, 3) := dd72_30.2.2.2.2.2.2.1
theorem d72_45 : decode prog_1_method_1_code 45 = .ok (.putfield 26, 3) := dd72_30.2.2.2.2.2.2.2.1
theorem d72_48 : decode prog_1_method_1_code 48 = .ok (.aload_n 0, 1) := dd72_30.2.2.2.2.2.2.2.2.1
theorem d72_49 : decode prog_1_method_1_code 49 = .ok (.new 12, 3) := dd72_30.2.2.2.2.2.2.2.2.2.1
theorem d72_52 : decode prog_1_method_1_code 52 = .ok (.dup, 1) := dd72_30.2.2.2.2.2.2.2.2.2.2.1
theorem d72_53 : decode prog_1_method_1_code 53 = .ok (.aload_n 1, 1) := dd72_30.2.2.2.2.2.2.2.2.2.2.2.1
theorem d72_54 : decode prog_1_method_1_code 54 = .ok (.invokespecial 14, 3) := dd72_30.2.2.2.2.2.2.2.2.2.2.2.2.1
theorem d72_57 : decode prog_1_method_1_code 57 = .ok (.putfield 29, 3) := dd72_30.2.2.2.2.2.2.2.2.2.2.2.2.2.1
theorem d72_60 : decode prog_1_method_1_code 60 = .ok (.aload_n 0, 1) := dd72_30.2.2.2.2.2.2.2.2.2.2.2.2.2.2.1
theorem d72_61 : decode prog_1_method_1_code 61 = .ok (.bipush 6, 2) := dd72_30.2.2.2.2.2.2.2.2.2.2.2.2.2.2.2
theorem dd72_63 : (decode prog_1_method_1_code 63 = .ok (.anewarray 9, 3)) ∧ (decode prog_1_method_1_code 66 = .ok (.putfield 32, 3)) ∧ (decode prog_1_method_1_code 69 = .ok (.iconst 0, 1)) ∧ (decode prog_1_method_1_code 70 = .ok (.istore_n 2, 1)) ∧ (decode prog_1_method_1_code 71 = .ok (.iload_n 2, 1)) ∧ (decode prog_1_method_1_code 72 = .ok (.bipush 6, 2)) ∧ (decode prog_1_method_1_code 74 = .ok (.if_icmp .ge 22, 3)) ∧ (decode prog_1_method_1_code 77 = .ok (.aload_n 0, 1)) ∧ (decode prog_1_method_1_code 78 = .ok (.getfield 32, 3)) ∧ (decode prog_1_method_1_code 81 = .ok (.iload_n 2, 1)) ∧ (decode prog_1_method_1_code 82 = .ok (.new 9, 3)) ∧ (decode prog_1_method_1_code 85 = .ok (.dup, 1)) ∧ (decode prog_1_method_1_code 86 = .ok (.invokespecial 11, 3)) ∧ (decode prog_1_method_1_code 89 = .ok (.aastore, 1)) ∧ (decode prog_1_method_1_code 90 = .ok (.iinc 2 1, 3)) ∧ (decode prog_1_method_1_code 93 = .ok (.goto (-22), 3)) := by decide +kernel
theorem d72_63 : decode prog_1_method_1_code 63 = .ok (.anewarray 9, 3) := dd72_63.1
theorem d72_66 : decode prog_1_method_1_code 66 = .ok (.putfield 32, 3) := dd72_63.2.1
theorem d72_69 : decode prog_1_method_1_code 69 = .ok (.iconst 0, 1) := dd72_63.2.2.1
theorem d72_70 : decode prog_1_method_1_code 70 = .ok (.istore_n 2, 1) := dd72_63.2.2.2.1
theorem d72_71 : decode prog_1_method_1_code 71 = .ok (.iload_n 2, 1) := dd72_63.2.2.2.2.1
theorem d72_72 : decode prog_1_method_1_code 72 = .ok (.bipush 6, 2) := dd72_63.2.2.2.2.2.1
theorem d72_74 : decode prog_1_method_1_code 74 = .ok (.if_icmp .ge 22, 3) := dd72_63.2.2.2.2.2.2.1
theorem d72_77 : decode prog_1_method_1_code 77 = .ok (.aload_n 0, 1) := dd72_63.2.2.2.2.2.2.2.1
theorem d72_78 : decode prog_1_method_1_code 78 = .ok (.getfield 32, 3) := dd72_63.2.2.2.2.2.2.2.2.1
theorem d72_81 : decode prog_1_method_1_code 81 = .ok (.iload_n 2, 1) := dd72_63.2.2.2.2.2.2.2.2.2.1
theorem d72_82 : decode prog_1_method_1_code 82 = .ok (.new 9, 3) := dd72_63.2.2.2.2.2.2.2.2.2.2.1
theorem d72_85 : decode prog_1_method_1_code 85 = .ok (.dup, 1) := dd72_63.2.2.2.2.2.2.2.2.2.2.2.1
theorem d72_86 : decode prog_1_method_1_code 86 = .ok (.invokespecial 11, 3) := dd72_63.2.2.2.2.2.2.2.2.2.2.2.2.1
theorem d72_89 : decode prog_1_method_1_code 89 = .ok (.aastore, 1) := dd72_63.2.2.2.2.2.2.2.2.2.2.2.2.2.1
theorem d72_90 : decode prog_1_method_1_code 90 = .ok (.iinc 2 1, 3) := dd72_63.2.2.2.2.2.2.2.2.2.2.2.2.2.2.1
theorem d72_93 : decode prog_1_method_1_code 93 = .ok (.goto (-22), 3) := dd72_63.2.2.2.2.2.2.2.2.2.2.2.2.2.2.2
theorem dd72_96 : (decode prog_1_method_1_code 96 = .ok (.aload_n 0, 1)) ∧ (decode prog_1_method_1_code 97 = .ok (.new 36, 3)) ∧ (decode prog_1_method_1_code 100 = .ok (.dup, 1)) ∧ (decode prog_1_method_1_code 101 = .ok (.invokespecial 38, 3)) ∧ (decode prog_1_method_1_code 104 = .ok (.putfield 39, 3)) ∧ (decode prog_1_method_1_code 107 = .ok (.aload_n 0, 1)) ∧ (decode prog_1_method_1_code 108 = .ok (.bipush 6, 2)) ∧ (decode prog_1_method_1_code 110 = .ok (.anewarray 43, 3)) ∧ (decode prog_1_method_1_code 113 = .ok (.putfield 45, 3)) ∧ (decode prog_1_method_1_code 116 = .ok (.iconst 0, 1)) ∧ (decode prog_1_method_1_code 117 = .ok (.istore_n 2, 1)) ∧ (decode prog_1_method_1_code 118 = .ok (.iload_n 2, 1)) ∧ (decode prog_1_method_1_code 119 = .ok (.bipush 6, 2)) ∧ (decode prog_1_method_1_code 121 = .ok (.if_icmp .ge 22, 3)) ∧ (decode prog_1_method_1_code 124 = .ok (.aload_n 0, 1)) ∧ (decode prog_1_method_1_code 125 = .ok (.getfield 45, 3)) := by decide +kernel
theorem d72_96 : decode prog_1_method_1_code 96 = .ok (.aload_n 0, 1) := dd72_96.1
theorem d72_97 : decode prog_1_method_1_code 97 = .ok (.new 36, 3) := dd72_96.2.1
theorem d72_100 : decode prog_1_method_1_code 100 = .ok (.dup, 1) := dd72_96.2.2.1
theorem d72_101 : decode prog_1_method_1_code 101 = .ok (.invokespecial 38, 3) := dd72_96.2.2.2.1
theorem d72_104 : decode prog_1_method_1_code 104 = .ok (.putfield 39, 3) := dd72_96.2.2.2.2.1
theorem d72_107 : decode prog_1_method_1_code 107 = .ok (.aload_n 0, 1) := dd72_96.2.2.2.2.2.1
theorem d72_108 : decode prog_1_method_1_code 108 = .ok (.bipush 6, 2) := dd72_96.2.2.2.2.2.2.1
theorem d72_110 : decode prog_1_method_1_code 110 = .ok (.anewarray 43, 3) := dd72_96.2.2.2.2.2.2.2.1
theorem d72_113 : decode prog_1_method_1_code 113 = .ok (.putfield 45, 3) := dd72_96.2.2.2.2.2.2.2.2.1
theorem d72_116 : decode prog_1_method_1_code 116 = .ok (.iconst 0, 1) := dd72_96.2.2.2.2.2.2.2.2.2.1
theorem d72_117 : decode prog_1_method_1_code 117 = .ok (.istore_n 2, 1) := dd72_96.2.2.2.2.2.2.2.2.2.2.1
theorem d72_118 : decode prog_1_method_1_code 118 = .ok (.iload_n 2, 1) := dd72_96.2.2.2.2.2.2.2.2.2.2.2.1
theorem d72_119 : decode prog_1_method_1_code 119 = .ok (.bipush 6, 2) := dd72_96.2.2.2.2.2.2.2.2.2.2.2.2.1
theorem d72_121 : decode prog_1_method_1_code 121 = .ok (.if_icmp .ge 22, 3) := dd72_96.2.2.2.2.2.2.2.2.2.2.2.2.2.1
theorem d72_124 : decode prog_1_method_1_code 124 = .ok (.aload_n 0, 1) := dd72_96.2.2.2.2.2.2.2.2.2.2.2.2.2.2.1
theorem d72_125 : decode prog_1_method_1_code 125 = .ok (.getfield 45, 3) := dd72_96.2.2.2.2.2.2.2.2.2.2.2.2.2.2.2
theorem dd72_128 : (decode prog_1_method_1_code 128 = .ok (.iload_n 2, 1)) ∧ (decode prog_1_method_1_code 129 = .ok (.new 43, 3)) ∧ (decode prog_1_method_1_code 132 = .ok (.dup, 1)) ∧ (decode prog_1_method_1_code 133 = .ok (.invokespecial 49, 3)) ∧ (decode prog_1_method_1_code 136 = .ok (.aastore, 1)) ∧ (decode prog_1_method_1_code 137 = .ok (.iinc 2 1, 3)) ∧ (decode prog_1_method_1_code 140 = .ok (.goto (-22), 3)) ∧ (decode prog_1_method_1_code 143 = .ok (.aload_n 0, 1)) ∧ (decode prog_1_method_1_code 144 = .ok (.bipush 21, 2)) ∧ (decode prog_1_method_1_code 146 = .ok (.newarray .int, 2)) ∧ (decode prog_1_method_1_code 148 = .ok (.putfield 50, 3)) ∧ (decode prog_1_method_1_code 151 = .ok (.aload_n 0, 1)) ∧ (decode prog_1_method_1_code 152 = .ok (.bipush 6, 2)) ∧ (decode prog_1_method_1_code 154 = .ok (.newarray .int, 2)) ∧ (decode prog_1_method_1_code 156 = .ok (.putfield 54, 3)) ∧ (decode prog_1_method_1_code 159 = .ok (.aload_n 0, 1)) := by decide +kernel
theorem d72_128 : decode prog_1_method_1_code 128 = .ok (.iload_n 2, 1) := dd72_128.1
theorem d72_129 : decode prog_1_method_1_code 129 = .ok (.new 43, 3) := dd72_128.2.1
theorem d72_132 : decode prog_1_method_1_code 132 = .ok (.dup, 1) := dd72_128.2.2.1
theorem d72_133 : decode prog_1_method_1_code 133 = .ok (.invokespecial 49, 3) := dd72_128.2.2.2.1
theorem d72_136 : decode prog_1_method_1_code 136 = .ok (.aastore, 1) := dd72_128.2.2.2.2.1
theorem d72_137 : decode prog_1_method_1_code 137 = .ok (.iinc 2 1, 3) := dd72_128.2.2.2.2.2.1
theorem d72_140 : decode prog_1_method_1_code 140 = .ok (.goto (-22), 3) := dd72_128.2.2.2.2.2.2.1
theorem d72_143 : decode prog_1_method_1_code 143 = .ok (.aload_n 0, 1) := dd72_128.2.2.2.2.2.2.2.1
theorem d72_144 : decode prog_1_method_1_code 144 = .ok (.bipush 21, 2) := dd72_128.2.2.2.2.2.2.2.2.1
theorem d72_146 : decode prog_1_method_1_code 146 = .ok (.newarray .int, 2) := dd72_128.2.2.2.2.2.2.2.2.2.1
theorem d72_148 : decode prog_1_method_1_code 148 = .ok (.putfield 50, 3) := dd72_128.2.2.2.2.2.2.2.2.2.2.1
theorem d72_151 : decode prog_1_method_1_code 151 = .ok (.aload_n 0, 1) := dd72_128.2.2.2.2.2.2.2.2.2.2.2.1
theorem d72_152 : decode prog_1_method_1_code 152 = .ok (.bipush 6, 2) := dd72_128.2.2.2.2.2.2.2.2.2.2.2.2.1
theorem d72_154 : decode prog_1_method_1_code 154 = .ok (.newarray .int, 2) := dd72_128.2.2.2.2.2.2.2.2.2.2.2.2.2.1
theorem d72_156 : decode prog_1_method_1_code 156 = .ok (.putfield 54, 3) := dd72_128.2.2.2.2.2.2.2.2.2.2.2.2.2.2.1
theorem d72_159 : decode prog_1_method_1_code 159 = .ok (.aload_n 0, 1) := dd72_128.2.2.2.2.2.2.2.2.2.2.2.2.2.2.2
theorem dd72_160 : (decode prog_1_method_1_code 160 = .ok (.bipush 6, 2)) ∧ (decode prog_1_method_1_code 162 = .ok (.newarray .int, 2)) ∧ (decode prog_1_method_1_code 164 = .ok (.putfield 57, 3)) ∧ (decode prog_1_method_1_code 167 = .ok (.aload_n 0, 1)) ∧ (decode prog_1_method_1_code 168 = .ok (.bipush 6, 2)) ∧ (decode prog_1_method_1_code 170 = .ok (.newarray .int, 2)) ∧ (decode prog_1_method_1_code 172 = .ok (.putfield 60, 3)) ∧ (decode prog_1_method_1_code 175 = .ok (.return_, 1)) := by decide +kernel
theorem d72_160 : decode prog_1_method_1_code 160 = .ok (.bipush 6, 2) := dd72_160.1
theorem d72_162 : decode prog_1_method_1_code 162 = .ok (.newarray .int, 2) := dd72_160.2.1
theorem d72_164 : decode prog_1_method_1_code 164 = .ok (.putfield 57, 3) := dd72_160.2.2.1
theorem d72_167 : decode prog_1_method_1_code 167 = .ok (.aload_n 0, 1) := dd72_160.2.2.2.1
theorem d72_168 : decode prog_1_method_1_code 168 = .ok (.bipush 6, 2) := dd72_160.2.2.2.2.1
theorem d72_170 : decode prog_1_method_1_code 170 = .ok (.newarray .int, 2) := dd72_160.2.2.2.2.2.1
theorem d72_172 : decode prog_1_method_1_code 172 = .ok (.putfield 60, 3) := dd72_160.2.2.2.2.2.2.1
theorem d72_175 : decode prog_1_method_1_code 175 = .ok (.return_, 1) := dd72_160.2.2.2.2.2.2.2
theorem b72_0 {d : Nat} {S : mm_S} {a0 : Nat} (h0 : decide (mm_n S < 1000000) = true) : mm_ex (d + 1) 72 0 [.ref a0, .null, .null] [] S =
    mm_ex (d + 1) 72 7 [.ref a0, .null, .null] [.ref (mm_n S)] (mm_nw S 6 (mm_NF 6)) :=
  Eq.trans (mx_aload_n t72 d72_0 (x := a0) rfl) <|
  Eq.trans (mx_oinit t72 d72_1 oi11_3 (Nat.le_of_ble_eq_true rfl)) <|
  (mx_new t72 d72_4 (k := 6) (n := mm_NF 6) nw11_9 rfl h0)
theorem b72_7 {d : Nat} {S : mm_S} {a0 : Nat} {p0 : Nat} (h0 : (decide (p0 < mm_n S) && decide (mm_K S p0 < 13)) = true) : mm_ex (d + 1) 72 7 [.ref a0, .null, .null] [.ref p0] S =
    mm_bd (mm_cl d 47 [.ref p0] S) (fun v S2 => mm_ex (d + 1) 72 11 [.ref a0, .null, .null] (v.toList ++ [.ref p0]) S2) :=
  Eq.trans (mx_dupr t72 d72_7) <|
  (mx_spec (st := [.ref p0]) t72 [] d72_8 oin11_11 sp11_11 rfl (Nat.le_of_ble_eq_true rfl) (Nat.le_of_ble_eq_true rfl) h0)
theorem b72_11 {d : Nat} {S : mm_S} {a0 : Nat} {p0 : Nat} (h0 : decide (mm_n S < 1000000) = true) : mm_ex d 72 11 [.ref a0, .null, .null] [.ref p0] S =
    mm_ex d 72 16 [.ref a0, .ref p0, .null] [.ref (mm_n S), .ref a0] (mm_nw S 1 (mm_NF 1)) :=
  Eq.trans (mx_astore_n t72 d72_11 (ls' := [.ref a0, .ref p0, .null]) rfl rfl) <|
  Eq.trans (mx_aload_n t72 d72_12 (x := a0) rfl) <|
  (mx_new t72 d72_13 (k := 1) (n := mm_NF 1) nw11_12 rfl h0)
theorem b72_16 {d : Nat} {S : mm_S} {a0 : Nat} {a1 : Nat} {p0 : Nat} {p1 : Nat} (h0 : (decide (p0 < mm_n S) && decide (mm_K S p0 < 13)) = true) : mm_ex (d + 1) 72 16 [.ref a0, .ref a1, .null] [.ref p0, .ref p1] S =
    mm_bd (mm_cl d 6 [.ref p0, .ref a1] S) (fun v S2 => mm_ex (d + 1) 72 21 [.ref a0, .ref a1, .null] (v.toList ++ [.ref p0, .ref p1]) S2) :=
  Eq.trans (mx_dupr t72 d72_16) <|
  Eq.trans (mx_aload_n t72 d72_17 (x := a1) rfl) <|
  (mx_spec (st := [.ref p0, .ref p1]) t72 [.ref a1] d72_18 oin11_14 sp11_14 rfl (Nat.le_of_ble_eq_true rfl) (Nat.le_of_ble_eq_true rfl) h0)
theorem b72_21 {d : Nat} {S : mm_S} {a0 : Nat} {a1 : Nat} {p0 : Nat} {p1 : Nat} (h0 : mm_obj S p1 11 = true) (h1 : p0 < mm_n S) : mm_ex d 72 21 [.ref a0, .ref a1, .null] [.ref p0, .ref p1] S =
    mm_ex d 72 25 [.ref a0, .ref a1, .null] [.ref a0] (mm_uR S p1 0 (some p0)) :=
  Eq.trans (mx_putr2 t72 d72_21 fl11_17 rfl h0 h1) <|
  (mx_aload_n t72 d72_24 (x := a0) rfl)
theorem b72_25 {d : Nat} {S : mm_S} {a0 : Nat} {a1 : Nat} {p0 : Nat} (h0 : decide (mm_n S < 1000000) = true) : mm_ex d 72 25 [.ref a0, .ref a1, .null] [.ref p0] S =
    mm_ex d 72 28 [.ref a0, .ref a1, .null] [.ref (mm_n S), .ref p0] (mm_nw S 1 (mm_NF 1)) :=
  (mx_new t72 d72_25 (k := 1) (n := mm_NF 1) nw11_12 rfl h0)
theorem b72_28 {d : Nat} {S : mm_S} {a0 : Nat} {a1 : Nat} {p0 : Nat} {p1 : Nat} (h0 : (decide (p0 < mm_n S) && decide (mm_K S p0 < 13)) = true) : mm_ex (d + 1) 72 28 [.ref a0, .ref a1, .null] [.ref p0, .ref p1] S =
    mm_bd (mm_cl d 6 [.ref p0, .ref a1] S) (fun v S2 => mm_ex (d + 1) 72 33 [.ref a0, .ref a1, .null] (v.toList ++ [.ref p0, .ref p1]) S2) :=
  Eq.trans (mx_dupr t72 d72_28) <|
  Eq.trans (mx_aload_n t72 d72_29 (x := a1) rfl) <|
  (mx_spec (st := [.ref p0, .ref p1]) t72 [.ref a1] d72_30 oin11_14 sp11_14 rfl (Nat.le_of_ble_eq_true rfl) (Nat.le_of_ble_eq_true rfl) h0)
theorem b72_33 {d : Nat} {S : mm_S} {a0 : Nat} {a1 : Nat} {p0 : Nat} {p1 : Nat} (h0 : mm_obj S p1 11 = true) (h1 : p0 < mm_n S) : mm_ex d 72 33 [.ref a0, .ref a1, .null] [.ref p0, .ref p1] S =
    mm_ex d 72 37 [.ref a0, .ref a1, .null] [.ref a0] (mm_uR S p1 1 (some p0)) :=
  Eq.trans (mx_putr2 t72 d72_33 fl11_23 rfl h0 h1) <|
  (mx_aload_n t72 d72_36 (x := a0) rfl)
theorem b72_37 {d : Nat} {S : mm_S} {a0 : Nat} {a1 : Nat} {p0 : Nat} (h0 : decide (mm_n S < 1000000) = true) : mm_ex d 72 37 [.ref a0, .ref a1, .null] [.ref p0] S =
    mm_ex d 72 40 [.ref a0, .ref a1, .null] [.ref (mm_n S), .ref p0] (mm_nw S 1 (mm_NF 1)) :=
  (mx_new t72 d72_37 (k := 1) (n := mm_NF 1) nw11_12 rfl h0)
theorem b72_40 {d : Nat} {S : mm_S} {a0 : Nat} {a1 : Nat} {p0 : Nat} {p1 : Nat} (h0 : (decide (p0 < mm_n S) && decide (mm_K S p0 < 13)) = true) : mm_ex (d + 1) 72 40 [.ref a0, .ref a1, .null] [.ref p0, .ref p1] S =
    mm_bd (mm_cl d 6 [.ref p0, .ref a1] S) (fun v S2 => mm_ex (d + 1) 72 45 [.ref a0, .ref a1, .null] (v.toList ++ [.ref p0, .ref p1]) S2) :=
  Eq.trans (mx_dupr t72 d72_40) <|
  Eq.trans (mx_aload_n t72 d72_41 (x := a1) rfl) <|
  (mx_spec (st := [.ref p0, .ref p1]) t72 [.ref a1] d72_42 oin11_14 sp11_14 rfl (Nat.le_of_ble_eq_true rfl) (Nat.le_of_ble_eq_true rfl) h0)
theorem b72_45 {d : Nat} {S : mm_S} {a0 : Nat} {a1 : Nat} {p0 : Nat} {p1 : Nat} (h0 : mm_obj S p1 11 = true) (h1 : p0 < mm_n S) : mm_ex d 72 45 [.ref a0, .ref a1, .null] [.ref p0, .ref p1] S =
    mm_ex d 72 49 [.ref a0, .ref a1, .null] [.ref a0] (mm_uR S p1 2 (some p0)) :=
  Eq.trans (mx_putr2 t72 d72_45 fl11_26 rfl h0 h1) <|
  (mx_aload_n t72 d72_48 (x := a0) rfl)
theorem b72_49 {d : Nat} {S : mm_S} {a0 : Nat} {a1 : Nat} {p0 : Nat} (h0 : decide (mm_n S < 1000000) = true) : mm_ex d 72 49 [.ref a0, .ref a1, .null] [.ref p0] S =
    mm_ex d 72 52 [.ref a0, .ref a1, .null] [.ref (mm_n S), .ref p0] (mm_nw S 1 (mm_NF 1)) :=
  (mx_new t72 d72_49 (k := 1) (n := mm_NF 1) nw11_12 rfl h0)
theorem b72_52 {d : Nat} {S : mm_S} {a0 : Nat} {a1 : Nat} {p0 : Nat} {p1 : Nat} (h0 : (decide (p0 < mm_n S) && decide (mm_K S p0 < 13)) = true) : mm_ex (d + 1) 72 52 [.ref a0, .ref a1, .null] [.ref p0, .ref p1] S =
    mm_bd (mm_cl d 6 [.ref p0, .ref a1] S) (fun v S2 => mm_ex (d + 1) 72 57 [.ref a0, .ref a1, .null] (v.toList ++ [.ref p0, .ref p1]) S2) :=
  Eq.trans (mx_dupr t72 d72_52) <|
  Eq.trans (mx_aload_n t72 d72_53 (x := a1) rfl) <|
  (mx_spec (st := [.ref p0, .ref p1]) t72 [.ref a1] d72_54 oin11_14 sp11_14 rfl (Nat.le_of_ble_eq_true rfl) (Nat.le_of_ble_eq_true rfl) h0)
theorem b72_57 {d : Nat} {S : mm_S} {a0 : Nat} {a1 : Nat} {p0 : Nat} {p1 : Nat} (h0 : mm_obj S p1 11 = true) (h1 : p0 < mm_n S) : mm_ex d 72 57 [.ref a0, .ref a1, .null] [.ref p0, .ref p1] S =
    mm_ex d 72 63 [.ref a0, .ref a1, .null] [.int (nI 6), .ref a0] (mm_uR S p1 3 (some p0)) :=
  Eq.trans (mx_putr2 t72 d72_57 fl11_29 rfl h0 h1) <|
  Eq.trans (mx_aload_n t72 d72_60 (x := a0) rfl) <|
  (mx_bipush t72 d72_61 (v := nI 6) rfl)
theorem b72_63 {d : Nat} {S : mm_S} {a0 : Nat} {a1 : Nat} {p0 : Int32} {p1 : Nat} (h0 : (!decide (p0 < 0) && decide ((p0).toNatClampNeg ≤ 1000) && decide (mm_n S < 1000000)) = true) : mm_ex d 72 63 [.ref a0, .ref a1, .null] [.int p0, .ref p1] S =
    mm_ex d 72 66 [.ref a0, .ref a1, .null] [.ref (mm_n S), .ref p1] (mm_nw S 17 (p0).toNatClampNeg) :=
  (mx_newq t72 d72_63 (k := 17) an11_9 h0)
theorem b72_66 {d : Nat} {S : mm_S} {a0 : Nat} {a1 : Nat} {p0 : Nat} {p1 : Nat} (h0 : mm_obj S p1 11 = true) (h1 : p0 < mm_n S) : mm_ex d 72 66 [.ref a0, .ref a1, .null] [.ref p0, .ref p1] S =
    mm_ex d 72 71 [.ref a0, .ref a1, .int (nI 0)] [] (mm_uR S p1 4 (some p0)) :=
  Eq.trans (mx_putr2 t72 d72_66 fl11_32 rfl h0 h1) <|
  Eq.trans (mx_iconst t72 d72_69 (v := nI 0) rfl) <|
  (mx_istore_n t72 d72_70 (ls' := [.ref a0, .ref a1, .int (nI 0)]) rfl rfl)
theorem b72_71 {d : Nat} {S : mm_S} {a0 : Nat} {a1 : Nat} {x2 : Int32} : mm_ex d 72 71 [.ref a0, .ref a1, .int x2] [] S =
    if (nI 6) ≤ x2 then mm_ex d 72 96 [.ref a0, .ref a1, .int x2] [] S else mm_ex d 72 77 [.ref a0, .ref a1, .int x2] [] S :=
  Eq.trans (mx_iload_n t72 d72_71 (x := x2) rfl) <|
  Eq.trans (mx_bipush t72 d72_72 (v := nI 6) rfl) <|
  (mx_cge t72 d72_74 (tgt := 96) (by decide))
theorem b72_77 {d : Nat} {S : mm_S} {a0 : Nat} {a1 : Nat} {x2 : Int32} (h0 : mm_obj S a0 11 = true) (h1 : (mm_R S a0 4).isSome = true) (h2 : decide (mm_n S < 1000000) = true) : mm_ex d 72 77 [.ref a0, .ref a1, .int x2] [] S =
    mm_ex d 72 85 [.ref a0, .ref a1, .int x2] [.ref (mm_n S), .int x2, .ref (mm_rg S a0 4)] (mm_nw S 6 (mm_NF 6)) :=
  Eq.trans (mx_aload_n t72 d72_77 (x := a0) rfl) <|
  Eq.trans (mx_getR t72 d72_78 rfl fl11_32 h0 h1) <|
  Eq.trans (mx_iload_n t72 d72_81 (x := x2) rfl) <|
  (mx_new t72 d72_82 (k := 6) (n := mm_NF 6) nw11_9 rfl h2)
theorem b72_85 {d : Nat} {S : mm_S} {a0 : Nat} {a1 : Nat} {x2 : Int32} {p0 : Nat} {p1 : Int32} {p2 : Nat} (h0 : (decide (p0 < mm_n S) && decide (mm_K S p0 < 13)) = true) : mm_ex (d + 1) 72 85 [.ref a0, .ref a1, .int x2] [.ref p0, .int p1, .ref p2] S =
    mm_bd (mm_cl d 47 [.ref p0] S) (fun v S2 => mm_ex (d + 1) 72 89 [.ref a0, .ref a1, .int x2] (v.toList ++ [.ref p0, .int p1, .ref p2]) S2) :=
  Eq.trans (mx_dupr t72 d72_85) <|
  (mx_spec (st := [.ref p0, .int p1, .ref p2]) t72 [] d72_86 oin11_11 sp11_11 rfl (Nat.le_of_ble_eq_true rfl) (Nat.le_of_ble_eq_true rfl) h0)
theorem b72_89 {d : Nat} {S : mm_S} {a0 : Nat} {a1 : Nat} {x2 : Int32} {p0 : Nat} {p1 : Int32} {p2 : Nat} (h0 : (mm_arr S p2 16 || mm_arr S p2 17 || mm_arr S p2 18) = true) (h1 : mm_inb p1 (mm_N S p2) = true) (h2 : mm_obj S p0 (if mm_K S p2 = 16 then 0 else if mm_K S p2 = 17 then 6 else 8) = true) : mm_ex d 72 89 [.ref a0, .ref a1, .int x2] [.ref p0, .int p1, .ref p2] S =
    mm_ex d 72 71 [.ref a0, .ref a1, .int (x2 + nI 1)] [] (mm_uR S p2 (p1).toNatClampNeg (some p0)) :=
  Eq.trans (mx_qast2 t72 d72_89 h0 h1 h2) <|
  Eq.trans (mx_iinc t72 d72_90 (x := x2) (v := nI 1) (ls' := [.ref a0, .ref a1, .int (x2 + nI 1)]) rfl rfl rfl rfl) <|
  (mx_goto t72 d72_93 (tgt := 71) (by decide))
theorem b72_96 {d : Nat} {S : mm_S} {a0 : Nat} {a1 : Nat} {x2 : Int32} (h0 : decide (mm_n S < 1000000) = true) : mm_ex d 72 96 [.ref a0, .ref a1, .int x2] [] S =
    mm_ex d 72 100 [.ref a0, .ref a1, .int x2] [.ref (mm_n S), .ref a0] (mm_nw S 5 (mm_NF 5)) :=
  Eq.trans (mx_aload_n t72 d72_96 (x := a0) rfl) <|
  (mx_new t72 d72_97 (k := 5) (n := mm_NF 5) nw11_36 rfl h0)
theorem b72_100 {d : Nat} {S : mm_S} {a0 : Nat} {a1 : Nat} {x2 : Int32} {p0 : Nat} {p1 : Nat} (h0 : (decide (p0 < mm_n S) && decide (mm_K S p0 < 13)) = true) : mm_ex (d + 1) 72 100 [.ref a0, .ref a1, .int x2] [.ref p0, .ref p1] S =
    mm_bd (mm_cl d 34 [.ref p0] S) (fun v S2 => mm_ex (d + 1) 72 104 [.ref a0, .ref a1, .int x2] (v.toList ++ [.ref p0, .ref p1]) S2) :=
  Eq.trans (mx_dupr t72 d72_100) <|
  (mx_spec (st := [.ref p0, .ref p1]) t72 [] d72_101 oin11_38 sp11_38 rfl (Nat.le_of_ble_eq_true rfl) (Nat.le_of_ble_eq_true rfl) h0)
theorem b72_104 {d : Nat} {S : mm_S} {a0 : Nat} {a1 : Nat} {x2 : Int32} {p0 : Nat} {p1 : Nat} (h0 : mm_obj S p1 11 = true) (h1 : p0 < mm_n S) : mm_ex d 72 104 [.ref a0, .ref a1, .int x2] [.ref p0, .ref p1] S =
    mm_ex d 72 110 [.ref a0, .ref a1, .int x2] [.int (nI 6), .ref a0] (mm_uR S p1 5 (some p0)) :=
  Eq.trans (mx_putr2 t72 d72_104 fl11_39 rfl h0 h1) <|
  Eq.trans (mx_aload_n t72 d72_107 (x := a0) rfl) <|
  (mx_bipush t72 d72_108 (v := nI 6) rfl)
theorem b72_110 {d : Nat} {S : mm_S} {a0 : Nat} {a1 : Nat} {x2 : Int32} {p0 : Int32} {p1 : Nat} (h0 : (!decide (p0 < 0) && decide ((p0).toNatClampNeg ≤ 1000) && decide (mm_n S < 1000000)) = true) : mm_ex d 72 110 [.ref a0, .ref a1, .int x2] [.int p0, .ref p1] S =
    mm_ex d 72 113 [.ref a0, .ref a1, .int x2] [.ref (mm_n S), .ref p1] (mm_nw S 18 (p0).toNatClampNeg) :=
  (mx_newq t72 d72_110 (k := 18) an11_43 h0)
theorem b72_113 {d : Nat} {S : mm_S} {a0 : Nat} {a1 : Nat} {x2 : Int32} {p0 : Nat} {p1 : Nat} (h0 : mm_obj S p1 11 = true) (h1 : p0 < mm_n S) : mm_ex d 72 113 [.ref a0, .ref a1, .int x2] [.ref p0, .ref p1] S =
    mm_ex d 72 118 [.ref a0, .ref a1, .int (nI 0)] [] (mm_uR S p1 6 (some p0)) :=
  Eq.trans (mx_putr2 t72 d72_113 fl11_45 rfl h0 h1) <|
  Eq.trans (mx_iconst t72 d72_116 (v := nI 0) rfl) <|
  (mx_istore_n t72 d72_117 (ls' := [.ref a0, .ref a1, .int (nI 0)]) rfl rfl)
theorem b72_118 {d : Nat} {S : mm_S} {a0 : Nat} {a1 : Nat} {x2 : Int32} : mm_ex d 72 118 [.ref a0, .ref a1, .int x2] [] S =
    if (nI 6) ≤ x2 then mm_ex d 72 143 [.ref a0, .ref a1, .int x2] [] S else mm_ex d 72 124 [.ref a0, .ref a1, .int x2] [] S :=
  Eq.trans (mx_iload_n t72 d72_118 (x := x2) rfl) <|
  Eq.trans (mx_bipush t72 d72_119 (v := nI 6) rfl) <|
  (mx_cge t72 d72_121 (tgt := 143) (by decide))
theorem b72_124 {d : Nat} {S : mm_S} {a0 : Nat} {a1 : Nat} {x2 : Int32} (h0 : mm_obj S a0 11 = true) (h1 : (mm_R S a0 6).isSome = true) (h2 : decide (mm_n S < 1000000) = true) : mm_ex d 72 124 [.ref a0, .ref a1, .int x2] [] S =
    mm_ex d 72 132 [.ref a0, .ref a1, .int x2] [.ref (mm_n S), .int x2, .ref (mm_rg S a0 6)] (mm_nw S 8 (mm_NF 8)) :=
  Eq.trans (mx_aload_n t72 d72_124 (x := a0) rfl) <|
  Eq.trans (mx_getR t72 d72_125 rfl fl11_45 h0 h1) <|
  Eq.trans (mx_iload_n t72 d72_128 (x := x2) rfl) <|
  (mx_new t72 d72_129 (k := 8) (n := mm_NF 8) nw11_43 rfl h2)
theorem b72_132 {d : Nat} {S : mm_S} {a0 : Nat} {a1 : Nat} {x2 : Int32} {p0 : Nat} {p1 : Int32} {p2 : Nat} (h0 : (decide (p0 < mm_n S) && decide (mm_K S p0 < 13)) = true) : mm_ex (d + 1) 72 132 [.ref a0, .ref a1, .int x2] [.ref p0, .int p1, .ref p2] S =
    mm_bd (mm_cl d 59 [.ref p0] S) (fun v S2 => mm_ex (d + 1) 72 136 [.ref a0, .ref a1, .int x2] (v.toList ++ [.ref p0, .int p1, .ref p2]) S2) :=
  Eq.trans (mx_dupr t72 d72_132) <|
  (mx_spec (st := [.ref p0, .int p1, .ref p2]) t72 [] d72_133 oin11_49 sp11_49 rfl (Nat.le_of_ble_eq_true rfl) (Nat.le_of_ble_eq_true rfl) h0)
theorem b72_136 {d : Nat} {S : mm_S} {a0 : Nat} {a1 : Nat} {x2 : Int32} {p0 : Nat} {p1 : Int32} {p2 : Nat} (h0 : (mm_arr S p2 16 || mm_arr S p2 17 || mm_arr S p2 18) = true) (h1 : mm_inb p1 (mm_N S p2) = true) (h2 : mm_obj S p0 (if mm_K S p2 = 16 then 0 else if mm_K S p2 = 17 then 6 else 8) = true) : mm_ex d 72 136 [.ref a0, .ref a1, .int x2] [.ref p0, .int p1, .ref p2] S =
    mm_ex d 72 118 [.ref a0, .ref a1, .int (x2 + nI 1)] [] (mm_uR S p2 (p1).toNatClampNeg (some p0)) :=
  Eq.trans (mx_qast2 t72 d72_136 h0 h1 h2) <|
  Eq.trans (mx_iinc t72 d72_137 (x := x2) (v := nI 1) (ls' := [.ref a0, .ref a1, .int (x2 + nI 1)]) rfl rfl rfl rfl) <|
  (mx_goto t72 d72_140 (tgt := 118) (by decide))
theorem b72_143 {d : Nat} {S : mm_S} {a0 : Nat} {a1 : Nat} {x2 : Int32} (h0 : (!decide (nI 21 < 0) && decide ((nI 21).toNatClampNeg ≤ 1000) && decide (mm_n S < 1000000)) = true) : mm_ex d 72 143 [.ref a0, .ref a1, .int x2] [] S =
    mm_ex d 72 148 [.ref a0, .ref a1, .int x2] [.ref (mm_n S), .ref a0] (mm_nw S 13 (nI 21).toNatClampNeg) :=
  Eq.trans (mx_aload_n t72 d72_143 (x := a0) rfl) <|
  Eq.trans (mx_bipush t72 d72_144 (v := nI 21) rfl) <|
  (mx_newi t72 d72_146 h0)
theorem b72_148 {d : Nat} {S : mm_S} {a0 : Nat} {a1 : Nat} {x2 : Int32} {p0 : Nat} {p1 : Nat} (h0 : mm_obj S p1 11 = true) (h1 : p0 < mm_n S) : mm_ex d 72 148 [.ref a0, .ref a1, .int x2] [.ref p0, .ref p1] S =
    mm_ex d 72 154 [.ref a0, .ref a1, .int x2] [.int (nI 6), .ref a0] (mm_uR S p1 7 (some p0)) :=
  Eq.trans (mx_putr2 t72 d72_148 fl11_50 rfl h0 h1) <|
  Eq.trans (mx_aload_n t72 d72_151 (x := a0) rfl) <|
  (mx_bipush t72 d72_152 (v := nI 6) rfl)
theorem b72_154 {d : Nat} {S : mm_S} {a0 : Nat} {a1 : Nat} {x2 : Int32} {p0 : Int32} {p1 : Nat} (h0 : (!decide (p0 < 0) && decide ((p0).toNatClampNeg ≤ 1000) && decide (mm_n S < 1000000)) = true) : mm_ex d 72 154 [.ref a0, .ref a1, .int x2] [.int p0, .ref p1] S =
    mm_ex d 72 156 [.ref a0, .ref a1, .int x2] [.ref (mm_n S), .ref p1] (mm_nw S 13 (p0).toNatClampNeg) :=
  (mx_newi t72 d72_154 h0)
theorem b72_156 {d : Nat} {S : mm_S} {a0 : Nat} {a1 : Nat} {x2 : Int32} {p0 : Nat} {p1 : Nat} (h0 : mm_obj S p1 11 = true) (h1 : p0 < mm_n S) : mm_ex d 72 156 [.ref a0, .ref a1, .int x2] [.ref p0, .ref p1] S =
    mm_ex d 72 162 [.ref a0, .ref a1, .int x2] [.int (nI 6), .ref a0] (mm_uR S p1 8 (some p0)) :=
  Eq.trans (mx_putr2 t72 d72_156 fl11_54 rfl h0 h1) <|
  Eq.trans (mx_aload_n t72 d72_159 (x := a0) rfl) <|
  (mx_bipush t72 d72_160 (v := nI 6) rfl)
theorem b72_162 {d : Nat} {S : mm_S} {a0 : Nat} {a1 : Nat} {x2 : Int32} {p0 : Int32} {p1 : Nat} (h0 : (!decide (p0 < 0) && decide ((p0).toNatClampNeg ≤ 1000) && decide (mm_n S < 1000000)) = true) : mm_ex d 72 162 [.ref a0, .ref a1, .int x2] [.int p0, .ref p1] S =
    mm_ex d 72 164 [.ref a0, .ref a1, .int x2] [.ref (mm_n S), .ref p1] (mm_nw S 13 (p0).toNatClampNeg) :=
  (mx_newi t72 d72_162 h0)
theorem b72_164 {d : Nat} {S : mm_S} {a0 : Nat} {a1 : Nat} {x2 : Int32} {p0 : Nat} {p1 : Nat} (h0 : mm_obj S p1 11 = true) (h1 : p0 < mm_n S) : mm_ex d 72 164 [.ref a0, .ref a1, .int x2] [.ref p0, .ref p1] S =
    mm_ex d 72 170 [.ref a0, .ref a1, .int x2] [.int (nI 6), .ref a0] (mm_uR S p1 9 (some p0)) :=
  Eq.trans (mx_putr2 t72 d72_164 fl11_57 rfl h0 h1) <|
  Eq.trans (mx_aload_n t72 d72_167 (x := a0) rfl) <|
  (mx_bipush t72 d72_168 (v := nI 6) rfl)
theorem b72_170 {d : Nat} {S : mm_S} {a0 : Nat} {a1 : Nat} {x2 : Int32} {p0 : Int32} {p1 : Nat} (h0 : (!decide (p0 < 0) && decide ((p0).toNatClampNeg ≤ 1000) && decide (mm_n S < 1000000)) = true) : mm_ex d 72 170 [.ref a0, .ref a1, .int x2] [.int p0, .ref p1] S =
    mm_ex d 72 172 [.ref a0, .ref a1, .int x2] [.ref (mm_n S), .ref p1] (mm_nw S 13 (p0).toNatClampNeg) :=
  (mx_newi t72 d72_170 h0)
theorem b72_172 {d : Nat} {S : mm_S} {a0 : Nat} {a1 : Nat} {x2 : Int32} {p0 : Nat} {p1 : Nat} (h0 : mm_obj S p1 11 = true) (h1 : p0 < mm_n S) : mm_ex d 72 172 [.ref a0, .ref a1, .int x2] [.ref p0, .ref p1] S =
    some (none, (mm_uR S p1 10 (some p0))) :=
  Eq.trans (mx_putr2 t72 d72_172 fl11_60 rfl h0 h1) <|
  (mx_vret t72 d72_175 rfl)
theorem e72 {d : Nat} {S : mm_S} {a0 : Nat} : mm_cl d 72 [.ref a0] S = mm_ex d 72 0 [.ref a0, .null, .null] [] S := mm_cl_eq t72 (Nat.le_of_ble_eq_true rfl) rfl
/-! X11_buyer -/
theorem dd73_0 : (decode prog_1_method_2_code 0 = .ok (.iload_n 1, 1)) ∧ (decode prog_1_method_2_code 1 = .ok (.ifCond .lt 9, 3)) ∧ (decode prog_1_method_2_code 4 = .ok (.iload_n 1, 1)) ∧ (decode prog_1_method_2_code 5 = .ok (.bipush 6, 2)) ∧ (decode prog_1_method_2_code 7 = .ok (.if_icmp .le 5, 3)) ∧ (decode prog_1_method_2_code 10 = .ok (.iconst (-1), 1)) ∧ (decode prog_1_method_2_code 11 = .ok (.ireturn, 1)) ∧ (decode prog_1_method_2_code 12 = .ok (.iload_n 2, 1)) ∧ (decode prog_1_method_2_code 13 = .ok (.ifCond .lt 19, 3)) ∧ (decode prog_1_method_2_code 16 = .ok (.iload_n 2, 1)) ∧ (decode prog_1_method_2_code 17 = .ok (.bipush 9, 2)) ∧ (decode prog_1_method_2_code 19 = .ok (.if_icmp .gt 13, 3)) ∧ (decode prog_1_method_2_code 22 = .ok (.iload_n 3, 1)) ∧ (decode prog_1_method_2_code 23 = .ok (.ifCond .lt 9, 3)) ∧ (decode prog_1_method_2_code 26 = .ok (.iload_n 3, 1)) ∧ (decode prog_1_method_2_code 27 = .ok (.bipush 99, 2)) := by decide +kernel
theorem d73_0 : decode prog_1_method_2_code 0 = .ok (.iload_n 1, 1) := dd73_0.1
theorem d73_1 : decode prog_1_method_2_code 1 = .ok (.ifCond .lt 9, 3) := dd73_0.2.1
theorem d73_4 : decode prog_1_method_2_code 4 = .ok (.iload_n 1, 1) := dd73_0.2.2.1
theorem d73_5 : decode prog_1_method_2_code 5 = .ok (.bipush 6, 2) := dd73_0.2.2.2.1
theorem d73_7 : decode prog_1_method_2_code 7 = .ok (.if_icmp .le 5, 3) := dd73_0.2.2.2.2.1
theorem d73_10 : decode prog_1_method_2_code 10 = .ok (.iconst (-1), 1) := dd73_0.2.2.2.2.2.1
theorem d73_11 : decode prog_1_method_2_code 11 = .ok (.ireturn, 1) := dd73_0.2.2.2.2.2.2.1
theorem d73_12 : decode prog_1_method_2_code 12 = .ok (.iload_n 2, 1) := dd73_0.2.2.2.2.2.2.2.1
theorem d73_13 : decode prog_1_method_2_code 13 = .ok (.ifCond .lt 19, 3) := dd73_0.2.2.2.2.2.2.2.2.1
theorem d73_16 : decode prog_1_method_2_code 16 = .ok (.iload_n 2, 1) := dd73_0.2.2.2.2.2.2.2.2.2.1
theorem d73_17 : decode prog_1_method_2_code 17 = .ok (.bipush 9, 2) := dd73_0.2.2.2.2.2.2.2.2.2.2.1
theorem d73_19 : decode prog_1_method_2_code 19 = .ok (.if_icmp .gt 13, 3) := dd73_0.2.2.2.2.2.2.2.2.2.2.2.1
theorem d73_22 : decode prog_1_method_2_code 22 = .ok (.iload_n 3, 1) := dd73_0.2.2.2.2.2.2.2.2.2.2.2.2.1
theorem d73_23 : decode prog_1_method_2_code 23 = .ok (.ifCond .lt 9, 3) := dd73_0.2.2.2.2.2.2.2.2.2.2.2.2.2.1
theorem d73_26 : decode prog_1_method_2_code 26 = .ok (.iload_n 3, 1) := dd73_0.2.2.2.2.2.2.2.2.2.2.2.2.2.2.1
theorem d73_27 : decode prog_1_method_2_code 27 = .ok (.bipush 99, 2) := dd73_0.2.2.2.2.2.2.2.2.2.2.2.2.2.2.2
theorem dd73_29 : (decode prog_1_method_2_code 29 = .ok (.if_icmp .le 6, 3)) ∧ (decode prog_1_method_2_code 32 = .ok (.bipush (-2), 2)) ∧ (decode prog_1_method_2_code 34 = .ok (.ireturn, 1)) ∧ (decode prog_1_method_2_code 35 = .ok (.aload_n 0, 1)) ∧ (decode prog_1_method_2_code 36 = .ok (.getfield 17, 3)) ∧ (decode prog_1_method_2_code 39 = .ok (.getfield 65, 3)) ∧ (decode prog_1_method_2_code 42 = .ok (.bipush 6, 2)) ∧ (decode prog_1_method_2_code 44 = .ok (.if_icmp .lt 6, 3)) ∧ (decode prog_1_method_2_code 47 = .ok (.bipush (-4), 2)) ∧ (decode prog_1_method_2_code 49 = .ok (.ireturn, 1)) ∧ (decode prog_1_method_2_code 50 = .ok (.aload_n 0, 1)) ∧ (decode prog_1_method_2_code 51 = .ok (.getfield 17, 3)) ∧ (decode prog_1_method_2_code 54 = .ok (.getfield 65, 3)) ∧ (decode prog_1_method_2_code 57 = .ok (.istore 4, 2)) ∧ (decode prog_1_method_2_code 59 = .ok (.aload_n 0, 1)) ∧ (decode prog_1_method_2_code 60 = .ok (.getfield 17, 3)) := by decide +kernel
theorem d73_29 : decode prog_1_method_2_code 29 = .ok (.if_icmp .le 6, 3) := dd73_29.1
theorem d73_32 : decode prog_1_method_2_code 32 = .ok (.bipush (-2), 2) := dd73_29.2.1
theorem d73_34 : decode prog_1_method_2_code 34 = .ok (.ireturn, 1) := dd73_29.2.2.1
theorem d73_35 : decode prog_1_method_2_code 35 = .ok (.aload_n 0, 1) := dd73_29.2.2.2.1
theorem d73_36 : decode prog_1_method_2_code 36 = .ok (.getfield 17, 3) := dd73_29.2.2.2.2.1
theorem d73_39 : decode prog_1_method_2_code 39 = .ok (.getfield 65, 3) := dd73_29.2.2.2.2.2.1
theorem d73_42 : decode prog_1_method_2_code 42 = .ok (.bipush 6, 2) := dd73_29.2.2.2.2.2.2.1
theorem d73_44 : decode prog_1_method_2_code 44 = .ok (.if_icmp .lt 6, 3) := dd73_29.2.2.2.2.2.2.2.1
theorem d73_47 : decode prog_1_method_2_code 47 = .ok (.bipush (-4), 2) := dd73_29.2.2.2.2.2.2.2.2.1
theorem d73_49 : decode prog_1_method_2_code 49 = .ok (.ireturn, 1) := dd73_29.2.2.2.2.2.2.2.2.2.1
theorem d73_50 : decode prog_1_method_2_code 50 = .ok (.aload_n 0, 1) := dd73_29.2.2.2.2.2.2.2.2.2.2.1
theorem d73_51 : decode prog_1_method_2_code 51 = .ok (.getfield 17, 3) := dd73_29.2.2.2.2.2.2.2.2.2.2.2.1
theorem d73_54 : decode prog_1_method_2_code 54 = .ok (.getfield 65, 3) := dd73_29.2.2.2.2.2.2.2.2.2.2.2.2.1
theorem d73_57 : decode prog_1_method_2_code 57 = .ok (.istore 4, 2) := dd73_29.2.2.2.2.2.2.2.2.2.2.2.2.2.1
theorem d73_59 : decode prog_1_method_2_code 59 = .ok (.aload_n 0, 1) := dd73_29.2.2.2.2.2.2.2.2.2.2.2.2.2.2.1
theorem d73_60 : decode prog_1_method_2_code 60 = .ok (.getfield 17, 3) := dd73_29.2.2.2.2.2.2.2.2.2.2.2.2.2.2.2
theorem dd73_63 : (decode prog_1_method_2_code 63 = .ok (.iload_n 1, 1)) ∧ (decode prog_1_method_2_code 64 = .ok (.iload 4, 2)) ∧ (decode prog_1_method_2_code 66 = .ok (.iload_n 2, 1)) ∧ (decode prog_1_method_2_code 67 = .ok (.iload_n 3, 1)) ∧ (decode prog_1_method_2_code 68 = .ok (.invokestatic 69, 3)) ∧ (decode prog_1_method_2_code 71 = .ok (.invokevirtual 73, 3)) ∧ (decode prog_1_method_2_code 74 = .ok (.iload 4, 2)) ∧ (decode prog_1_method_2_code 76 = .ok (.ireturn, 1)) := by decide +kernel
theorem d73_63 : decode prog_1_method_2_code 63 = .ok (.iload_n 1, 1) := dd73_63.1
theorem d73_64 : decode prog_1_method_2_code 64 = .ok (.iload 4, 2) := dd73_63.2.1
theorem d73_66 : decode prog_1_method_2_code 66 = .ok (.iload_n 2, 1) := dd73_63.2.2.1
theorem d73_67 : decode prog_1_method_2_code 67 = .ok (.iload_n 3, 1) := dd73_63.2.2.2.1
theorem d73_68 : decode prog_1_method_2_code 68 = .ok (.invokestatic 69, 3) := dd73_63.2.2.2.2.1
theorem d73_71 : decode prog_1_method_2_code 71 = .ok (.invokevirtual 73, 3) := dd73_63.2.2.2.2.2.1
theorem d73_74 : decode prog_1_method_2_code 74 = .ok (.iload 4, 2) := dd73_63.2.2.2.2.2.2.1
theorem d73_76 : decode prog_1_method_2_code 76 = .ok (.ireturn, 1) := dd73_63.2.2.2.2.2.2.2
theorem b73_0 {d : Nat} {S : mm_S} {a0 : Nat} {x1 : Int32} {x2 : Int32} {x3 : Int32} : mm_ex d 73 0 [.ref a0, .int x1, .int x2, .int x3, .null] [] S =
    if x1 < nI 0 then mm_ex d 73 10 [.ref a0, .int x1, .int x2, .int x3, .null] [] S else mm_ex d 73 4 [.ref a0, .int x1, .int x2, .int x3, .null] [] S :=
  Eq.trans (mx_iload_n t73 d73_0 (x := x1) rfl) <|
  (mx_ilt t73 d73_1 (tgt := 10) (by decide))
theorem b73_4 {d : Nat} {S : mm_S} {a0 : Nat} {x1 : Int32} {x2 : Int32} {x3 : Int32} : mm_ex d 73 4 [.ref a0, .int x1, .int x2, .int x3, .null] [] S =
    if x1 ≤ (nI 6) then mm_ex d 73 12 [.ref a0, .int x1, .int x2, .int x3, .null] [] S else mm_ex d 73 10 [.ref a0, .int x1, .int x2, .int x3, .null] [] S :=
  Eq.trans (mx_iload_n t73 d73_4 (x := x1) rfl) <|
  Eq.trans (mx_bipush t73 d73_5 (v := nI 6) rfl) <|
  (mx_cle t73 d73_7 (tgt := 12) (by decide))
theorem b73_10 {d : Nat} {S : mm_S} {a0 : Nat} {x1 : Int32} {x2 : Int32} {x3 : Int32} : mm_ex d 73 10 [.ref a0, .int x1, .int x2, .int x3, .null] [] S =
    some (some (.int (-1)), S) :=
  Eq.trans (mx_iconst t73 d73_10 (v := -1) rfl) <|
  (mx_iret t73 d73_11 (ty := .int) rfl rfl (fun h => nomatch h))
theorem b73_12 {d : Nat} {S : mm_S} {a0 : Nat} {x1 : Int32} {x2 : Int32} {x3 : Int32} : mm_ex d 73 12 [.ref a0, .int x1, .int x2, .int x3, .null] [] S =
    if x2 < nI 0 then mm_ex d 73 32 [.ref a0, .int x1, .int x2, .int x3, .null] [] S else mm_ex d 73 16 [.ref a0, .int x1, .int x2, .int x3, .null] [] S :=
  Eq.trans (mx_iload_n t73 d73_12 (x := x2) rfl) <|
  (mx_ilt t73 d73_13 (tgt := 32) (by decide))
theorem b73_16 {d : Nat} {S : mm_S} {a0 : Nat} {x1 : Int32} {x2 : Int32} {x3 : Int32} : mm_ex d 73 16 [.ref a0, .int x1, .int x2, .int x3, .null] [] S =
    if (nI 9) < x2 then mm_ex d 73 32 [.ref a0, .int x1, .int x2, .int x3, .null] [] S else mm_ex d 73 22 [.ref a0, .int x1, .int x2, .int x3, .null] [] S :=
  Eq.trans (mx_iload_n t73 d73_16 (x := x2) rfl) <|
  Eq.trans (mx_bipush t73 d73_17 (v := nI 9) rfl) <|
  (mx_cgt t73 d73_19 (tgt := 32) (by decide))
theorem b73_22 {d : Nat} {S : mm_S} {a0 : Nat} {x1 : Int32} {x2 : Int32} {x3 : Int32} : mm_ex d 73 22 [.ref a0, .int x1, .int x2, .int x3, .null] [] S =
    if x3 < nI 0 then mm_ex d 73 32 [.ref a0, .int x1, .int x2, .int x3, .null] [] S else mm_ex d 73 26 [.ref a0, .int x1, .int x2, .int x3, .null] [] S :=
  Eq.trans (mx_iload_n t73 d73_22 (x := x3) rfl) <|
  (mx_ilt t73 d73_23 (tgt := 32) (by decide))
theorem b73_26 {d : Nat} {S : mm_S} {a0 : Nat} {x1 : Int32} {x2 : Int32} {x3 : Int32} : mm_ex d 73 26 [.ref a0, .int x1, .int x2, .int x3, .null] [] S =
    if x3 ≤ (nI 99) then mm_ex d 73 35 [.ref a0, .int x1, .int x2, .int x3, .null] [] S else mm_ex d 73 32 [.ref a0, .int x1, .int x2, .int x3, .null] [] S :=
  Eq.trans (mx_iload_n t73 d73_26 (x := x3) rfl) <|
  Eq.trans (mx_bipush t73 d73_27 (v := nI 99) rfl) <|
  (mx_cle t73 d73_29 (tgt := 35) (by decide))
theorem b73_32 {d : Nat} {S : mm_S} {a0 : Nat} {x1 : Int32} {x2 : Int32} {x3 : Int32} : mm_ex d 73 32 [.ref a0, .int x1, .int x2, .int x3, .null] [] S =
    some (some (.int (-2)), S) :=
  Eq.trans (mx_bipush t73 d73_32 (v := -2) rfl) <|
  (mx_iret t73 d73_34 (ty := .int) rfl rfl (fun h => nomatch h))
theorem b73_35 {d : Nat} {S : mm_S} {a0 : Nat} {x1 : Int32} {x2 : Int32} {x3 : Int32} (h0 : mm_obj S a0 11 = true) (h1 : (mm_R S a0 0).isSome = true) (h2 : mm_obj S (mm_rg S a0 0) 1 = true) : mm_ex d 73 35 [.ref a0, .int x1, .int x2, .int x3, .null] [] S =
    if (mm_M S (mm_rg S a0 0) 10) < (nI 6) then mm_ex d 73 50 [.ref a0, .int x1, .int x2, .int x3, .null] [] S else mm_ex d 73 47 [.ref a0, .int x1, .int x2, .int x3, .null] [] S :=
  Eq.trans (mx_aload_n t73 d73_35 (x := a0) rfl) <|
  Eq.trans (mx_getR t73 d73_36 rfl fl11_17 h0 h1) <|
  Eq.trans (mx_geti t73 d73_39 rfl fl11_65 h2) <|
  Eq.trans (mx_bipush t73 d73_42 (v := nI 6) rfl) <|
  (mx_clt t73 d73_44 (tgt := 50) (by decide))
theorem b73_47 {d : Nat} {S : mm_S} {a0 : Nat} {x1 : Int32} {x2 : Int32} {x3 : Int32} : mm_ex d 73 47 [.ref a0, .int x1, .int x2, .int x3, .null] [] S =
    some (some (.int (-4)), S) :=
  Eq.trans (mx_bipush t73 d73_47 (v := -4) rfl) <|
  (mx_iret t73 d73_49 (ty := .int) rfl rfl (fun h => nomatch h))
theorem b73_50 {d : Nat} {S : mm_S} {a0 : Nat} {x1 : Int32} {x2 : Int32} {x3 : Int32} (h0 : mm_obj S a0 11 = true) (h1 : (mm_R S a0 0).isSome = true) (h2 : mm_obj S (mm_rg S a0 0) 1 = true) : mm_ex (d + 1) 73 50 [.ref a0, .int x1, .int x2, .int x3, .null] [] S =
    mm_bd (mm_cl d 111 [.int x1, .int (mm_M S (mm_rg S a0 0) 10), .int x2, .int x3] S) (fun v S2 => mm_ex (d + 1) 73 71 [.ref a0, .int x1, .int x2, .int x3, .int (mm_M S (mm_rg S a0 0) 10)] (v.toList ++ [.ref (mm_rg S a0 0)]) S2) :=
  Eq.trans (mx_aload_n t73 d73_50 (x := a0) rfl) <|
  Eq.trans (mx_getR t73 d73_51 rfl fl11_17 h0 h1) <|
  Eq.trans (mx_geti t73 d73_54 rfl fl11_65 h2) <|
  Eq.trans (mx_istore t73 d73_57 (ls' := [.ref a0, .int x1, .int x2, .int x3, .int (mm_M S (mm_rg S a0 0) 10)]) rfl rfl) <|
  Eq.trans (mx_aload_n t73 d73_59 (x := a0) rfl) <|
  Eq.trans (mx_getR t73 d73_60 rfl fl11_17 h0 h1) <|
  Eq.trans (mx_iload_n t73 d73_63 (x := x1) rfl) <|
  Eq.trans (mx_iload t73 d73_64 (x := mm_M S (mm_rg S a0 0) 10) rfl) <|
  Eq.trans (mx_iload_n t73 d73_66 (x := x2) rfl) <|
  Eq.trans (mx_iload_n t73 d73_67 (x := x3) rfl) <|
  (mx_stat (st := [.ref (mm_rg S a0 0)]) t73 [.int x1, .int (mm_M S (mm_rg S a0 0) 10), .int x2, .int x3] d73_68 acn11_69 mxn11_69 st11_69 rfl (Nat.le_of_ble_eq_true rfl) (Nat.le_of_ble_eq_true rfl))
theorem b73_71 {d : Nat} {S : mm_S} {a0 : Nat} {x1 : Int32} {x2 : Int32} {x3 : Int32} {x4 : Int32} {p0 : Nat} {p1 : Nat} (h0 : mm_rk S p1 = 1) : mm_ex (d + 1) 73 71 [.ref a0, .int x1, .int x2, .int x3, .int x4] [.ref p0, .ref p1] S =
    mm_bd (mm_cl d 9 [.ref p1, .ref p0] S) (fun v S2 => mm_ex (d + 1) 73 74 [.ref a0, .int x1, .int x2, .int x3, .int x4] (v.toList ++ []) S2) :=
  (mx_virt (st := []) (k := 1) t73 [.ref p0] d73_71 vt11_73 rfl rfl (Nat.le_of_ble_eq_true rfl) (Nat.le_of_ble_eq_true rfl) h0)
theorem b73_74 {d : Nat} {S : mm_S} {a0 : Nat} {x1 : Int32} {x2 : Int32} {x3 : Int32} {x4 : Int32} : mm_ex d 73 74 [.ref a0, .int x1, .int x2, .int x3, .int x4] [] S =
    some (some (.int x4), S) :=
  Eq.trans (mx_iload t73 d73_74 (x := x4) rfl) <|
  (mx_iret t73 d73_76 (ty := .int) rfl rfl (fun h => nomatch h))
theorem e73 {d : Nat} {S : mm_S} {a0 : Nat} {x1 : Int32} {x2 : Int32} {x3 : Int32} : mm_cl d 73 [.ref a0, .int x1, .int x2, .int x3] S = mm_ex d 73 0 [.ref a0, .int x1, .int x2, .int x3, .null] [] S := mm_cl_eq t73 (Nat.le_of_ble_eq_true rfl) rfl
/-! X11_of -/
theorem dd74_0 : (decode prog_1_method_3_code 0 = .ok (.aload_n 0, 1)) ∧ (decode prog_1_method_3_code 1 = .ok (.getfield 17, 3)) ∧ (decode prog_1_method_3_code 4 = .ok (.iload_n 1, 1)) ∧ (decode prog_1_method_3_code 5 = .ok (.invokevirtual 77, 3)) ∧ (decode prog_1_method_3_code 8 = .ok (.ifCond .ne 7, 3)) ∧ (decode prog_1_method_3_code 11 = .ok (.sipush (-10001), 3)) ∧ (decode prog_1_method_3_code 14 = .ok (.ireturn, 1)) ∧ (decode prog_1_method_3_code 15 = .ok (.aload_n 0, 1)) ∧ (decode prog_1_method_3_code 16 = .ok (.getfield 17, 3)) ∧ (decode prog_1_method_3_code 19 = .ok (.getfield 81, 3)) ∧ (decode prog_1_method_3_code 22 = .ok (.iload_n 1, 1)) ∧ (decode prog_1_method_3_code 23 = .ok (.aaload, 1)) ∧ (decode prog_1_method_3_code 24 = .ok (.astore_n 3, 1)) ∧ (decode prog_1_method_3_code 25 = .ok (.iload_n 2, 1)) ∧ (decode prog_1_method_3_code 26 = .ok (.tableswitch 152 0 8 #[50, 55, 60, 65, 78, 88, 100, 116, 132], 50)) ∧ (decode prog_1_method_3_code 76 = .ok (.aload_n 3, 1)) := by decide +kernel
theorem d74_0 : decode prog_1_method_3_code 0 = .ok (.aload_n 0, 1) := dd74_0.1
theorem d74_1 : decode prog_1_method_3_code 1 = .ok (.getfield 17, 3) := dd74_0.2.1
theorem d74_4 : decode prog_1_method_3_code 4 = .ok (.iload_n 1, 1) := dd74_0.2.2.1
theorem d74_5 : decode prog_1_method_3_code 5 = .ok (.invokevirtual 77, 3) := dd74_0.2.2.2.1
theorem d74_8 : decode prog_1_method_3_code 8 = .ok (.ifCond .ne 7, 3) := dd74_0.2.2.2.2.1
theorem d74_11 : decode prog_1_method_3_code 11 = .ok (.sipush (-10001), 3) := dd74_0.2.2.2.2.2.1
theorem d74_14 : decode prog_1_method_3_code 14 = .ok (.ireturn, 1) := dd74_0.2.2.2.2.2.2.1
theorem d74_15 : decode prog_1_method_3_code 15 = .ok (.aload_n 0, 1) := dd74_0.2.2.2.2.2.2.2.1
theorem d74_16 : decode prog_1_method_3_code 16 = .ok (.getfield 17, 3) := dd74_0.2.2.2.2.2.2.2.2.1
theorem d74_19 : decode prog_1_method_3_code 19 = .ok (.getfield 81, 3) := dd74_0.2.2.2.2.2.2.2.2.2.1
theorem d74_22 : decode prog_1_method_3_code 22 = .ok (.iload_n 1, 1) := dd74_0.2.2.2.2.2.2.2.2.2.2.1
theorem d74_23 : decode prog_1_method_3_code 23 = .ok (.aaload, 1) := dd74_0.2.2.2.2.2.2.2.2.2.2.2.1
theorem d74_24 : decode prog_1_method_3_code 24 = .ok (.astore_n 3, 1) := dd74_0.2.2.2.2.2.2.2.2.2.2.2.2.1
theorem d74_25 : decode prog_1_method_3_code 25 = .ok (.iload_n 2, 1) := dd74_0.2.2.2.2.2.2.2.2.2.2.2.2.2.1
theorem d74_26 : decode prog_1_method_3_code 26 = .ok (.tableswitch 152 0 8 #[50, 55, 60, 65, 78, 88, 100, 116, 132], 50) := dd74_0.2.2.2.2.2.2.2.2.2.2.2.2.2.2.1
theorem d74_76 : decode prog_1_method_3_code 76 = .ok (.aload_n 3, 1) := dd74_0.2.2.2.2.2.2.2.2.2.2.2.2.2.2.2
theorem dd74_77 : (decode prog_1_method_3_code 77 = .ok (.getfield 85, 3)) ∧ (decode prog_1_method_3_code 80 = .ok (.ireturn, 1)) ∧ (decode prog_1_method_3_code 81 = .ok (.aload_n 3, 1)) ∧ (decode prog_1_method_3_code 82 = .ok (.getfield 88, 3)) ∧ (decode prog_1_method_3_code 85 = .ok (.ireturn, 1)) ∧ (decode prog_1_method_3_code 86 = .ok (.aload_n 3, 1)) ∧ (decode prog_1_method_3_code 87 = .ok (.getfield 91, 3)) ∧ (decode prog_1_method_3_code 90 = .ok (.ireturn, 1)) ∧ (decode prog_1_method_3_code 91 = .ok (.aload_n 0, 1)) ∧ (decode prog_1_method_3_code 92 = .ok (.getfield 17, 3)) ∧ (decode prog_1_method_3_code 95 = .ok (.getfield 94, 3)) ∧ (decode prog_1_method_3_code 98 = .ok (.iload_n 1, 1)) ∧ (decode prog_1_method_3_code 99 = .ok (.iaload, 1)) ∧ (decode prog_1_method_3_code 100 = .ok (.invokestatic 97, 3)) ∧ (decode prog_1_method_3_code 103 = .ok (.ireturn, 1)) ∧ (decode prog_1_method_3_code 104 = .ok (.aload_n 0, 1)) := by decide +kernel
theorem d74_77 : decode prog_1_method_3_code 77 = .ok (.getfield 85, 3) := dd74_77.1
theorem d74_80 : decode prog_1_method_3_code 80 = .ok (.ireturn, 1) := dd74_77.2.1
theorem d74_81 : decode prog_1_method_3_code 81 = .ok (.aload_n 3, 1) := dd74_77.2.2.1
theorem d74_82 : decode prog_1_method_3_code 82 = .ok (.getfield 88, 3) := dd74_77.2.2.2.1
theorem d74_85 : decode prog_1_method_3_code 85 = .ok (.ireturn, 1) := dd74_77.2.2.2.2.1
theorem d74_86 : decode prog_1_method_3_code 86 = .ok (.aload_n 3, 1) := dd74_77.2.2.2.2.2.1
theorem d74_87 : decode prog_1_method_3_code 87 = .ok (.getfield 91, 3) := dd74_77.2.2.2.2.2.2.1
theorem d74_90 : decode prog_1_method_3_code 90 = .ok (.ireturn, 1) := dd74_77.2.2.2.2.2.2.2.1
theorem d74_91 : decode prog_1_method_3_code 91 = .ok (.aload_n 0, 1) := dd74_77.2.2.2.2.2.2.2.2.1
theorem d74_92 : decode prog_1_method_3_code 92 = .ok (.getfield 17, 3) := dd74_77.2.2.2.2.2.2.2.2.2.1
theorem d74_95 : decode prog_1_method_3_code 95 = .ok (.getfield 94, 3) := dd74_77.2.2.2.2.2.2.2.2.2.2.1
theorem d74_98 : decode prog_1_method_3_code 98 = .ok (.iload_n 1, 1) := dd74_77.2.2.2.2.2.2.2.2.2.2.2.1
theorem d74_99 : decode prog_1_method_3_code 99 = .ok (.iaload, 1) := dd74_77.2.2.2.2.2.2.2.2.2.2.2.2.1
theorem d74_100 : decode prog_1_method_3_code 100 = .ok (.invokestatic 97, 3) := dd74_77.2.2.2.2.2.2.2.2.2.2.2.2.2.1
theorem d74_103 : decode prog_1_method_3_code 103 = .ok (.ireturn, 1) := dd74_77.2.2.2.2.2.2.2.2.2.2.2.2.2.2.1
theorem d74_104 : decode prog_1_method_3_code 104 = .ok (.aload_n 0, 1) := dd74_77.2.2.2.2.2.2.2.2.2.2.2.2.2.2.2
theorem dd74_105 : (decode prog_1_method_3_code 105 = .ok (.getfield 17, 3)) ∧ (decode prog_1_method_3_code 108 = .ok (.getfield 101, 3)) ∧ (decode prog_1_method_3_code 111 = .ok (.iload_n 1, 1)) ∧ (decode prog_1_method_3_code 112 = .ok (.iaload, 1)) ∧ (decode prog_1_method_3_code 113 = .ok (.ireturn, 1)) ∧ (decode prog_1_method_3_code 114 = .ok (.aload_n 0, 1)) ∧ (decode prog_1_method_3_code 115 = .ok (.getfield 17, 3)) ∧ (decode prog_1_method_3_code 118 = .ok (.iload_n 1, 1)) ∧ (decode prog_1_method_3_code 119 = .ok (.invokevirtual 104, 3)) ∧ (decode prog_1_method_3_code 122 = .ok (.invokestatic 97, 3)) ∧ (decode prog_1_method_3_code 125 = .ok (.ireturn, 1)) ∧ (decode prog_1_method_3_code 126 = .ok (.aload_n 0, 1)) ∧ (decode prog_1_method_3_code 127 = .ok (.getfield 17, 3)) ∧ (decode prog_1_method_3_code 130 = .ok (.iload_n 1, 1)) ∧ (decode prog_1_method_3_code 131 = .ok (.invokevirtual 107, 3)) ∧ (decode prog_1_method_3_code 134 = .ok (.aload_n 0, 1)) := by decide +kernel
theorem d74_105 : decode prog_1_method_3_code 105 = .ok (.getfield 17, 3) := dd74_105.1
theorem d74_108 : decode prog_1_method_3_code 108 = .ok (.getfield 101, 3) := dd74_105.2.1
theorem d74_111 : decode prog_1_method_3_code 111 = .ok (.iload_n 1, 1) := dd74_105.2.2.1
theorem d74_112 : decode prog_1_method_3_code 112 = .ok (.iaload, 1) := dd74_105.2.2.2.1
theorem d74_113 : decode prog_1_method_3_code 113 = .ok (.ireturn, 1) := dd74_105.2.2.2.2.1
theorem d74_114 : decode prog_1_method_3_code 114 = .ok (.aload_n 0, 1) := dd74_105.2.2.2.2.2.1
theorem d74_115 : decode prog_1_method_3_code 115 = .ok (.getfield 17, 3) := dd74_105.2.2.2.2.2.2.1
theorem d74_118 : decode prog_1_method_3_code 118 = .ok (.iload_n 1, 1) := dd74_105.2.2.2.2.2.2.2.1
theorem d74_119 : decode prog_1_method_3_code 119 = .ok (.invokevirtual 104, 3) := dd74_105.2.2.2.2.2.2.2.2.1
theorem d74_122 : decode prog_1_method_3_code 122 = .ok (.invokestatic 97, 3) := dd74_105.2.2.2.2.2.2.2.2.2.1
theorem d74_125 : decode prog_1_method_3_code 125 = .ok (.ireturn, 1) := dd74_105.2.2.2.2.2.2.2.2.2.2.1
theorem d74_126 : decode prog_1_method_3_code 126 = .ok (.aload_n 0, 1) := dd74_105.2.2.2.2.2.2.2.2.2.2.2.1
theorem d74_127 : decode prog_1_method_3_code 127 = .ok (.getfield 17, 3) := dd74_105.2.2.2.2.2.2.2.2.2.2.2.2.1
theorem d74_130 : decode prog_1_method_3_code 130 = .ok (.iload_n 1, 1) := dd74_105.2.2.2.2.2.2.2.2.2.2.2.2.2.1
theorem d74_131 : decode prog_1_method_3_code 131 = .ok (.invokevirtual 107, 3) := dd74_105.2.2.2.2.2.2.2.2.2.2.2.2.2.2.1
theorem d74_134 : decode prog_1_method_3_code 134 = .ok (.aload_n 0, 1) := dd74_105.2.2.2.2.2.2.2.2.2.2.2.2.2.2.2
theorem dd74_135 : (decode prog_1_method_3_code 135 = .ok (.getfield 17, 3)) ∧ (decode prog_1_method_3_code 138 = .ok (.getfield 111, 3)) ∧ (decode prog_1_method_3_code 141 = .ok (.ireturn, 1)) ∧ (decode prog_1_method_3_code 142 = .ok (.aload_n 0, 1)) ∧ (decode prog_1_method_3_code 143 = .ok (.getfield 17, 3)) ∧ (decode prog_1_method_3_code 146 = .ok (.iload_n 1, 1)) ∧ (decode prog_1_method_3_code 147 = .ok (.invokevirtual 107, 3)) ∧ (decode prog_1_method_3_code 150 = .ok (.aload_n 0, 1)) ∧ (decode prog_1_method_3_code 151 = .ok (.getfield 17, 3)) ∧ (decode prog_1_method_3_code 154 = .ok (.getfield 114, 3)) ∧ (decode prog_1_method_3_code 157 = .ok (.ireturn, 1)) ∧ (decode prog_1_method_3_code 158 = .ok (.aload_n 3, 1)) ∧ (decode prog_1_method_3_code 159 = .ok (.getfield 85, 3)) ∧ (decode prog_1_method_3_code 162 = .ok (.bipush 6, 2)) ∧ (decode prog_1_method_3_code 164 = .ok (.if_icmp .ne 11, 3)) ∧ (decode prog_1_method_3_code 167 = .ok (.aload_n 0, 1)) := by decide +kernel
theorem d74_135 : decode prog_1_method_3_code 135 = .ok (.getfield 17, 3) := dd74_135.1
theorem d74_138 : decode prog_1_method_3_code 138 = .ok (.getfield 111, 3) := dd74_135.2.1
theorem d74_141 : decode prog_1_method_3_code 141 = .ok (.ireturn, 1) := dd74_135.2.2.1
theorem d74_142 : decode prog_1_method_3_code 142 = .ok (.aload_n 0, 1) := dd74_135.2.2.2.1
theorem d74_143 : decode prog_1_method_3_code 143 = .ok (.getfield 17, 3) := dd74_135.2.2.2.2.1
theorem d74_146 : decode prog_1_method_3_code 146 = .ok (.iload_n 1, 1) := dd74_135.2.2.2.2.2.1
theorem d74_147 : decode prog_1_method_3_code 147 = .ok (.invokevirtual 107, 3) := dd74_135.2.2.2.2.2.2.1
theorem d74_150 : decode prog_1_method_3_code 150 = .ok (.aload_n 0, 1) := dd74_135.2.2.2.2.2.2.2.1
theorem d74_151 : decode prog_1_method_3_code 151 = .ok (.getfield 17, 3) := dd74_135.2.2.2.2.2.2.2.2.1
theorem d74_154 : decode prog_1_method_3_code 154 = .ok (.getfield 114, 3) := dd74_135.2.2.2.2.2.2.2.2.2.1
theorem d74_157 : decode prog_1_method_3_code 157 = .ok (.ireturn, 1) := dd74_135.2.2.2.2.2.2.2.2.2.2.1
theorem d74_158 : decode prog_1_method_3_code 158 = .ok (.aload_n 3, 1) := dd74_135.2.2.2.2.2.2.2.2.2.2.2.1
theorem d74_159 : decode prog_1_method_3_code 159 = .ok (.getfield 85, 3) := dd74_135.2.2.2.2.2.2.2.2.2.2.2.2.1
theorem d74_162 : decode prog_1_method_3_code 162 = .ok (.bipush 6, 2) := dd74_135.2.2.2.2.2.2.2.2.2.2.2.2.2.1
theorem d74_164 : decode prog_1_method_3_code 164 = .ok (.if_icmp .ne 11, 3) := dd74_135.2.2.2.2.2.2.2.2.2.2.2.2.2.2.1
theorem d74_167 : decode prog_1_method_3_code 167 = .ok (.aload_n 0, 1) := dd74_135.2.2.2.2.2.2.2.2.2.2.2.2.2.2.2
theorem dd74_168 : (decode prog_1_method_3_code 168 = .ok (.iload_n 1, 1)) ∧ (decode prog_1_method_3_code 169 = .ok (.invokevirtual 117, 3)) ∧ (decode prog_1_method_3_code 172 = .ok (.goto 5, 3)) ∧ (decode prog_1_method_3_code 175 = .ok (.bipush (-5), 2)) ∧ (decode prog_1_method_3_code 177 = .ok (.ireturn, 1)) ∧ (decode prog_1_method_3_code 178 = .ok (.sipush (-10001), 3)) ∧ (decode prog_1_method_3_code 181 = .ok (.ireturn, 1)) := by decide +kernel
theorem d74_168 : decode prog_1_method_3_code 168 = .ok (.iload_n 1, 1) := dd74_168.1
theorem d74_169 : decode prog_1_method_3_code 169 = .ok (.invokevirtual 117, 3) := dd74_168.2.1
theorem d74_172 : decode prog_1_method_3_code 172 = .ok (.goto 5, 3) := dd74_168.2.2.1
theorem d74_175 : decode prog_1_method_3_code 175 = .ok (.bipush (-5), 2) := dd74_168.2.2.2.1
theorem d74_177 : decode prog_1_method_3_code 177 = .ok (.ireturn, 1) := dd74_168.2.2.2.2.1
theorem d74_178 : decode prog_1_method_3_code 178 = .ok (.sipush (-10001), 3) := dd74_168.2.2.2.2.2.1
theorem d74_181 : decode prog_1_method_3_code 181 = .ok (.ireturn, 1) := dd74_168.2.2.2.2.2.2
theorem b74_0 {d : Nat} {S : mm_S} {a0 : Nat} {x1 : Int32} {x2 : Int32} (h0 : mm_obj S a0 11 = true) (h1 : (mm_R S a0 0).isSome = true) (h2 : mm_rk S (mm_rg S a0 0) = 1) : mm_ex (d + 1) 74 0 [.ref a0, .int x1, .int x2, .null] [] S =
    mm_bd (mm_cl d 8 [.ref (mm_rg S a0 0), .int x1] S) (fun v S2 => mm_ex (d + 1) 74 8 [.ref a0, .int x1, .int x2, .null] (v.toList ++ []) S2) :=
  Eq.trans (mx_aload_n t74 d74_0 (x := a0) rfl) <|
  Eq.trans (mx_getR t74 d74_1 rfl fl11_17 h0 h1) <|
  Eq.trans (mx_iload_n t74 d74_4 (x := x1) rfl) <|
  (mx_virt (st := []) (k := 1) t74 [.int x1] d74_5 vt11_77 rfl rfl (Nat.le_of_ble_eq_true rfl) (Nat.le_of_ble_eq_true rfl) h2)
theorem b74_8 {d : Nat} {S : mm_S} {a0 : Nat} {x1 : Int32} {x2 : Int32} {p0 : Int32} : mm_ex d 74 8 [.ref a0, .int x1, .int x2, .null] [.int p0] S =
    if p0 = nI 0 then mm_ex d 74 11 [.ref a0, .int x1, .int x2, .null] [] S else mm_ex d 74 15 [.ref a0, .int x1, .int x2, .null] [] S :=
  (mx_ine t74 d74_8 (tgt := 15) (by decide))
theorem b74_11 {d : Nat} {S : mm_S} {a0 : Nat} {x1 : Int32} {x2 : Int32} : mm_ex d 74 11 [.ref a0, .int x1, .int x2, .null] [] S =
    some (some (.int (-10001)), S) :=
  Eq.trans (mx_sipush t74 d74_11 (v := -10001) rfl) <|
  (mx_iret t74 d74_14 (ty := .int) rfl rfl (fun h => nomatch h))
theorem b74_15 {d : Nat} {S : mm_S} {a0 : Nat} {x1 : Int32} {x2 : Int32} (h0 : mm_obj S a0 11 = true) (h1 : (mm_R S a0 0).isSome = true) (h2 : mm_obj S (mm_rg S a0 0) 1 = true) (h3 : (mm_R S (mm_rg S a0 0) 0).isSome = true) (h4 : mm_inb x1 (mm_N S (mm_rg S (mm_rg S a0 0) 0)) = true) (h5 : (mm_arr S (mm_rg S (mm_rg S a0 0) 0) 16 || mm_arr S (mm_rg S (mm_rg S a0 0) 0) 17 || mm_arr S (mm_rg S (mm_rg S a0 0) 0) 18) = true) (h6 : (mm_R S (mm_rg S (mm_rg S a0 0) 0) (x1).toNatClampNeg).isSome = true) : mm_ex d 74 15 [.ref a0, .int x1, .int x2, .null] [] S =
    mm_ex d 74 26 [.ref a0, .int x1, .int x2, .ref (mm_rg S (mm_rg S (mm_rg S a0 0) 0) (x1).toNatClampNeg)] [.int x2] S :=
  Eq.trans (mx_aload_n t74 d74_15 (x := a0) rfl) <|
  Eq.trans (mx_getR t74 d74_16 rfl fl11_17 h0 h1) <|
  Eq.trans (mx_getR t74 d74_19 rfl fl11_81 h2 h3) <|
  Eq.trans (mx_iload_n t74 d74_22 (x := x1) rfl) <|
  Eq.trans (mx_qaldR t74 d74_23 h5 h4 h6) <|
  Eq.trans (mx_astore_n t74 d74_24 (ls' := [.ref a0, .int x1, .int x2, .ref (mm_rg S (mm_rg S (mm_rg S a0 0) 0) (x1).toNatClampNeg)]) rfl rfl) <|
  (mx_iload_n t74 d74_25 (x := x2) rfl)
theorem b74_26 {d : Nat} {S : mm_S} {a0 : Nat} {x1 : Int32} {x2 : Int32} {a3 : Nat} {p0 : Int32} : mm_ex d 74 26 [.ref a0, .int x1, .int x2, .ref a3] [.int p0] S =
    if p0 = nI 0 then mm_ex d 74 76 [.ref a0, .int x1, .int x2, .ref a3] [] S else if p0 = nI 1 then mm_ex d 74 81 [.ref a0, .int x1, .int x2, .ref a3] [] S else if p0 = nI 2 then mm_ex d 74 86 [.ref a0, .int x1, .int x2, .ref a3] [] S else if p0 = nI 3 then mm_ex d 74 91 [.ref a0, .int x1, .int x2, .ref a3] [] S else if p0 = nI 4 then mm_ex d 74 104 [.ref a0, .int x1, .int x2, .ref a3] [] S else if p0 = nI 5 then mm_ex d 74 114 [.ref a0, .int x1, .int x2, .ref a3] [] S else if p0 = nI 6 then mm_ex d 74 126 [.ref a0, .int x1, .int x2, .ref a3] [] S else if p0 = nI 7 then mm_ex d 74 142 [.ref a0, .int x1, .int x2, .ref a3] [] S else if p0 = nI 8 then mm_ex d 74 158 [.ref a0, .int x1, .int x2, .ref a3] [] S else mm_ex d 74 178 [.ref a0, .int x1, .int x2, .ref a3] [] S := by
  by_cases e0 : p0 = nI 0
  · subst e0
    rw [if_pos rfl]
    exact mx_tswI t74 d74_26 (by decide) (off := 50) (by decide) (by decide)
  by_cases e1 : p0 = nI 1
  · subst e1
    rw [if_neg (by decide), if_pos rfl]
    exact mx_tswI t74 d74_26 (by decide) (off := 55) (by decide) (by decide)
  by_cases e2 : p0 = nI 2
  · subst e2
    rw [if_neg (by decide), if_neg (by decide), if_pos rfl]
    exact mx_tswI t74 d74_26 (by decide) (off := 60) (by decide) (by decide)
  by_cases e3 : p0 = nI 3
  · subst e3
    rw [if_neg (by decide), if_neg (by decide), if_neg (by decide), if_pos rfl]
    exact mx_tswI t74 d74_26 (by decide) (off := 65) (by decide) (by decide)
  by_cases e4 : p0 = nI 4
  · subst e4
    rw [if_neg (by decide), if_neg (by decide), if_neg (by decide), if_neg (by decide), if_pos rfl]
    exact mx_tswI t74 d74_26 (by decide) (off := 78) (by decide) (by decide)
  by_cases e5 : p0 = nI 5
  · subst e5
    rw [if_neg (by decide), if_neg (by decide), if_neg (by decide), if_neg (by decide), if_neg (by decide), if_pos rfl]
    exact mx_tswI t74 d74_26 (by decide) (off := 88) (by decide) (by decide)
  by_cases e6 : p0 = nI 6
  · subst e6
    rw [if_neg (by decide), if_neg (by decide), if_neg (by decide), if_neg (by decide), if_neg (by decide), if_neg (by decide), if_pos rfl]
    exact mx_tswI t74 d74_26 (by decide) (off := 100) (by decide) (by decide)
  by_cases e7 : p0 = nI 7
  · subst e7
    rw [if_neg (by decide), if_neg (by decide), if_neg (by decide), if_neg (by decide), if_neg (by decide), if_neg (by decide), if_neg (by decide), if_pos rfl]
    exact mx_tswI t74 d74_26 (by decide) (off := 116) (by decide) (by decide)
  by_cases e8 : p0 = nI 8
  · subst e8
    rw [if_neg (by decide), if_neg (by decide), if_neg (by decide), if_neg (by decide), if_neg (by decide), if_neg (by decide), if_neg (by decide), if_neg (by decide), if_pos rfl]
    exact mx_tswI t74 d74_26 (by decide) (off := 132) (by decide) (by decide)
  rw [if_neg e0, if_neg e1, if_neg e2, if_neg e3, if_neg e4, if_neg e5, if_neg e6, if_neg e7, if_neg e8]
  have g0 := mm_ni32 e0
  have g1 := mm_ni32 e1
  have g2 := mm_ni32 e2
  have g3 := mm_ni32 e3
  have g4 := mm_ni32 e4
  have g5 := mm_ni32 e5
  have g6 := mm_ni32 e6
  have g7 := mm_ni32 e7
  have g8 := mm_ni32 e8
  rw [show (nI 0 : Int32).toInt = 0 by decide] at g0
  rw [show (nI 1 : Int32).toInt = 1 by decide] at g1
  rw [show (nI 2 : Int32).toInt = 2 by decide] at g2
  rw [show (nI 3 : Int32).toInt = 3 by decide] at g3
  rw [show (nI 4 : Int32).toInt = 4 by decide] at g4
  rw [show (nI 5 : Int32).toInt = 5 by decide] at g5
  rw [show (nI 6 : Int32).toInt = 6 by decide] at g6
  rw [show (nI 7 : Int32).toInt = 7 by decide] at g7
  rw [show (nI 8 : Int32).toInt = 8 by decide] at g8
  exact mx_tswD t74 d74_26 (by omega) (by decide)
theorem b74_76 {d : Nat} {S : mm_S} {a0 : Nat} {x1 : Int32} {x2 : Int32} {a3 : Nat} (h0 : mm_obj S a3 0 = true) : mm_ex d 74 76 [.ref a0, .int x1, .int x2, .ref a3] [] S =
    some (some (.int (mm_M S a3 0)), S) :=
  Eq.trans (mx_aload_n t74 d74_76 (x := a3) rfl) <|
  Eq.trans (mx_geti t74 d74_77 rfl fl11_85 h0) <|
  (mx_iret t74 d74_80 (ty := .int) rfl rfl (fun h => nomatch h))
theorem b74_81 {d : Nat} {S : mm_S} {a0 : Nat} {x1 : Int32} {x2 : Int32} {a3 : Nat} (h0 : mm_obj S a3 0 = true) : mm_ex d 74 81 [.ref a0, .int x1, .int x2, .ref a3] [] S =
    some (some (.int (mm_M S a3 2)), S) :=
  Eq.trans (mx_aload_n t74 d74_81 (x := a3) rfl) <|
  Eq.trans (mx_geti t74 d74_82 rfl fl11_88 h0) <|
  (mx_iret t74 d74_85 (ty := .int) rfl rfl (fun h => nomatch h))
theorem b74_86 {d : Nat} {S : mm_S} {a0 : Nat} {x1 : Int32} {x2 : Int32} {a3 : Nat} (h0 : mm_obj S a3 0 = true) : mm_ex d 74 86 [.ref a0, .int x1, .int x2, .ref a3] [] S =
    some (some (.int (mm_M S a3 3)), S) :=
  Eq.trans (mx_aload_n t74 d74_86 (x := a3) rfl) <|
  Eq.trans (mx_geti t74 d74_87 rfl fl11_91 h0) <|
  (mx_iret t74 d74_90 (ty := .int) rfl rfl (fun h => nomatch h))
theorem b74_91 {d : Nat} {S : mm_S} {a0 : Nat} {x1 : Int32} {x2 : Int32} {a3 : Nat} (h0 : mm_obj S a0 11 = true) (h1 : (mm_R S a0 0).isSome = true) (h2 : mm_obj S (mm_rg S a0 0) 1 = true) (h3 : (mm_R S (mm_rg S a0 0) 1).isSome = true) (h4 : mm_inb x1 (mm_N S (mm_rg S (mm_rg S a0 0) 1)) = true) (h5 : mm_arr S (mm_rg S (mm_rg S a0 0) 1) 13 = true) : mm_ex (d + 1) 74 91 [.ref a0, .int x1, .int x2, .ref a3] [] S =
    mm_bd (mm_cl d 108 [.int (mm_M S (mm_rg S (mm_rg S a0 0) 1) (x1).toNatClampNeg)] S) (fun v S2 => mm_ex (d + 1) 74 103 [.ref a0, .int x1, .int x2, .ref a3] (v.toList ++ []) S2) :=
  Eq.trans (mx_aload_n t74 d74_91 (x := a0) rfl) <|
  Eq.trans (mx_getR t74 d74_92 rfl fl11_17 h0 h1) <|
  Eq.trans (mx_getR t74 d74_95 rfl fl11_94 h2 h3) <|
  Eq.trans (mx_iload_n t74 d74_98 (x := x1) rfl) <|
  Eq.trans (mx_iald t74 d74_99 h5 h4) <|
  (mx_stat (st := []) t74 [.int (mm_M S (mm_rg S (mm_rg S a0 0) 1) (x1).toNatClampNeg)] d74_100 acn11_97 mxn11_97 st11_97 rfl (Nat.le_of_ble_eq_true rfl) (Nat.le_of_ble_eq_true rfl))
theorem b74_103 {d : Nat} {S : mm_S} {a0 : Nat} {x1 : Int32} {x2 : Int32} {a3 : Nat} {p0 : Int32} : mm_ex d 74 103 [.ref a0, .int x1, .int x2, .ref a3] [.int p0] S =
    some (some (.int p0), S) :=
  (mx_iret t74 d74_103 (ty := .int) rfl rfl (fun h => nomatch h))
theorem b74_104 {d : Nat} {S : mm_S} {a0 : Nat} {x1 : Int32} {x2 : Int32} {a3 : Nat} (h0 : mm_obj S a0 11 = true) (h1 : (mm_R S a0 0).isSome = true) (h2 : mm_obj S (mm_rg S a0 0) 1 = true) (h3 : (mm_R S (mm_rg S a0 0) 3).isSome = true) (h4 : mm_inb x1 (mm_N S (mm_rg S (mm_rg S a0 0) 3)) = true) (h5 : mm_arr S (mm_rg S (mm_rg S a0 0) 3) 13 = true) : mm_ex d 74 104 [.ref a0, .int x1, .int x2, .ref a3] [] S =
    some (some (.int (mm_M S (mm_rg S (mm_rg S a0 0) 3) (x1).toNatClampNeg)), S) :=
  Eq.trans (mx_aload_n t74 d74_104 (x := a0) rfl) <|
  Eq.trans (mx_getR t74 d74_105 rfl fl11_17 h0 h1) <|
  Eq.trans (mx_getR t74 d74_108 rfl fl11_101 h2 h3) <|
  Eq.trans (mx_iload_n t74 d74_111 (x := x1) rfl) <|
  Eq.trans (mx_iald t74 d74_112 h5 h4) <|
  (mx_iret t74 d74_113 (ty := .int) rfl rfl (fun h => nomatch h))
theorem b74_114 {d : Nat} {S : mm_S} {a0 : Nat} {x1 : Int32} {x2 : Int32} {a3 : Nat} (h0 : mm_obj S a0 11 = true) (h1 : (mm_R S a0 0).isSome = true) (h2 : mm_rk S (mm_rg S a0 0) = 1) : mm_ex (d + 1) 74 114 [.ref a0, .int x1, .int x2, .ref a3] [] S =
    mm_bd (mm_cl d 12 [.ref (mm_rg S a0 0), .int x1] S) (fun v S2 => mm_ex (d + 1) 74 122 [.ref a0, .int x1, .int x2, .ref a3] (v.toList ++ []) S2) :=
  Eq.trans (mx_aload_n t74 d74_114 (x := a0) rfl) <|
  Eq.trans (mx_getR t74 d74_115 rfl fl11_17 h0 h1) <|
  Eq.trans (mx_iload_n t74 d74_118 (x := x1) rfl) <|
  (mx_virt (st := []) (k := 1) t74 [.int x1] d74_119 vt11_104 rfl rfl (Nat.le_of_ble_eq_true rfl) (Nat.le_of_ble_eq_true rfl) h2)
theorem b74_122 {d : Nat} {S : mm_S} {a0 : Nat} {x1 : Int32} {x2 : Int32} {a3 : Nat} {p0 : Int32} : mm_ex (d + 1) 74 122 [.ref a0, .int x1, .int x2, .ref a3] [.int p0] S =
    mm_bd (mm_cl d 108 [.int p0] S) (fun v S2 => mm_ex (d + 1) 74 125 [.ref a0, .int x1, .int x2, .ref a3] (v.toList ++ []) S2) :=
  (mx_stat (st := []) t74 [.int p0] d74_122 acn11_97 mxn11_97 st11_97 rfl (Nat.le_of_ble_eq_true rfl) (Nat.le_of_ble_eq_true rfl))
theorem b74_125 {d : Nat} {S : mm_S} {a0 : Nat} {x1 : Int32} {x2 : Int32} {a3 : Nat} {p0 : Int32} : mm_ex d 74 125 [.ref a0, .int x1, .int x2, .ref a3] [.int p0] S =
    some (some (.int p0), S) :=
  (mx_iret t74 d74_125 (ty := .int) rfl rfl (fun h => nomatch h))
theorem b74_126 {d : Nat} {S : mm_S} {a0 : Nat} {x1 : Int32} {x2 : Int32} {a3 : Nat} (h0 : mm_obj S a0 11 = true) (h1 : (mm_R S a0 0).isSome = true) (h2 : mm_rk S (mm_rg S a0 0) = 1) : mm_ex (d + 1) 74 126 [.ref a0, .int x1, .int x2, .ref a3] [] S =
    mm_bd (mm_cl d 19 [.ref (mm_rg S a0 0), .int x1] S) (fun v S2 => mm_ex (d + 1) 74 134 [.ref a0, .int x1, .int x2, .ref a3] (v.toList ++ []) S2) :=
  Eq.trans (mx_aload_n t74 d74_126 (x := a0) rfl) <|
  Eq.trans (mx_getR t74 d74_127 rfl fl11_17 h0 h1) <|
  Eq.trans (mx_iload_n t74 d74_130 (x := x1) rfl) <|
  (mx_virt (st := []) (k := 1) t74 [.int x1] d74_131 vt11_107 rfl rfl (Nat.le_of_ble_eq_true rfl) (Nat.le_of_ble_eq_true rfl) h2)
theorem b74_134 {d : Nat} {S : mm_S} {a0 : Nat} {x1 : Int32} {x2 : Int32} {a3 : Nat} (h0 : mm_obj S a0 11 = true) (h1 : (mm_R S a0 0).isSome = true) (h2 : mm_obj S (mm_rg S a0 0) 1 = true) : mm_ex d 74 134 [.ref a0, .int x1, .int x2, .ref a3] [] S =
    some (some (.int (mm_M S (mm_rg S a0 0) 18)), S) :=
  Eq.trans (mx_aload_n t74 d74_134 (x := a0) rfl) <|
  Eq.trans (mx_getR t74 d74_135 rfl fl11_17 h0 h1) <|
  Eq.trans (mx_geti t74 d74_138 rfl fl11_111 h2) <|
  (mx_iret t74 d74_141 (ty := .int) rfl rfl (fun h => nomatch h))
theorem b74_142 {d : Nat} {S : mm_S} {a0 : Nat} {x1 : Int32} {x2 : Int32} {a3 : Nat} (h0 : mm_obj S a0 11 = true) (h1 : (mm_R S a0 0).isSome = true) (h2 : mm_rk S (mm_rg S a0 0) = 1) : mm_ex (d + 1) 74 142 [.ref a0, .int x1, .int x2, .ref a3] [] S =
    mm_bd (mm_cl d 19 [.ref (mm_rg S a0 0), .int x1] S) (fun v S2 => mm_ex (d + 1) 74 150 [.ref a0, .int x1, .int x2, .ref a3] (v.toList ++ []) S2) :=
  Eq.trans (mx_aload_n t74 d74_142 (x := a0) rfl) <|
  Eq.trans (mx_getR t74 d74_143 rfl fl11_17 h0 h1) <|
  Eq.trans (mx_iload_n t74 d74_146 (x := x1) rfl) <|
  (mx_virt (st := []) (k := 1) t74 [.int x1] d74_147 vt11_107 rfl rfl (Nat.le_of_ble_eq_true rfl) (Nat.le_of_ble_eq_true rfl) h2)
theorem b74_150 {d : Nat} {S : mm_S} {a0 : Nat} {x1 : Int32} {x2 : Int32} {a3 : Nat} (h0 : mm_obj S a0 11 = true) (h1 : (mm_R S a0 0).isSome = true) (h2 : mm_obj S (mm_rg S a0 0) 1 = true) : mm_ex d 74 150 [.ref a0, .int x1, .int x2, .ref a3] [] S =
    some (some (.int (mm_M S (mm_rg S a0 0) 19)), S) :=
  Eq.trans (mx_aload_n t74 d74_150 (x := a0) rfl) <|
  Eq.trans (mx_getR t74 d74_151 rfl fl11_17 h0 h1) <|
  Eq.trans (mx_geti t74 d74_154 rfl fl11_114 h2) <|
  (mx_iret t74 d74_157 (ty := .int) rfl rfl (fun h => nomatch h))
theorem b74_158 {d : Nat} {S : mm_S} {a0 : Nat} {x1 : Int32} {x2 : Int32} {a3 : Nat} (h0 : mm_obj S a3 0 = true) : mm_ex d 74 158 [.ref a0, .int x1, .int x2, .ref a3] [] S =
    if (mm_M S a3 0) = (nI 6) then mm_ex d 74 167 [.ref a0, .int x1, .int x2, .ref a3] [] S else mm_ex d 74 175 [.ref a0, .int x1, .int x2, .ref a3] [] S :=
  Eq.trans (mx_aload_n t74 d74_158 (x := a3) rfl) <|
  Eq.trans (mx_geti t74 d74_159 rfl fl11_85 h0) <|
  Eq.trans (mx_bipush t74 d74_162 (v := nI 6) rfl) <|
  (mx_cne t74 d74_164 (tgt := 175) (by decide))
theorem b74_167 {d : Nat} {S : mm_S} {a0 : Nat} {x1 : Int32} {x2 : Int32} {a3 : Nat} (h0 : mm_rk S a0 = 11) : mm_ex (d + 1) 74 167 [.ref a0, .int x1, .int x2, .ref a3] [] S =
    mm_bd (mm_cl d 110 [.ref a0, .int x1] S) (fun v S2 => mm_ex (d + 1) 74 172 [.ref a0, .int x1, .int x2, .ref a3] (v.toList ++ []) S2) :=
  Eq.trans (mx_aload_n t74 d74_167 (x := a0) rfl) <|
  Eq.trans (mx_iload_n t74 d74_168 (x := x1) rfl) <|
  (mx_virt (st := []) (k := 11) t74 [.int x1] d74_169 vt11_117 rfl rfl (Nat.le_of_ble_eq_true rfl) (Nat.le_of_ble_eq_true rfl) h0)
theorem b74_172 {d : Nat} {S : mm_S} {a0 : Nat} {x1 : Int32} {x2 : Int32} {a3 : Nat} {p0 : Int32} : mm_ex d 74 172 [.ref a0, .int x1, .int x2, .ref a3] [.int p0] S =
    some (some (.int p0), S) :=
  Eq.trans (mx_goto t74 d74_172 (tgt := 177) (by decide)) <|
  (mx_iret t74 d74_177 (ty := .int) rfl rfl (fun h => nomatch h))
theorem b74_175 {d : Nat} {S : mm_S} {a0 : Nat} {x1 : Int32} {x2 : Int32} {a3 : Nat} : mm_ex d 74 175 [.ref a0, .int x1, .int x2, .ref a3] [] S =
    some (some (.int (-5)), S) :=
  Eq.trans (mx_bipush t74 d74_175 (v := -5) rfl) <|
  (mx_iret t74 d74_177 (ty := .int) rfl rfl (fun h => nomatch h))
theorem b74_178 {d : Nat} {S : mm_S} {a0 : Nat} {x1 : Int32} {x2 : Int32} {a3 : Nat} : mm_ex d 74 178 [.ref a0, .int x1, .int x2, .ref a3] [] S =
    some (some (.int (-10001)), S) :=
  Eq.trans (mx_sipush t74 d74_178 (v := -10001) rfl) <|
  (mx_iret t74 d74_181 (ty := .int) rfl rfl (fun h => nomatch h))
theorem e74 {d : Nat} {S : mm_S} {a0 : Nat} {x1 : Int32} {x2 : Int32} : mm_cl d 74 [.ref a0, .int x1, .int x2] S = mm_ex d 74 0 [.ref a0, .int x1, .int x2, .null] [] S := mm_cl_eq t74 (Nat.le_of_ble_eq_true rfl) rfl
/-! X11_gained -/
theorem d75_0 : decode prog_1_method_4_code 0 = .ok (.aload_n 0, 1) := by decide +kernel
theorem d75_1 : decode prog_1_method_4_code 1 = .ok (.getfield 17, 3) := by decide +kernel
theorem d75_4 : decode prog_1_method_4_code 4 = .ok (.iload_n 1, 1) := by decide +kernel
theorem d75_5 : decode prog_1_method_4_code 5 = .ok (.invokevirtual 77, 3) := by decide +kernel
theorem d75_8 : decode prog_1_method_4_code 8 = .ok (.ifCond .eq 15, 3) := by decide +kernel
theorem d75_11 : decode prog_1_method_4_code 11 = .ok (.aload_n 0, 1) := by decide +kernel
theorem d75_12 : decode prog_1_method_4_code 12 = .ok (.getfield 17, 3) := by decide +kernel
theorem d75_15 : decode prog_1_method_4_code 15 = .ok (.getfield 120, 3) := by decide +kernel
theorem d75_18 : decode prog_1_method_4_code 18 = .ok (.iload_n 1, 1) := by decide +kernel
theorem d75_19 : decode prog_1_method_4_code 19 = .ok (.iaload, 1) := by decide +kernel
theorem d75_20 : decode prog_1_method_4_code 20 = .ok (.goto 5, 3) := by decide +kernel
theorem d75_23 : decode prog_1_method_4_code 23 = .ok (.ldc 123, 2) := by decide +kernel
theorem d75_25 : decode prog_1_method_4_code 25 = .ok (.ireturn, 1) := by decide +kernel
theorem b75_0 {d : Nat} {S : mm_S} {a0 : Nat} {x1 : Int32} (h0 : mm_obj S a0 11 = true) (h1 : (mm_R S a0 0).isSome = true) (h2 : mm_rk S (mm_rg S a0 0) = 1) : mm_ex (d + 1) 75 0 [.ref a0, .int x1] [] S =
    mm_bd (mm_cl d 8 [.ref (mm_rg S a0 0), .int x1] S) (fun v S2 => mm_ex (d + 1) 75 8 [.ref a0, .int x1] (v.toList ++ []) S2) :=
  Eq.trans (mx_aload_n t75 d75_0 (x := a0) rfl) <|
  Eq.trans (mx_getR t75 d75_1 rfl fl11_17 h0 h1) <|
  Eq.trans (mx_iload_n t75 d75_4 (x := x1) rfl) <|
  (mx_virt (st := []) (k := 1) t75 [.int x1] d75_5 vt11_77 rfl rfl (Nat.le_of_ble_eq_true rfl) (Nat.le_of_ble_eq_true rfl) h2)
theorem b75_8 {d : Nat} {S : mm_S} {a0 : Nat} {x1 : Int32} {p0 : Int32} : mm_ex d 75 8 [.ref a0, .int x1] [.int p0] S =
    if p0 = nI 0 then mm_ex d 75 23 [.ref a0, .int x1] [] S else mm_ex d 75 11 [.ref a0, .int x1] [] S :=
  (mx_ieq t75 d75_8 (tgt := 23) (by decide))
theorem b75_11 {d : Nat} {S : mm_S} {a0 : Nat} {x1 : Int32} (h0 : mm_obj S a0 11 = true) (h1 : (mm_R S a0 0).isSome = true) (h2 : mm_obj S (mm_rg S a0 0) 1 = true) (h3 : (mm_R S (mm_rg S a0 0) 4).isSome = true) (h4 : mm_inb x1 (mm_N S (mm_rg S (mm_rg S a0 0) 4)) = true) (h5 : mm_arr S (mm_rg S (mm_rg S a0 0) 4) 13 = true) : mm_ex d 75 11 [.ref a0, .int x1] [] S =
    some (some (.int (mm_M S (mm_rg S (mm_rg S a0 0) 4) (x1).toNatClampNeg)), S) :=
  Eq.trans (mx_aload_n t75 d75_11 (x := a0) rfl) <|
  Eq.trans (mx_getR t75 d75_12 rfl fl11_17 h0 h1) <|
  Eq.trans (mx_getR t75 d75_15 rfl fl11_120 h2 h3) <|
  Eq.trans (mx_iload_n t75 d75_18 (x := x1) rfl) <|
  Eq.trans (mx_iald t75 d75_19 h5 h4) <|
  Eq.trans (mx_goto t75 d75_20 (tgt := 25) (by decide)) <|
  (mx_iret t75 d75_25 (ty := .int) rfl rfl (fun h => nomatch h))
theorem b75_23 {d : Nat} {S : mm_S} {a0 : Nat} {x1 : Int32} : mm_ex d 75 23 [.ref a0, .int x1] [] S =
    some (some (.int (-100001)), S) :=
  Eq.trans (mx_ldc t75 d75_23 (v := .int (-100001)) lc11_123) <|
  (mx_iret t75 d75_25 (ty := .int) rfl rfl (fun h => nomatch h))
theorem e75 {d : Nat} {S : mm_S} {a0 : Nat} {x1 : Int32} : mm_cl d 75 [.ref a0, .int x1] S = mm_ex d 75 0 [.ref a0, .int x1] [] S := mm_cl_eq t75 (Nat.le_of_ble_eq_true rfl) rfl
/-! X11_friend -/
theorem dd76_0 : (decode prog_1_method_5_code 0 = .ok (.iload_n 2, 1)) ∧ (decode prog_1_method_5_code 1 = .ok (.iconst (-1), 1)) ∧ (decode prog_1_method_5_code 2 = .ok (.if_icmp .ne 7, 3)) ∧ (decode prog_1_method_5_code 5 = .ok (.iconst 1, 1)) ∧ (decode prog_1_method_5_code 6 = .ok (.goto 4, 3)) ∧ (decode prog_1_method_5_code 9 = .ok (.iconst 0, 1)) ∧ (decode prog_1_method_5_code 10 = .ok (.istore_n 3, 1)) ∧ (decode prog_1_method_5_code 11 = .ok (.aload_n 0, 1)) ∧ (decode prog_1_method_5_code 12 = .ok (.getfield 17, 3)) ∧ (decode prog_1_method_5_code 15 = .ok (.iload_n 1, 1)) ∧ (decode prog_1_method_5_code 16 = .ok (.invokevirtual 77, 3)) ∧ (decode prog_1_method_5_code 19 = .ok (.ifCond .eq 18, 3)) ∧ (decode prog_1_method_5_code 22 = .ok (.iload_n 3, 1)) ∧ (decode prog_1_method_5_code 23 = .ok (.ifCond .ne 16, 3)) ∧ (decode prog_1_method_5_code 26 = .ok (.aload_n 0, 1)) ∧ (decode prog_1_method_5_code 27 = .ok (.getfield 17, 3)) := by decide +kernel
theorem d76_0 : decode prog_1_method_5_code 0 = .ok (.iload_n 2, 1) := dd76_0.1
theorem d76_1 : decode prog_1_method_5_code 1 = .ok (.iconst (-1), 1) := dd76_0.2.1
theorem d76_2 : decode prog_1_method_5_code 2 = .ok (.if_icmp .ne 7, 3) := dd76_0.2.2.1
theorem d76_5 : decode prog_1_method_5_code 5 = .ok (.iconst 1, 1) := dd76_0.2.2.2.1
theorem d76_6 : decode prog_1_method_5_code 6 = .ok (.goto 4, 3) := dd76_0.2.2.2.2.1
theorem d76_9 : decode prog_1_method_5_code 9 = .ok (.iconst 0, 1) := dd76_0.2.2.2.2.2.1
theorem d76_10 : decode prog_1_method_5_code 10 = .ok (.istore_n 3, 1) := dd76_0.2.2.2.2.2.2.1
theorem d76_11 : decode prog_1_method_5_code 11 = .ok (.aload_n 0, 1) := dd76_0.2.2.2.2.2.2.2.1
theorem d76_12 : decode prog_1_method_5_code 12 = .ok (.getfield 17, 3) := dd76_0.2.2.2.2.2.2.2.2.1
theorem d76_15 : decode prog_1_method_5_code 15 = .ok (.iload_n 1, 1) := dd76_0.2.2.2.2.2.2.2.2.2.1
theorem d76_16 : decode prog_1_method_5_code 16 = .ok (.invokevirtual 77, 3) := dd76_0.2.2.2.2.2.2.2.2.2.2.1
theorem d76_19 : decode prog_1_method_5_code 19 = .ok (.ifCond .eq 18, 3) := dd76_0.2.2.2.2.2.2.2.2.2.2.2.1
theorem d76_22 : decode prog_1_method_5_code 22 = .ok (.iload_n 3, 1) := dd76_0.2.2.2.2.2.2.2.2.2.2.2.2.1
theorem d76_23 : decode prog_1_method_5_code 23 = .ok (.ifCond .ne 16, 3) := dd76_0.2.2.2.2.2.2.2.2.2.2.2.2.2.1
theorem d76_26 : decode prog_1_method_5_code 26 = .ok (.aload_n 0, 1) := dd76_0.2.2.2.2.2.2.2.2.2.2.2.2.2.2.1
theorem d76_27 : decode prog_1_method_5_code 27 = .ok (.getfield 17, 3) := dd76_0.2.2.2.2.2.2.2.2.2.2.2.2.2.2.2
theorem dd76_30 : (decode prog_1_method_5_code 30 = .ok (.iload_n 2, 1)) ∧ (decode prog_1_method_5_code 31 = .ok (.invokevirtual 77, 3)) ∧ (decode prog_1_method_5_code 34 = .ok (.ifCond .ne 5, 3)) ∧ (decode prog_1_method_5_code 37 = .ok (.iconst (-1), 1)) ∧ (decode prog_1_method_5_code 38 = .ok (.ireturn, 1)) ∧ (decode prog_1_method_5_code 39 = .ok (.iload_n 2, 1)) ∧ (decode prog_1_method_5_code 40 = .ok (.iload_n 1, 1)) ∧ (decode prog_1_method_5_code 41 = .ok (.if_icmp .ne 6, 3)) ∧ (decode prog_1_method_5_code 44 = .ok (.bipush (-2), 2)) ∧ (decode prog_1_method_5_code 46 = .ok (.ireturn, 1)) ∧ (decode prog_1_method_5_code 47 = .ok (.aload_n 0, 1)) ∧ (decode prog_1_method_5_code 48 = .ok (.getfield 17, 3)) ∧ (decode prog_1_method_5_code 51 = .ok (.getfield 94, 3)) ∧ (decode prog_1_method_5_code 54 = .ok (.iload_n 1, 1)) ∧ (decode prog_1_method_5_code 55 = .ok (.iaload, 1)) ∧ (decode prog_1_method_5_code 56 = .ok (.invokestatic 97, 3)) := by decide +kernel
theorem d76_30 : decode prog_1_method_5_code 30 = .ok (.iload_n 2, 1) := dd76_30.1
theorem d76_31 : decode prog_1_method_5_code 31 = .ok (.invokevirtual 77, 3) := dd76_30.2.1
theorem d76_34 : decode prog_1_method_5_code 34 = .ok (.ifCond .ne 5, 3) := dd76_30.2.2.1
theorem d76_37 : decode prog_1_method_5_code 37 = .ok (.iconst (-1), 1) := dd76_30.2.2.2.1
theorem d76_38 : decode prog_1_method_5_code 38 = .ok (.ireturn, 1) := dd76_30.2.2.2.2.1
theorem d76_39 : decode prog_1_method_5_code 39 = .ok (.iload_n 2, 1) := dd76_30.2.2.2.2.2.1
theorem d76_40 : decode prog_1_method_5_code 40 = .ok (.iload_n 1, 1) := dd76_30.2.2.2.2.2.2.1
theorem d76_41 : decode prog_1_method_5_code 41 = .ok (.if_icmp .ne 6, 3) := dd76_30.2.2.2.2.2.2.2.1
theorem d76_44 : decode prog_1_method_5_code 44 = .ok (.bipush (-2), 2) := dd76_30.2.2.2.2.2.2.2.2.1
theorem d76_46 : decode prog_1_method_5_code 46 = .ok (.ireturn, 1) := dd76_30.2.2.2.2.2.2.2.2.2.1
theorem d76_47 : decode prog_1_method_5_code 47 = .ok (.aload_n 0, 1) := dd76_30.2.2.2.2.2.2.2.2.2.2.1
theorem d76_48 : decode prog_1_method_5_code 48 = .ok (.getfield 17, 3) := dd76_30.2.2.2.2.2.2.2.2.2.2.2.1
theorem d76_51 : decode prog_1_method_5_code 51 = .ok (.getfield 94, 3) := dd76_30.2.2.2.2.2.2.2.2.2.2.2.2.1
theorem d76_54 : decode prog_1_method_5_code 54 = .ok (.iload_n 1, 1) := dd76_30.2.2.2.2.2.2.2.2.2.2.2.2.2.1
theorem d76_55 : decode prog_1_method_5_code 55 = .ok (.iaload, 1) := dd76_30.2.2.2.2.2.2.2.2.2.2.2.2.2.2.1
theorem d76_56 : decode prog_1_method_5_code 56 = .ok (.invokestatic 97, 3) := dd76_30.2.2.2.2.2.2.2.2.2.2.2.2.2.2.2
theorem dd76_59 : (decode prog_1_method_5_code 59 = .ok (.istore 4, 2)) ∧ (decode prog_1_method_5_code 61 = .ok (.aload_n 0, 1)) ∧ (decode prog_1_method_5_code 62 = .ok (.getfield 17, 3)) ∧ (decode prog_1_method_5_code 65 = .ok (.getfield 94, 3)) ∧ (decode prog_1_method_5_code 68 = .ok (.iload_n 1, 1)) ∧ (decode prog_1_method_5_code 69 = .ok (.iload_n 2, 1)) ∧ (decode prog_1_method_5_code 70 = .ok (.iastore, 1)) ∧ (decode prog_1_method_5_code 71 = .ok (.iload 4, 2)) ∧ (decode prog_1_method_5_code 73 = .ok (.ireturn, 1)) := by decide +kernel
theorem d76_59 : decode prog_1_method_5_code 59 = .ok (.istore 4, 2) := dd76_59.1
theorem d76_61 : decode prog_1_method_5_code 61 = .ok (.aload_n 0, 1) := dd76_59.2.1
theorem d76_62 : decode prog_1_method_5_code 62 = .ok (.getfield 17, 3) := dd76_59.2.2.1
theorem d76_65 : decode prog_1_method_5_code 65 = .ok (.getfield 94, 3) := dd76_59.2.2.2.1
theorem d76_68 : decode prog_1_method_5_code 68 = .ok (.iload_n 1, 1) := dd76_59.2.2.2.2.1
theorem d76_69 : decode prog_1_method_5_code 69 = .ok (.iload_n 2, 1) := dd76_59.2.2.2.2.2.1
theorem d76_70 : decode prog_1_method_5_code 70 = .ok (.iastore, 1) := dd76_59.2.2.2.2.2.2.1
theorem d76_71 : decode prog_1_method_5_code 71 = .ok (.iload 4, 2) := dd76_59.2.2.2.2.2.2.2.1
theorem d76_73 : decode prog_1_method_5_code 73 = .ok (.ireturn, 1) := dd76_59.2.2.2.2.2.2.2.2
theorem b76_0 {d : Nat} {S : mm_S} {a0 : Nat} {x1 : Int32} {x2 : Int32} : mm_ex d 76 0 [.ref a0, .int x1, .int x2, .null, .null] [] S =
    if x2 = (-1) then mm_ex d 76 5 [.ref a0, .int x1, .int x2, .null, .null] [] S else mm_ex d 76 9 [.ref a0, .int x1, .int x2, .null, .null] [] S :=
  Eq.trans (mx_iload_n t76 d76_0 (x := x2) rfl) <|
  Eq.trans (mx_iconst t76 d76_1 (v := -1) rfl) <|
  (mx_cne t76 d76_2 (tgt := 9) (by decide))
theorem b76_5 {d : Nat} {S : mm_S} {a0 : Nat} {x1 : Int32} {x2 : Int32} (h0 : mm_obj S a0 11 = true) (h1 : (mm_R S a0 0).isSome = true) (h2 : mm_rk S (mm_rg S a0 0) = 1) : mm_ex (d + 1) 76 5 [.ref a0, .int x1, .int x2, .null, .null] [] S =
    mm_bd (mm_cl d 8 [.ref (mm_rg S a0 0), .int x1] S) (fun v S2 => mm_ex (d + 1) 76 19 [.ref a0, .int x1, .int x2, .int (nI 1), .null] (v.toList ++ []) S2) :=
  Eq.trans (mx_iconst t76 d76_5 (v := nI 1) rfl) <|
  Eq.trans (mx_goto t76 d76_6 (tgt := 10) (by decide)) <|
  Eq.trans (mx_istore_n t76 d76_10 (ls' := [.ref a0, .int x1, .int x2, .int (nI 1), .null]) rfl rfl) <|
  Eq.trans (mx_aload_n t76 d76_11 (x := a0) rfl) <|
  Eq.trans (mx_getR t76 d76_12 rfl fl11_17 h0 h1) <|
  Eq.trans (mx_iload_n t76 d76_15 (x := x1) rfl) <|
  (mx_virt (st := []) (k := 1) t76 [.int x1] d76_16 vt11_77 rfl rfl (Nat.le_of_ble_eq_true rfl) (Nat.le_of_ble_eq_true rfl) h2)
theorem b76_9 {d : Nat} {S : mm_S} {a0 : Nat} {x1 : Int32} {x2 : Int32} (h0 : mm_obj S a0 11 = true) (h1 : (mm_R S a0 0).isSome = true) (h2 : mm_rk S (mm_rg S a0 0) = 1) : mm_ex (d + 1) 76 9 [.ref a0, .int x1, .int x2, .null, .null] [] S =
    mm_bd (mm_cl d 8 [.ref (mm_rg S a0 0), .int x1] S) (fun v S2 => mm_ex (d + 1) 76 19 [.ref a0, .int x1, .int x2, .int (nI 0), .null] (v.toList ++ []) S2) :=
  Eq.trans (mx_iconst t76 d76_9 (v := nI 0) rfl) <|
  Eq.trans (mx_istore_n t76 d76_10 (ls' := [.ref a0, .int x1, .int x2, .int (nI 0), .null]) rfl rfl) <|
  Eq.trans (mx_aload_n t76 d76_11 (x := a0) rfl) <|
  Eq.trans (mx_getR t76 d76_12 rfl fl11_17 h0 h1) <|
  Eq.trans (mx_iload_n t76 d76_15 (x := x1) rfl) <|
  (mx_virt (st := []) (k := 1) t76 [.int x1] d76_16 vt11_77 rfl rfl (Nat.le_of_ble_eq_true rfl) (Nat.le_of_ble_eq_true rfl) h2)
theorem b76_19 {d : Nat} {S : mm_S} {a0 : Nat} {x1 : Int32} {x2 : Int32} {x3 : Int32} {p0 : Int32} : mm_ex d 76 19 [.ref a0, .int x1, .int x2, .int x3, .null] [.int p0] S =
    if p0 = nI 0 then mm_ex d 76 37 [.ref a0, .int x1, .int x2, .int x3, .null] [] S else mm_ex d 76 22 [.ref a0, .int x1, .int x2, .int x3, .null] [] S :=
  (mx_ieq t76 d76_19 (tgt := 37) (by decide))
theorem b76_22 {d : Nat} {S : mm_S} {a0 : Nat} {x1 : Int32} {x2 : Int32} {x3 : Int32} : mm_ex d 76 22 [.ref a0, .int x1, .int x2, .int x3, .null] [] S =
    if x3 = nI 0 then mm_ex d 76 26 [.ref a0, .int x1, .int x2, .int x3, .null] [] S else mm_ex d 76 39 [.ref a0, .int x1, .int x2, .int x3, .null] [] S :=
  Eq.trans (mx_iload_n t76 d76_22 (x := x3) rfl) <|
  (mx_ine t76 d76_23 (tgt := 39) (by decide))
theorem b76_26 {d : Nat} {S : mm_S} {a0 : Nat} {x1 : Int32} {x2 : Int32} {x3 : Int32} (h0 : mm_obj S a0 11 = true) (h1 : (mm_R S a0 0).isSome = true) (h2 : mm_rk S (mm_rg S a0 0) = 1) : mm_ex (d + 1) 76 26 [.ref a0, .int x1, .int x2, .int x3, .null] [] S =
    mm_bd (mm_cl d 8 [.ref (mm_rg S a0 0), .int x2] S) (fun v S2 => mm_ex (d + 1) 76 34 [.ref a0, .int x1, .int x2, .int x3, .null] (v.toList ++ []) S2) :=
  Eq.trans (mx_aload_n t76 d76_26 (x := a0) rfl) <|
  Eq.trans (mx_getR t76 d76_27 rfl fl11_17 h0 h1) <|
  Eq.trans (mx_iload_n t76 d76_30 (x := x2) rfl) <|
  (mx_virt (st := []) (k := 1) t76 [.int x2] d76_31 vt11_77 rfl rfl (Nat.le_of_ble_eq_true rfl) (Nat.le_of_ble_eq_true rfl) h2)
theorem b76_34 {d : Nat} {S : mm_S} {a0 : Nat} {x1 : Int32} {x2 : Int32} {x3 : Int32} {p0 : Int32} : mm_ex d 76 34 [.ref a0, .int x1, .int x2, .int x3, .null] [.int p0] S =
    if p0 = nI 0 then mm_ex d 76 37 [.ref a0, .int x1, .int x2, .int x3, .null] [] S else mm_ex d 76 39 [.ref a0, .int x1, .int x2, .int x3, .null] [] S :=
  (mx_ine t76 d76_34 (tgt := 39) (by decide))
theorem b76_37 {d : Nat} {S : mm_S} {a0 : Nat} {x1 : Int32} {x2 : Int32} {x3 : Int32} : mm_ex d 76 37 [.ref a0, .int x1, .int x2, .int x3, .null] [] S =
    some (some (.int (-1)), S) :=
  Eq.trans (mx_iconst t76 d76_37 (v := -1) rfl) <|
  (mx_iret t76 d76_38 (ty := .int) rfl rfl (fun h => nomatch h))
theorem b76_39 {d : Nat} {S : mm_S} {a0 : Nat} {x1 : Int32} {x2 : Int32} {x3 : Int32} : mm_ex d 76 39 [.ref a0, .int x1, .int x2, .int x3, .null] [] S =
    if x2 = x1 then mm_ex d 76 44 [.ref a0, .int x1, .int x2, .int x3, .null] [] S else mm_ex d 76 47 [.ref a0, .int x1, .int x2, .int x3, .null] [] S :=
  Eq.trans (mx_iload_n t76 d76_39 (x := x2) rfl) <|
  Eq.trans (mx_iload_n t76 d76_40 (x := x1) rfl) <|
  (mx_cne t76 d76_41 (tgt := 47) (by decide))
theorem b76_44 {d : Nat} {S : mm_S} {a0 : Nat} {x1 : Int32} {x2 : Int32} {x3 : Int32} : mm_ex d 76 44 [.ref a0, .int x1, .int x2, .int x3, .null] [] S =
    some (some (.int (-2)), S) :=
  Eq.trans (mx_bipush t76 d76_44 (v := -2) rfl) <|
  (mx_iret t76 d76_46 (ty := .int) rfl rfl (fun h => nomatch h))
theorem b76_47 {d : Nat} {S : mm_S} {a0 : Nat} {x1 : Int32} {x2 : Int32} {x3 : Int32} (h0 : mm_obj S a0 11 = true) (h1 : (mm_R S a0 0).isSome = true) (h2 : mm_obj S (mm_rg S a0 0) 1 = true) (h3 : (mm_R S (mm_rg S a0 0) 1).isSome = true) (h4 : mm_inb x1 (mm_N S (mm_rg S (mm_rg S a0 0) 1)) = true) (h5 : mm_arr S (mm_rg S (mm_rg S a0 0) 1) 13 = true) : mm_ex (d + 1) 76 47 [.ref a0, .int x1, .int x2, .int x3, .null] [] S =
    mm_bd (mm_cl d 108 [.int (mm_M S (mm_rg S (mm_rg S a0 0) 1) (x1).toNatClampNeg)] S) (fun v S2 => mm_ex (d + 1) 76 59 [.ref a0, .int x1, .int x2, .int x3, .null] (v.toList ++ []) S2) :=
  Eq.trans (mx_aload_n t76 d76_47 (x := a0) rfl) <|
  Eq.trans (mx_getR t76 d76_48 rfl fl11_17 h0 h1) <|
  Eq.trans (mx_getR t76 d76_51 rfl fl11_94 h2 h3) <|
  Eq.trans (mx_iload_n t76 d76_54 (x := x1) rfl) <|
  Eq.trans (mx_iald t76 d76_55 h5 h4) <|
  (mx_stat (st := []) t76 [.int (mm_M S (mm_rg S (mm_rg S a0 0) 1) (x1).toNatClampNeg)] d76_56 acn11_97 mxn11_97 st11_97 rfl (Nat.le_of_ble_eq_true rfl) (Nat.le_of_ble_eq_true rfl))
theorem b76_59 {d : Nat} {S : mm_S} {a0 : Nat} {x1 : Int32} {x2 : Int32} {x3 : Int32} {p0 : Int32} (h0 : mm_obj S a0 11 = true) (h1 : (mm_R S a0 0).isSome = true) (h2 : mm_obj S (mm_rg S a0 0) 1 = true) (h3 : (mm_R S (mm_rg S a0 0) 1).isSome = true) (h4 : mm_arr S (mm_rg S (mm_rg S a0 0) 1) 13 = true) (h5 : mm_inb x1 (mm_N S (mm_rg S (mm_rg S a0 0) 1)) = true) : mm_ex d 76 59 [.ref a0, .int x1, .int x2, .int x3, .null] [.int p0] S =
    some (some (.int p0), (mm_uM S (mm_rg S (mm_rg S a0 0) 1) (x1).toNatClampNeg x2)) :=
  Eq.trans (mx_istore t76 d76_59 (ls' := [.ref a0, .int x1, .int x2, .int x3, .int p0]) rfl rfl) <|
  Eq.trans (mx_aload_n t76 d76_61 (x := a0) rfl) <|
  Eq.trans (mx_getR t76 d76_62 rfl fl11_17 h0 h1) <|
  Eq.trans (mx_getR t76 d76_65 rfl fl11_94 h2 h3) <|
  Eq.trans (mx_iload_n t76 d76_68 (x := x1) rfl) <|
  Eq.trans (mx_iload_n t76 d76_69 (x := x2) rfl) <|
  Eq.trans (mx_iast2 t76 d76_70 h4 h5) <|
  Eq.trans (mx_iload t76 d76_71 (x := p0) rfl) <|
  (mx_iret t76 d76_73 (ty := .int) rfl rfl (fun h => nomatch h))
theorem e76 {d : Nat} {S : mm_S} {a0 : Nat} {x1 : Int32} {x2 : Int32} : mm_cl d 76 [.ref a0, .int x1, .int x2] S = mm_ex d 76 0 [.ref a0, .int x1, .int x2, .null, .null] [] S := mm_cl_eq t76 (Nat.le_of_ble_eq_true rfl) rfl
/-! X11_row -/
theorem dd77_0 : (decode prog_1_method_6_code 0 = .ok (.aload_n 0, 1)) ∧ (decode prog_1_method_6_code 1 = .ok (.getfield 17, 3)) ∧ (decode prog_1_method_6_code 4 = .ok (.iload_n 1, 1)) ∧ (decode prog_1_method_6_code 5 = .ok (.invokevirtual 77, 3)) ∧ (decode prog_1_method_6_code 8 = .ok (.ifCond .eq 12, 3)) ∧ (decode prog_1_method_6_code 11 = .ok (.iload_n 2, 1)) ∧ (decode prog_1_method_6_code 12 = .ok (.ifCond .lt 8, 3)) ∧ (decode prog_1_method_6_code 15 = .ok (.iload_n 2, 1)) ∧ (decode prog_1_method_6_code 16 = .ok (.iconst 3, 1)) ∧ (decode prog_1_method_6_code 17 = .ok (.if_icmp .lt 5, 3)) ∧ (decode prog_1_method_6_code 20 = .ok (.iconst (-1), 1)) ∧ (decode prog_1_method_6_code 21 = .ok (.ireturn, 1)) ∧ (decode prog_1_method_6_code 22 = .ok (.iload_n 3, 1)) ∧ (decode prog_1_method_6_code 23 = .ok (.ifCond .lt 8, 3)) ∧ (decode prog_1_method_6_code 26 = .ok (.iload_n 3, 1)) ∧ (decode prog_1_method_6_code 27 = .ok (.iconst 3, 1)) := by decide +kernel
theorem d77_0 : decode prog_1_method_6_code 0 = .ok (.aload_n 0, 1) := dd77_0.1
theorem d77_1 : decode prog_1_method_6_code 1 = .ok (.getfield 17, 3) := dd77_0.2.1
theorem d77_4 : decode prog_1_method_6_code 4 = .ok (.iload_n 1, 1) := dd77_0.2.2.1
theorem d77_5 : decode prog_1_method_6_code 5 = .ok (.invokevirtual 77, 3) := dd77_0.2.2.2.1
theorem d77_8 : decode prog_1_method_6_code 8 = .ok (.ifCond .eq 12, 3) := dd77_0.2.2.2.2.1
theorem d77_11 : decode prog_1_method_6_code 11 = .ok (.iload_n 2, 1) := dd77_0.2.2.2.2.2.1
theorem d77_12 : decode prog_1_method_6_code 12 = .ok (.ifCond .lt 8, 3) := dd77_0.2.2.2.2.2.2.1
theorem d77_15 : decode prog_1_method_6_code 15 = .ok (.iload_n 2, 1) := dd77_0.2.2.2.2.2.2.2.1
theorem d77_16 : decode prog_1_method_6_code 16 = .ok (.iconst 3, 1) := dd77_0.2.2.2.2.2.2.2.2.1
theorem d77_17 : decode prog_1_method_6_code 17 = .ok (.if_icmp .lt 5, 3) := dd77_0.2.2.2.2.2.2.2.2.2.1
theorem d77_20 : decode prog_1_method_6_code 20 = .ok (.iconst (-1), 1) := dd77_0.2.2.2.2.2.2.2.2.2.2.1
theorem d77_21 : decode prog_1_method_6_code 21 = .ok (.ireturn, 1) := dd77_0.2.2.2.2.2.2.2.2.2.2.2.1
theorem d77_22 : decode prog_1_method_6_code 22 = .ok (.iload_n 3, 1) := dd77_0.2.2.2.2.2.2.2.2.2.2.2.2.1
theorem d77_23 : decode prog_1_method_6_code 23 = .ok (.ifCond .lt 8, 3) := dd77_0.2.2.2.2.2.2.2.2.2.2.2.2.2.1
theorem d77_26 : decode prog_1_method_6_code 26 = .ok (.iload_n 3, 1) := dd77_0.2.2.2.2.2.2.2.2.2.2.2.2.2.2.1
theorem d77_27 : decode prog_1_method_6_code 27 = .ok (.iconst 3, 1) := dd77_0.2.2.2.2.2.2.2.2.2.2.2.2.2.2.2
theorem dd77_28 : (decode prog_1_method_6_code 28 = .ok (.if_icmp .le 6, 3)) ∧ (decode prog_1_method_6_code 31 = .ok (.bipush (-2), 2)) ∧ (decode prog_1_method_6_code 33 = .ok (.ireturn, 1)) ∧ (decode prog_1_method_6_code 34 = .ok (.aload_n 0, 1)) ∧ (decode prog_1_method_6_code 35 = .ok (.getfield 17, 3)) ∧ (decode prog_1_method_6_code 38 = .ok (.getfield 81, 3)) ∧ (decode prog_1_method_6_code 41 = .ok (.iload_n 1, 1)) ∧ (decode prog_1_method_6_code 42 = .ok (.aaload, 1)) ∧ (decode prog_1_method_6_code 43 = .ok (.getfield 85, 3)) ∧ (decode prog_1_method_6_code 46 = .ok (.bipush 6, 2)) ∧ (decode prog_1_method_6_code 48 = .ok (.if_icmp .eq 6, 3)) ∧ (decode prog_1_method_6_code 51 = .ok (.bipush (-3), 2)) ∧ (decode prog_1_method_6_code 53 = .ok (.ireturn, 1)) ∧ (decode prog_1_method_6_code 54 = .ok (.iload_n 1, 1)) ∧ (decode prog_1_method_6_code 55 = .ok (.iconst 3, 1)) ∧ (decode prog_1_method_6_code 56 = .ok (.imul, 1)) := by decide +kernel
theorem d77_28 : decode prog_1_method_6_code 28 = .ok (.if_icmp .le 6, 3) := dd77_28.1
theorem d77_31 : decode prog_1_method_6_code 31 = .ok (.bipush (-2), 2) := dd77_28.2.1
theorem d77_33 : decode prog_1_method_6_code 33 = .ok (.ireturn, 1) := dd77_28.2.2.1
theorem d77_34 : decode prog_1_method_6_code 34 = .ok (.aload_n 0, 1) := dd77_28.2.2.2.1
theorem d77_35 : decode prog_1_method_6_code 35 = .ok (.getfield 17, 3) := dd77_28.2.2.2.2.1
theorem d77_38 : decode prog_1_method_6_code 38 = .ok (.getfield 81, 3) := dd77_28.2.2.2.2.2.1
theorem d77_41 : decode prog_1_method_6_code 41 = .ok (.iload_n 1, 1) := dd77_28.2.2.2.2.2.2.1
theorem d77_42 : decode prog_1_method_6_code 42 = .ok (.aaload, 1) := dd77_28.2.2.2.2.2.2.2.1
theorem d77_43 : decode prog_1_method_6_code 43 = .ok (.getfield 85, 3) := dd77_28.2.2.2.2.2.2.2.2.1
theorem d77_46 : decode prog_1_method_6_code 46 = .ok (.bipush 6, 2) := dd77_28.2.2.2.2.2.2.2.2.2.1
theorem d77_48 : decode prog_1_method_6_code 48 = .ok (.if_icmp .eq 6, 3) := dd77_28.2.2.2.2.2.2.2.2.2.2.1
theorem d77_51 : decode prog_1_method_6_code 51 = .ok (.bipush (-3), 2) := dd77_28.2.2.2.2.2.2.2.2.2.2.2.1
theorem d77_53 : decode prog_1_method_6_code 53 = .ok (.ireturn, 1) := dd77_28.2.2.2.2.2.2.2.2.2.2.2.2.1
theorem d77_54 : decode prog_1_method_6_code 54 = .ok (.iload_n 1, 1) := dd77_28.2.2.2.2.2.2.2.2.2.2.2.2.2.1
theorem d77_55 : decode prog_1_method_6_code 55 = .ok (.iconst 3, 1) := dd77_28.2.2.2.2.2.2.2.2.2.2.2.2.2.2.1
theorem d77_56 : decode prog_1_method_6_code 56 = .ok (.imul, 1) := dd77_28.2.2.2.2.2.2.2.2.2.2.2.2.2.2.2
theorem dd77_57 : (decode prog_1_method_6_code 57 = .ok (.iload_n 2, 1)) ∧ (decode prog_1_method_6_code 58 = .ok (.iadd, 1)) ∧ (decode prog_1_method_6_code 59 = .ok (.istore 4, 2)) ∧ (decode prog_1_method_6_code 61 = .ok (.aload_n 0, 1)) ∧ (decode prog_1_method_6_code 62 = .ok (.getfield 17, 3)) ∧ (decode prog_1_method_6_code 65 = .ok (.getfield 124, 3)) ∧ (decode prog_1_method_6_code 68 = .ok (.iload 4, 2)) ∧ (decode prog_1_method_6_code 70 = .ok (.iaload, 1)) ∧ (decode prog_1_method_6_code 71 = .ok (.istore 5, 2)) ∧ (decode prog_1_method_6_code 73 = .ok (.aload_n 0, 1)) ∧ (decode prog_1_method_6_code 74 = .ok (.getfield 17, 3)) ∧ (decode prog_1_method_6_code 77 = .ok (.getfield 124, 3)) ∧ (decode prog_1_method_6_code 80 = .ok (.iload 4, 2)) ∧ (decode prog_1_method_6_code 82 = .ok (.iload_n 3, 1)) ∧ (decode prog_1_method_6_code 83 = .ok (.iastore, 1)) ∧ (decode prog_1_method_6_code 84 = .ok (.iload 5, 2)) := by decide +kernel
theorem d77_57 : decode prog_1_method_6_code 57 = .ok (.iload_n 2, 1) := dd77_57.1
theorem d77_58 : decode prog_1_method_6_code 58 = .ok (.iadd, 1) := dd77_57.2.1
theorem d77_59 : decode prog_1_method_6_code 59 = .ok (.istore 4, 2) := dd77_57.2.2.1
theorem d77_61 : decode prog_1_method_6_code 61 = .ok (.aload_n 0, 1) := dd77_57.2.2.2.1
theorem d77_62 : decode prog_1_method_6_code 62 = .ok (.getfield 17, 3) := dd77_57.2.2.2.2.1
theorem d77_65 : decode prog_1_method_6_code 65 = .ok (.getfield 124, 3) := dd77_57.2.2.2.2.2.1
theorem d77_68 : decode prog_1_method_6_code 68 = .ok (.iload 4, 2) := dd77_57.2.2.2.2.2.2.1
theorem d77_70 : decode prog_1_method_6_code 70 = .ok (.iaload, 1) := dd77_57.2.2.2.2.2.2.2.1
theorem d77_71 : decode prog_1_method_6_code 71 = .ok (.istore 5, 2) := dd77_57.2.2.2.2.2.2.2.2.1
theorem d77_73 : decode prog_1_method_6_code 73 = .ok (.aload_n 0, 1) := dd77_57.2.2.2.2.2.2.2.2.2.1
theorem d77_74 : decode prog_1_method_6_code 74 = .ok (.getfield 17, 3) := dd77_57.2.2.2.2.2.2.2.2.2.2.1
theorem d77_77 : decode prog_1_method_6_code 77 = .ok (.getfield 124, 3) := dd77_57.2.2.2.2.2.2.2.2.2.2.2.1
theorem d77_80 : decode prog_1_method_6_code 80 = .ok (.iload 4, 2) := dd77_57.2.2.2.2.2.2.2.2.2.2.2.2.1
theorem d77_82 : decode prog_1_method_6_code 82 = .ok (.iload_n 3, 1) := dd77_57.2.2.2.2.2.2.2.2.2.2.2.2.2.1
theorem d77_83 : decode prog_1_method_6_code 83 = .ok (.iastore, 1) := dd77_57.2.2.2.2.2.2.2.2.2.2.2.2.2.2.1
theorem d77_84 : decode prog_1_method_6_code 84 = .ok (.iload 5, 2) := dd77_57.2.2.2.2.2.2.2.2.2.2.2.2.2.2.2
theorem d77_86 : decode prog_1_method_6_code 86 = .ok (.ireturn, 1) := by decide +kernel
theorem b77_0 {d : Nat} {S : mm_S} {a0 : Nat} {x1 : Int32} {x2 : Int32} {x3 : Int32} (h0 : mm_obj S a0 11 = true) (h1 : (mm_R S a0 0).isSome = true) (h2 : mm_rk S (mm_rg S a0 0) = 1) : mm_ex (d + 1) 77 0 [.ref a0, .int x1, .int x2, .int x3, .null, .null] [] S =
    mm_bd (mm_cl d 8 [.ref (mm_rg S a0 0), .int x1] S) (fun v S2 => mm_ex (d + 1) 77 8 [.ref a0, .int x1, .int x2, .int x3, .null, .null] (v.toList ++ []) S2) :=
  Eq.trans (mx_aload_n t77 d77_0 (x := a0) rfl) <|
  Eq.trans (mx_getR t77 d77_1 rfl fl11_17 h0 h1) <|
  Eq.trans (mx_iload_n t77 d77_4 (x := x1) rfl) <|
  (mx_virt (st := []) (k := 1) t77 [.int x1] d77_5 vt11_77 rfl rfl (Nat.le_of_ble_eq_true rfl) (Nat.le_of_ble_eq_true rfl) h2)
theorem b77_8 {d : Nat} {S : mm_S} {a0 : Nat} {x1 : Int32} {x2 : Int32} {x3 : Int32} {p0 : Int32} : mm_ex d 77 8 [.ref a0, .int x1, .int x2, .int x3, .null, .null] [.int p0] S =
    if p0 = nI 0 then mm_ex d 77 20 [.ref a0, .int x1, .int x2, .int x3, .null, .null] [] S else mm_ex d 77 11 [.ref a0, .int x1, .int x2, .int x3, .null, .null] [] S :=
  (mx_ieq t77 d77_8 (tgt := 20) (by decide))
theorem b77_11 {d : Nat} {S : mm_S} {a0 : Nat} {x1 : Int32} {x2 : Int32} {x3 : Int32} : mm_ex d 77 11 [.ref a0, .int x1, .int x2, .int x3, .null, .null] [] S =
    if x2 < nI 0 then mm_ex d 77 20 [.ref a0, .int x1, .int x2, .int x3, .null, .null] [] S else mm_ex d 77 15 [.ref a0, .int x1, .int x2, .int x3, .null, .null] [] S :=
  Eq.trans (mx_iload_n t77 d77_11 (x := x2) rfl) <|
  (mx_ilt t77 d77_12 (tgt := 20) (by decide))
theorem b77_15 {d : Nat} {S : mm_S} {a0 : Nat} {x1 : Int32} {x2 : Int32} {x3 : Int32} : mm_ex d 77 15 [.ref a0, .int x1, .int x2, .int x3, .null, .null] [] S =
    if x2 < (nI 3) then mm_ex d 77 22 [.ref a0, .int x1, .int x2, .int x3, .null, .null] [] S else mm_ex d 77 20 [.ref a0, .int x1, .int x2, .int x3, .null, .null] [] S :=
  Eq.trans (mx_iload_n t77 d77_15 (x := x2) rfl) <|
  Eq.trans (mx_iconst t77 d77_16 (v := nI 3) rfl) <|
  (mx_clt t77 d77_17 (tgt := 22) (by decide))
theorem b77_20 {d : Nat} {S : mm_S} {a0 : Nat} {x1 : Int32} {x2 : Int32} {x3 : Int32} : mm_ex d 77 20 [.ref a0, .int x1, .int x2, .int x3, .null, .null] [] S =
    some (some (.int (-1)), S) :=
  Eq.trans (mx_iconst t77 d77_20 (v := -1) rfl) <|
  (mx_iret t77 d77_21 (ty := .int) rfl rfl (fun h => nomatch h))
theorem b77_22 {d : Nat} {S : mm_S} {a0 : Nat} {x1 : Int32} {x2 : Int32} {x3 : Int32} : mm_ex d 77 22 [.ref a0, .int x1, .int x2, .int x3, .null, .null] [] S =
    if x3 < nI 0 then mm_ex d 77 31 [.ref a0, .int x1, .int x2, .int x3, .null, .null] [] S else mm_ex d 77 26 [.ref a0, .int x1, .int x2, .int x3, .null, .null] [] S :=
  Eq.trans (mx_iload_n t77 d77_22 (x := x3) rfl) <|
  (mx_ilt t77 d77_23 (tgt := 31) (by decide))
theorem b77_26 {d : Nat} {S : mm_S} {a0 : Nat} {x1 : Int32} {x2 : Int32} {x3 : Int32} : mm_ex d 77 26 [.ref a0, .int x1, .int x2, .int x3, .null, .null] [] S =
    if x3 ≤ (nI 3) then mm_ex d 77 34 [.ref a0, .int x1, .int x2, .int x3, .null, .null] [] S else mm_ex d 77 31 [.ref a0, .int x1, .int x2, .int x3, .null, .null] [] S :=
  Eq.trans (mx_iload_n t77 d77_26 (x := x3) rfl) <|
  Eq.trans (mx_iconst t77 d77_27 (v := nI 3) rfl) <|
  (mx_cle t77 d77_28 (tgt := 34) (by decide))
theorem b77_31 {d : Nat} {S : mm_S} {a0 : Nat} {x1 : Int32} {x2 : Int32} {x3 : Int32} : mm_ex d 77 31 [.ref a0, .int x1, .int x2, .int x3, .null, .null] [] S =
    some (some (.int (-2)), S) :=
  Eq.trans (mx_bipush t77 d77_31 (v := -2) rfl) <|
  (mx_iret t77 d77_33 (ty := .int) rfl rfl (fun h => nomatch h))
theorem b77_34 {d : Nat} {S : mm_S} {a0 : Nat} {x1 : Int32} {x2 : Int32} {x3 : Int32} (h0 : mm_obj S a0 11 = true) (h1 : (mm_R S a0 0).isSome = true) (h2 : mm_obj S (mm_rg S a0 0) 1 = true) (h3 : (mm_R S (mm_rg S a0 0) 0).isSome = true) (h4 : mm_inb x1 (mm_N S (mm_rg S (mm_rg S a0 0) 0)) = true) (h5 : (mm_arr S (mm_rg S (mm_rg S a0 0) 0) 16 || mm_arr S (mm_rg S (mm_rg S a0 0) 0) 17 || mm_arr S (mm_rg S (mm_rg S a0 0) 0) 18) = true) (h6 : (mm_R S (mm_rg S (mm_rg S a0 0) 0) (x1).toNatClampNeg).isSome = true) (h7 : mm_obj S (mm_rg S (mm_rg S (mm_rg S a0 0) 0) (x1).toNatClampNeg) 0 = true) : mm_ex d 77 34 [.ref a0, .int x1, .int x2, .int x3, .null, .null] [] S =
    if (mm_M S (mm_rg S (mm_rg S (mm_rg S a0 0) 0) (x1).toNatClampNeg) 0) = (nI 6) then mm_ex d 77 54 [.ref a0, .int x1, .int x2, .int x3, .null, .null] [] S else mm_ex d 77 51 [.ref a0, .int x1, .int x2, .int x3, .null, .null] [] S :=
  Eq.trans (mx_aload_n t77 d77_34 (x := a0) rfl) <|
  Eq.trans (mx_getR t77 d77_35 rfl fl11_17 h0 h1) <|
  Eq.trans (mx_getR t77 d77_38 rfl fl11_81 h2 h3) <|
  Eq.trans (mx_iload_n t77 d77_41 (x := x1) rfl) <|
  Eq.trans (mx_qaldR t77 d77_42 h5 h4 h6) <|
  Eq.trans (mx_geti t77 d77_43 rfl fl11_85 h7) <|
  Eq.trans (mx_bipush t77 d77_46 (v := nI 6) rfl) <|
  (mx_ceq t77 d77_48 (tgt := 54) (by decide))
theorem b77_51 {d : Nat} {S : mm_S} {a0 : Nat} {x1 : Int32} {x2 : Int32} {x3 : Int32} : mm_ex d 77 51 [.ref a0, .int x1, .int x2, .int x3, .null, .null] [] S =
    some (some (.int (-3)), S) :=
  Eq.trans (mx_bipush t77 d77_51 (v := -3) rfl) <|
  (mx_iret t77 d77_53 (ty := .int) rfl rfl (fun h => nomatch h))
theorem b77_54 {d : Nat} {S : mm_S} {a0 : Nat} {x1 : Int32} {x2 : Int32} {x3 : Int32} (h0 : mm_obj S a0 11 = true) (h1 : (mm_R S a0 0).isSome = true) (h2 : mm_obj S (mm_rg S a0 0) 1 = true) (h3 : (mm_R S (mm_rg S a0 0) 2).isSome = true) (h4 : mm_inb ((x1 * (nI 3)) + x2) (mm_N S (mm_rg S (mm_rg S a0 0) 2)) = true) (h5 : mm_arr S (mm_rg S (mm_rg S a0 0) 2) 13 = true) : mm_ex d 77 54 [.ref a0, .int x1, .int x2, .int x3, .null, .null] [] S =
    some (some (.int (mm_M S (mm_rg S (mm_rg S a0 0) 2) ((x1 * (nI 3)) + x2).toNatClampNeg)), (mm_uM S (mm_rg S (mm_rg S a0 0) 2) ((x1 * (nI 3)) + x2).toNatClampNeg x3)) :=
  Eq.trans (mx_iload_n t77 d77_54 (x := x1) rfl) <|
  Eq.trans (mx_iconst t77 d77_55 (v := nI 3) rfl) <|
  Eq.trans (mx_imul t77 d77_56) <|
  Eq.trans (mx_iload_n t77 d77_57 (x := x2) rfl) <|
  Eq.trans (mx_iadd t77 d77_58) <|
  Eq.trans (mx_istore t77 d77_59 (ls' := [.ref a0, .int x1, .int x2, .int x3, .int ((x1 * (nI 3)) + x2), .null]) rfl rfl) <|
  Eq.trans (mx_aload_n t77 d77_61 (x := a0) rfl) <|
  Eq.trans (mx_getR t77 d77_62 rfl fl11_17 h0 h1) <|
  Eq.trans (mx_getR t77 d77_65 rfl fl11_124 h2 h3) <|
  Eq.trans (mx_iload t77 d77_68 (x := (x1 * (nI 3)) + x2) rfl) <|
  Eq.trans (mx_iald t77 d77_70 h5 h4) <|
  Eq.trans (mx_istore t77 d77_71 (ls' := [.ref a0, .int x1, .int x2, .int x3, .int ((x1 * (nI 3)) + x2), .int (mm_M S (mm_rg S (mm_rg S a0 0) 2) ((x1 * (nI 3)) + x2).toNatClampNeg)]) rfl rfl) <|
  Eq.trans (mx_aload_n t77 d77_73 (x := a0) rfl) <|
  Eq.trans (mx_getR t77 d77_74 rfl fl11_17 h0 h1) <|
  Eq.trans (mx_getR t77 d77_77 rfl fl11_124 h2 h3) <|
  Eq.trans (mx_iload t77 d77_80 (x := (x1 * (nI 3)) + x2) rfl) <|
  Eq.trans (mx_iload_n t77 d77_82 (x := x3) rfl) <|
  Eq.trans (mx_iast2 t77 d77_83 h5 h4) <|
  Eq.trans (mx_iload t77 d77_84 (x := mm_M S (mm_rg S (mm_rg S a0 0) 2) ((x1 * (nI 3)) + x2).toNatClampNeg) rfl) <|
  (mx_iret t77 d77_86 (ty := .int) rfl rfl (fun h => nomatch h))
theorem e77 {d : Nat} {S : mm_S} {a0 : Nat} {x1 : Int32} {x2 : Int32} {x3 : Int32} : mm_cl d 77 [.ref a0, .int x1, .int x2, .int x3] S = mm_ex d 77 0 [.ref a0, .int x1, .int x2, .int x3, .null, .null] [] S := mm_cl_eq t77 (Nat.le_of_ble_eq_true rfl) rfl
/-! X11_back -/
theorem d78_0 : decode prog_1_method_7_code 0 = .ok (.aload_n 0, 1) := by decide +kernel
theorem d78_1 : decode prog_1_method_7_code 1 = .ok (.getfield 17, 3) := by decide +kernel
theorem d78_4 : decode prog_1_method_7_code 4 = .ok (.iload_n 1, 1) := by decide +kernel
theorem d78_5 : decode prog_1_method_7_code 5 = .ok (.invokevirtual 77, 3) := by decide +kernel
theorem d78_8 : decode prog_1_method_7_code 8 = .ok (.ifCond .ne 5, 3) := by decide +kernel
theorem d78_11 : decode prog_1_method_7_code 11 = .ok (.iconst (-1), 1) := by decide +kernel
theorem d78_12 : decode prog_1_method_7_code 12 = .ok (.ireturn, 1) := by decide +kernel
theorem d78_13 : decode prog_1_method_7_code 13 = .ok (.aload_n 0, 1) := by decide +kernel
theorem d78_14 : decode prog_1_method_7_code 14 = .ok (.getfield 17, 3) := by decide +kernel
theorem d78_17 : decode prog_1_method_7_code 17 = .ok (.iload_n 1, 1) := by decide +kernel
theorem d78_18 : decode prog_1_method_7_code 18 = .ok (.invokevirtual 104, 3) := by decide +kernel
theorem d78_21 : decode prog_1_method_7_code 21 = .ok (.ifCond .lt 6, 3) := by decide +kernel
theorem d78_24 : decode prog_1_method_7_code 24 = .ok (.bipush (-3), 2) := by decide +kernel
theorem d78_26 : decode prog_1_method_7_code 26 = .ok (.ireturn, 1) := by decide +kernel
theorem d78_27 : decode prog_1_method_7_code 27 = .ok (.aload_n 0, 1) := by decide +kernel
theorem d78_28 : decode prog_1_method_7_code 28 = .ok (.getfield 17, 3) := by decide +kernel
theorem d78_31 : decode prog_1_method_7_code 31 = .ok (.iload_n 1, 1) := by decide +kernel
theorem d78_32 : decode prog_1_method_7_code 32 = .ok (.invokevirtual 127, 3) := by decide +kernel
theorem d78_35 : decode prog_1_method_7_code 35 = .ok (.aload_n 0, 1) := by decide +kernel
theorem d78_36 : decode prog_1_method_7_code 36 = .ok (.getfield 17, 3) := by decide +kernel
theorem d78_39 : decode prog_1_method_7_code 39 = .ok (.iload_n 1, 1) := by decide +kernel
theorem d78_40 : decode prog_1_method_7_code 40 = .ok (.invokevirtual 104, 3) := by decide +kernel
theorem d78_43 : decode prog_1_method_7_code 43 = .ok (.ireturn, 1) := by decide +kernel
theorem b78_0 {d : Nat} {S : mm_S} {a0 : Nat} {x1 : Int32} (h0 : mm_obj S a0 11 = true) (h1 : (mm_R S a0 0).isSome = true) (h2 : mm_rk S (mm_rg S a0 0) = 1) : mm_ex (d + 1) 78 0 [.ref a0, .int x1] [] S =
    mm_bd (mm_cl d 8 [.ref (mm_rg S a0 0), .int x1] S) (fun v S2 => mm_ex (d + 1) 78 8 [.ref a0, .int x1] (v.toList ++ []) S2) :=
  Eq.trans (mx_aload_n t78 d78_0 (x := a0) rfl) <|
  Eq.trans (mx_getR t78 d78_1 rfl fl11_17 h0 h1) <|
  Eq.trans (mx_iload_n t78 d78_4 (x := x1) rfl) <|
  (mx_virt (st := []) (k := 1) t78 [.int x1] d78_5 vt11_77 rfl rfl (Nat.le_of_ble_eq_true rfl) (Nat.le_of_ble_eq_true rfl) h2)
theorem b78_8 {d : Nat} {S : mm_S} {a0 : Nat} {x1 : Int32} {p0 : Int32} : mm_ex d 78 8 [.ref a0, .int x1] [.int p0] S =
    if p0 = nI 0 then mm_ex d 78 11 [.ref a0, .int x1] [] S else mm_ex d 78 13 [.ref a0, .int x1] [] S :=
  (mx_ine t78 d78_8 (tgt := 13) (by decide))
theorem b78_11 {d : Nat} {S : mm_S} {a0 : Nat} {x1 : Int32} : mm_ex d 78 11 [.ref a0, .int x1] [] S =
    some (some (.int (-1)), S) :=
  Eq.trans (mx_iconst t78 d78_11 (v := -1) rfl) <|
  (mx_iret t78 d78_12 (ty := .int) rfl rfl (fun h => nomatch h))
theorem b78_13 {d : Nat} {S : mm_S} {a0 : Nat} {x1 : Int32} (h0 : mm_obj S a0 11 = true) (h1 : (mm_R S a0 0).isSome = true) (h2 : mm_rk S (mm_rg S a0 0) = 1) : mm_ex (d + 1) 78 13 [.ref a0, .int x1] [] S =
    mm_bd (mm_cl d 12 [.ref (mm_rg S a0 0), .int x1] S) (fun v S2 => mm_ex (d + 1) 78 21 [.ref a0, .int x1] (v.toList ++ []) S2) :=
  Eq.trans (mx_aload_n t78 d78_13 (x := a0) rfl) <|
  Eq.trans (mx_getR t78 d78_14 rfl fl11_17 h0 h1) <|
  Eq.trans (mx_iload_n t78 d78_17 (x := x1) rfl) <|
  (mx_virt (st := []) (k := 1) t78 [.int x1] d78_18 vt11_104 rfl rfl (Nat.le_of_ble_eq_true rfl) (Nat.le_of_ble_eq_true rfl) h2)
theorem b78_21 {d : Nat} {S : mm_S} {a0 : Nat} {x1 : Int32} {p0 : Int32} : mm_ex d 78 21 [.ref a0, .int x1] [.int p0] S =
    if p0 < nI 0 then mm_ex d 78 27 [.ref a0, .int x1] [] S else mm_ex d 78 24 [.ref a0, .int x1] [] S :=
  (mx_ilt t78 d78_21 (tgt := 27) (by decide))
theorem b78_24 {d : Nat} {S : mm_S} {a0 : Nat} {x1 : Int32} : mm_ex d 78 24 [.ref a0, .int x1] [] S =
    some (some (.int (-3)), S) :=
  Eq.trans (mx_bipush t78 d78_24 (v := -3) rfl) <|
  (mx_iret t78 d78_26 (ty := .int) rfl rfl (fun h => nomatch h))
theorem b78_27 {d : Nat} {S : mm_S} {a0 : Nat} {x1 : Int32} (h0 : mm_obj S a0 11 = true) (h1 : (mm_R S a0 0).isSome = true) (h2 : mm_rk S (mm_rg S a0 0) = 1) : mm_ex (d + 1) 78 27 [.ref a0, .int x1] [] S =
    mm_bd (mm_cl d 13 [.ref (mm_rg S a0 0), .int x1] S) (fun v S2 => mm_ex (d + 1) 78 35 [.ref a0, .int x1] (v.toList ++ []) S2) :=
  Eq.trans (mx_aload_n t78 d78_27 (x := a0) rfl) <|
  Eq.trans (mx_getR t78 d78_28 rfl fl11_17 h0 h1) <|
  Eq.trans (mx_iload_n t78 d78_31 (x := x1) rfl) <|
  (mx_virt (st := []) (k := 1) t78 [.int x1] d78_32 vt11_127 rfl rfl (Nat.le_of_ble_eq_true rfl) (Nat.le_of_ble_eq_true rfl) h2)
theorem b78_35 {d : Nat} {S : mm_S} {a0 : Nat} {x1 : Int32} (h0 : mm_obj S a0 11 = true) (h1 : (mm_R S a0 0).isSome = true) (h2 : mm_rk S (mm_rg S a0 0) = 1) : mm_ex (d + 1) 78 35 [.ref a0, .int x1] [] S =
    mm_bd (mm_cl d 12 [.ref (mm_rg S a0 0), .int x1] S) (fun v S2 => mm_ex (d + 1) 78 43 [.ref a0, .int x1] (v.toList ++ []) S2) :=
  Eq.trans (mx_aload_n t78 d78_35 (x := a0) rfl) <|
  Eq.trans (mx_getR t78 d78_36 rfl fl11_17 h0 h1) <|
  Eq.trans (mx_iload_n t78 d78_39 (x := x1) rfl) <|
  (mx_virt (st := []) (k := 1) t78 [.int x1] d78_40 vt11_104 rfl rfl (Nat.le_of_ble_eq_true rfl) (Nat.le_of_ble_eq_true rfl) h2)
theorem b78_43 {d : Nat} {S : mm_S} {a0 : Nat} {x1 : Int32} {p0 : Int32} : mm_ex d 78 43 [.ref a0, .int x1] [.int p0] S =
    some (some (.int p0), S) :=
  (mx_iret t78 d78_43 (ty := .int) rfl rfl (fun h => nomatch h))
theorem e78 {d : Nat} {S : mm_S} {a0 : Nat} {x1 : Int32} : mm_cl d 78 [.ref a0, .int x1] S = mm_ex d 78 0 [.ref a0, .int x1] [] S := mm_cl_eq t78 (Nat.le_of_ble_eq_true rfl) rfl
/-! X11_set -/
theorem dd79_0 : (decode prog_1_method_8_code 0 = .ok (.iload_n 1, 1)) ∧ (decode prog_1_method_8_code 1 = .ok (.ifCond .eq 10, 3)) ∧ (decode prog_1_method_8_code 4 = .ok (.iload_n 1, 1)) ∧ (decode prog_1_method_8_code 5 = .ok (.iconst 1, 1)) ∧ (decode prog_1_method_8_code 6 = .ok (.if_icmp .eq 5, 3)) ∧ (decode prog_1_method_8_code 9 = .ok (.iconst (-1), 1)) ∧ (decode prog_1_method_8_code 10 = .ok (.ireturn, 1)) ∧ (decode prog_1_method_8_code 11 = .ok (.iload_n 2, 1)) ∧ (decode prog_1_method_8_code 12 = .ok (.ifCond .lt 19, 3)) ∧ (decode prog_1_method_8_code 15 = .ok (.iload_n 2, 1)) ∧ (decode prog_1_method_8_code 16 = .ok (.iload_n 1, 1)) ∧ (decode prog_1_method_8_code 17 = .ok (.ifCond .ne 9, 3)) ∧ (decode prog_1_method_8_code 20 = .ok (.sipush 999, 3)) ∧ (decode prog_1_method_8_code 23 = .ok (.goto 5, 3)) ∧ (decode prog_1_method_8_code 26 = .ok (.bipush 9, 2)) ∧ (decode prog_1_method_8_code 28 = .ok (.if_icmp .le 6, 3)) := by decide +kernel
theorem d79_0 : decode prog_1_method_8_code 0 = .ok (.iload_n 1, 1) := dd79_0.1
theorem d79_1 : decode prog_1_method_8_code 1 = .ok (.ifCond .eq 10, 3) := dd79_0.2.1
theorem d79_4 : decode prog_1_method_8_code 4 = .ok (.iload_n 1, 1) := dd79_0.2.2.1
theorem d79_5 : decode prog_1_method_8_code 5 = .ok (.iconst 1, 1) := dd79_0.2.2.2.1
theorem d79_6 : decode prog_1_method_8_code 6 = .ok (.if_icmp .eq 5, 3) := dd79_0.2.2.2.2.1
theorem d79_9 : decode prog_1_method_8_code 9 = .ok (.iconst (-1), 1) := dd79_0.2.2.2.2.2.1
theorem d79_10 : decode prog_1_method_8_code 10 = .ok (.ireturn, 1) := dd79_0.2.2.2.2.2.2.1
theorem d79_11 : decode prog_1_method_8_code 11 = .ok (.iload_n 2, 1) := dd79_0.2.2.2.2.2.2.2.1
theorem d79_12 : decode prog_1_method_8_code 12 = .ok (.ifCond .lt 19, 3) := dd79_0.2.2.2.2.2.2.2.2.1
theorem d79_15 : decode prog_1_method_8_code 15 = .ok (.iload_n 2, 1) := dd79_0.2.2.2.2.2.2.2.2.2.1
theorem d79_16 : decode prog_1_method_8_code 16 = .ok (.iload_n 1, 1) := dd79_0.2.2.2.2.2.2.2.2.2.2.1
theorem d79_17 : decode prog_1_method_8_code 17 = .ok (.ifCond .ne 9, 3) := dd79_0.2.2.2.2.2.2.2.2.2.2.2.1
theorem d79_20 : decode prog_1_method_8_code 20 = .ok (.sipush 999, 3) := dd79_0.2.2.2.2.2.2.2.2.2.2.2.2.1
theorem d79_23 : decode prog_1_method_8_code 23 = .ok (.goto 5, 3) := dd79_0.2.2.2.2.2.2.2.2.2.2.2.2.2.1
theorem d79_26 : decode prog_1_method_8_code 26 = .ok (.bipush 9, 2) := dd79_0.2.2.2.2.2.2.2.2.2.2.2.2.2.2.1
theorem d79_28 : decode prog_1_method_8_code 28 = .ok (.if_icmp .le 6, 3) := dd79_0.2.2.2.2.2.2.2.2.2.2.2.2.2.2.2
theorem dd79_31 : (decode prog_1_method_8_code 31 = .ok (.bipush (-2), 2)) ∧ (decode prog_1_method_8_code 33 = .ok (.ireturn, 1)) ∧ (decode prog_1_method_8_code 34 = .ok (.iload_n 1, 1)) ∧ (decode prog_1_method_8_code 35 = .ok (.ifCond .ne 22, 3)) ∧ (decode prog_1_method_8_code 38 = .ok (.aload_n 0, 1)) ∧ (decode prog_1_method_8_code 39 = .ok (.getfield 17, 3)) ∧ (decode prog_1_method_8_code 42 = .ok (.getfield 130, 3)) ∧ (decode prog_1_method_8_code 45 = .ok (.istore_n 3, 1)) ∧ (decode prog_1_method_8_code 46 = .ok (.aload_n 0, 1)) ∧ (decode prog_1_method_8_code 47 = .ok (.getfield 17, 3)) ∧ (decode prog_1_method_8_code 50 = .ok (.iload_n 2, 1)) ∧ (decode prog_1_method_8_code 51 = .ok (.putfield 130, 3)) ∧ (decode prog_1_method_8_code 54 = .ok (.goto 19, 3)) ∧ (decode prog_1_method_8_code 57 = .ok (.aload_n 0, 1)) ∧ (decode prog_1_method_8_code 58 = .ok (.getfield 17, 3)) ∧ (decode prog_1_method_8_code 61 = .ok (.getfield 133, 3)) := by decide +kernel
theorem d79_31 : decode prog_1_method_8_code 31 = .ok (.bipush (-2), 2) := dd79_31.1
theorem d79_33 : decode prog_1_method_8_code 33 = .ok (.ireturn, 1) := dd79_31.2.1
theorem d79_34 : decode prog_1_method_8_code 34 = .ok (.iload_n 1, 1) := dd79_31.2.2.1
theorem d79_35 : decode prog_1_method_8_code 35 = .ok (.ifCond .ne 22, 3) := dd79_31.2.2.2.1
theorem d79_38 : decode prog_1_method_8_code 38 = .ok (.aload_n 0, 1) := dd79_31.2.2.2.2.1
theorem d79_39 : decode prog_1_method_8_code 39 = .ok (.getfield 17, 3) := dd79_31.2.2.2.2.2.1
theorem d79_42 : decode prog_1_method_8_code 42 = .ok (.getfield 130, 3) := dd79_31.2.2.2.2.2.2.1
theorem d79_45 : decode prog_1_method_8_code 45 = .ok (.istore_n 3, 1) := dd79_31.2.2.2.2.2.2.2.1
theorem d79_46 : decode prog_1_method_8_code 46 = .ok (.aload_n 0, 1) := dd79_31.2.2.2.2.2.2.2.2.1
theorem d79_47 : decode prog_1_method_8_code 47 = .ok (.getfield 17, 3) := dd79_31.2.2.2.2.2.2.2.2.2.1
theorem d79_50 : decode prog_1_method_8_code 50 = .ok (.iload_n 2, 1) := dd79_31.2.2.2.2.2.2.2.2.2.2.1
theorem d79_51 : decode prog_1_method_8_code 51 = .ok (.putfield 130, 3) := dd79_31.2.2.2.2.2.2.2.2.2.2.2.1
theorem d79_54 : decode prog_1_method_8_code 54 = .ok (.goto 19, 3) := dd79_31.2.2.2.2.2.2.2.2.2.2.2.2.1
theorem d79_57 : decode prog_1_method_8_code 57 = .ok (.aload_n 0, 1) := dd79_31.2.2.2.2.2.2.2.2.2.2.2.2.2.1
theorem d79_58 : decode prog_1_method_8_code 58 = .ok (.getfield 17, 3) := dd79_31.2.2.2.2.2.2.2.2.2.2.2.2.2.2.1
theorem d79_61 : decode prog_1_method_8_code 61 = .ok (.getfield 133, 3) := dd79_31.2.2.2.2.2.2.2.2.2.2.2.2.2.2.2
theorem dd79_64 : (decode prog_1_method_8_code 64 = .ok (.istore_n 3, 1)) ∧ (decode prog_1_method_8_code 65 = .ok (.aload_n 0, 1)) ∧ (decode prog_1_method_8_code 66 = .ok (.getfield 17, 3)) ∧ (decode prog_1_method_8_code 69 = .ok (.iload_n 2, 1)) ∧ (decode prog_1_method_8_code 70 = .ok (.putfield 133, 3)) ∧ (decode prog_1_method_8_code 73 = .ok (.iload_n 3, 1)) ∧ (decode prog_1_method_8_code 74 = .ok (.ireturn, 1)) := by decide +kernel
theorem d79_64 : decode prog_1_method_8_code 64 = .ok (.istore_n 3, 1) := dd79_64.1
theorem d79_65 : decode prog_1_method_8_code 65 = .ok (.aload_n 0, 1) := dd79_64.2.1
theorem d79_66 : decode prog_1_method_8_code 66 = .ok (.getfield 17, 3) := dd79_64.2.2.1
theorem d79_69 : decode prog_1_method_8_code 69 = .ok (.iload_n 2, 1) := dd79_64.2.2.2.1
theorem d79_70 : decode prog_1_method_8_code 70 = .ok (.putfield 133, 3) := dd79_64.2.2.2.2.1
theorem d79_73 : decode prog_1_method_8_code 73 = .ok (.iload_n 3, 1) := dd79_64.2.2.2.2.2.1
theorem d79_74 : decode prog_1_method_8_code 74 = .ok (.ireturn, 1) := dd79_64.2.2.2.2.2.2
theorem b79_0 {d : Nat} {S : mm_S} {a0 : Nat} {x1 : Int32} {x2 : Int32} : mm_ex d 79 0 [.ref a0, .int x1, .int x2, .null] [] S =
    if x1 = nI 0 then mm_ex d 79 11 [.ref a0, .int x1, .int x2, .null] [] S else mm_ex d 79 4 [.ref a0, .int x1, .int x2, .null] [] S :=
  Eq.trans (mx_iload_n t79 d79_0 (x := x1) rfl) <|
  (mx_ieq t79 d79_1 (tgt := 11) (by decide))
theorem b79_4 {d : Nat} {S : mm_S} {a0 : Nat} {x1 : Int32} {x2 : Int32} : mm_ex d 79 4 [.ref a0, .int x1, .int x2, .null] [] S =
    if x1 = (nI 1) then mm_ex d 79 11 [.ref a0, .int x1, .int x2, .null] [] S else mm_ex d 79 9 [.ref a0, .int x1, .int x2, .null] [] S :=
  Eq.trans (mx_iload_n t79 d79_4 (x := x1) rfl) <|
  Eq.trans (mx_iconst t79 d79_5 (v := nI 1) rfl) <|
  (mx_ceq t79 d79_6 (tgt := 11) (by decide))
theorem b79_9 {d : Nat} {S : mm_S} {a0 : Nat} {x1 : Int32} {x2 : Int32} : mm_ex d 79 9 [.ref a0, .int x1, .int x2, .null] [] S =
    some (some (.int (-1)), S) :=
  Eq.trans (mx_iconst t79 d79_9 (v := -1) rfl) <|
  (mx_iret t79 d79_10 (ty := .int) rfl rfl (fun h => nomatch h))
theorem b79_11 {d : Nat} {S : mm_S} {a0 : Nat} {x1 : Int32} {x2 : Int32} : mm_ex d 79 11 [.ref a0, .int x1, .int x2, .null] [] S =
    if x2 < nI 0 then mm_ex d 79 31 [.ref a0, .int x1, .int x2, .null] [] S else mm_ex d 79 15 [.ref a0, .int x1, .int x2, .null] [] S :=
  Eq.trans (mx_iload_n t79 d79_11 (x := x2) rfl) <|
  (mx_ilt t79 d79_12 (tgt := 31) (by decide))
theorem b79_15 {d : Nat} {S : mm_S} {a0 : Nat} {x1 : Int32} {x2 : Int32} : mm_ex d 79 15 [.ref a0, .int x1, .int x2, .null] [] S =
    if x1 = nI 0 then mm_ex d 79 20 [.ref a0, .int x1, .int x2, .null] [.int x2] S else mm_ex d 79 26 [.ref a0, .int x1, .int x2, .null] [.int x2] S :=
  Eq.trans (mx_iload_n t79 d79_15 (x := x2) rfl) <|
  Eq.trans (mx_iload_n t79 d79_16 (x := x1) rfl) <|
  (mx_ine t79 d79_17 (tgt := 26) (by decide))
theorem b79_20 {d : Nat} {S : mm_S} {a0 : Nat} {x1 : Int32} {x2 : Int32} {p0 : Int32} : mm_ex d 79 20 [.ref a0, .int x1, .int x2, .null] [.int p0] S =
    if p0 ≤ (nI 999) then mm_ex d 79 34 [.ref a0, .int x1, .int x2, .null] [] S else mm_ex d 79 31 [.ref a0, .int x1, .int x2, .null] [] S :=
  Eq.trans (mx_sipush t79 d79_20 (v := nI 999) rfl) <|
  Eq.trans (mx_goto t79 d79_23 (tgt := 28) (by decide)) <|
  (mx_cle t79 d79_28 (tgt := 34) (by decide))
theorem b79_26 {d : Nat} {S : mm_S} {a0 : Nat} {x1 : Int32} {x2 : Int32} {p0 : Int32} : mm_ex d 79 26 [.ref a0, .int x1, .int x2, .null] [.int p0] S =
    if p0 ≤ (nI 9) then mm_ex d 79 34 [.ref a0, .int x1, .int x2, .null] [] S else mm_ex d 79 31 [.ref a0, .int x1, .int x2, .null] [] S :=
  Eq.trans (mx_bipush t79 d79_26 (v := nI 9) rfl) <|
  (mx_cle t79 d79_28 (tgt := 34) (by decide))
theorem b79_31 {d : Nat} {S : mm_S} {a0 : Nat} {x1 : Int32} {x2 : Int32} : mm_ex d 79 31 [.ref a0, .int x1, .int x2, .null] [] S =
    some (some (.int (-2)), S) :=
  Eq.trans (mx_bipush t79 d79_31 (v := -2) rfl) <|
  (mx_iret t79 d79_33 (ty := .int) rfl rfl (fun h => nomatch h))
theorem b79_34 {d : Nat} {S : mm_S} {a0 : Nat} {x1 : Int32} {x2 : Int32} : mm_ex d 79 34 [.ref a0, .int x1, .int x2, .null] [] S =
    if x1 = nI 0 then mm_ex d 79 38 [.ref a0, .int x1, .int x2, .null] [] S else mm_ex d 79 57 [.ref a0, .int x1, .int x2, .null] [] S :=
  Eq.trans (mx_iload_n t79 d79_34 (x := x1) rfl) <|
  (mx_ine t79 d79_35 (tgt := 57) (by decide))
theorem b79_38 {d : Nat} {S : mm_S} {a0 : Nat} {x1 : Int32} {x2 : Int32} (h0 : mm_obj S a0 11 = true) (h1 : (mm_R S a0 0).isSome = true) (h2 : mm_obj S (mm_rg S a0 0) 1 = true) : mm_ex d 79 38 [.ref a0, .int x1, .int x2, .null] [] S =
    some (some (.int (mm_M S (mm_rg S a0 0) 12)), (mm_uM S (mm_rg S a0 0) 12 x2)) :=
  Eq.trans (mx_aload_n t79 d79_38 (x := a0) rfl) <|
  Eq.trans (mx_getR t79 d79_39 rfl fl11_17 h0 h1) <|
  Eq.trans (mx_geti t79 d79_42 rfl fl11_130 h2) <|
  Eq.trans (mx_istore_n t79 d79_45 (ls' := [.ref a0, .int x1, .int x2, .int (mm_M S (mm_rg S a0 0) 12)]) rfl rfl) <|
  Eq.trans (mx_aload_n t79 d79_46 (x := a0) rfl) <|
  Eq.trans (mx_getR t79 d79_47 rfl fl11_17 h0 h1) <|
  Eq.trans (mx_iload_n t79 d79_50 (x := x2) rfl) <|
  Eq.trans (mx_puti2 t79 d79_51 fl11_130 rfl h2) <|
  Eq.trans (mx_goto t79 d79_54 (tgt := 73) (by decide)) <|
  Eq.trans (mx_iload_n t79 d79_73 (x := mm_M S (mm_rg S a0 0) 12) rfl) <|
  (mx_iret t79 d79_74 (ty := .int) rfl rfl (fun h => nomatch h))
theorem b79_57 {d : Nat} {S : mm_S} {a0 : Nat} {x1 : Int32} {x2 : Int32} (h0 : mm_obj S a0 11 = true) (h1 : (mm_R S a0 0).isSome = true) (h2 : mm_obj S (mm_rg S a0 0) 1 = true) : mm_ex d 79 57 [.ref a0, .int x1, .int x2, .null] [] S =
    some (some (.int (mm_M S (mm_rg S a0 0) 13)), (mm_uM S (mm_rg S a0 0) 13 x2)) :=
  Eq.trans (mx_aload_n t79 d79_57 (x := a0) rfl) <|
  Eq.trans (mx_getR t79 d79_58 rfl fl11_17 h0 h1) <|
  Eq.trans (mx_geti t79 d79_61 rfl fl11_133 h2) <|
  Eq.trans (mx_istore_n t79 d79_64 (ls' := [.ref a0, .int x1, .int x2, .int (mm_M S (mm_rg S a0 0) 13)]) rfl rfl) <|
  Eq.trans (mx_aload_n t79 d79_65 (x := a0) rfl) <|
  Eq.trans (mx_getR t79 d79_66 rfl fl11_17 h0 h1) <|
  Eq.trans (mx_iload_n t79 d79_69 (x := x2) rfl) <|
  Eq.trans (mx_puti2 t79 d79_70 fl11_133 rfl h2) <|
  Eq.trans (mx_iload_n t79 d79_73 (x := mm_M S (mm_rg S a0 0) 13) rfl) <|
  (mx_iret t79 d79_74 (ty := .int) rfl rfl (fun h => nomatch h))
theorem e79 {d : Nat} {S : mm_S} {a0 : Nat} {x1 : Int32} {x2 : Int32} : mm_cl d 79 [.ref a0, .int x1, .int x2] S = mm_ex d 79 0 [.ref a0, .int x1, .int x2, .null] [] S := mm_cl_eq t79 (Nat.le_of_ble_eq_true rfl) rfl
/-! X11_feed -/
theorem d80_0 : decode prog_1_method_9_code 0 = .ok (.iload_n 1, 1) := by decide +kernel
theorem d80_1 : decode prog_1_method_9_code 1 = .ok (.ifCond .lt 9, 3) := by decide +kernel
theorem d80_4 : decode prog_1_method_9_code 4 = .ok (.iload_n 1, 1) := by decide +kernel
theorem d80_5 : decode prog_1_method_9_code 5 = .ok (.bipush 127, 2) := by decide +kernel
theorem d80_7 : decode prog_1_method_9_code 7 = .ok (.if_icmp .le 6, 3) := by decide +kernel
theorem d80_10 : decode prog_1_method_9_code 10 = .ok (.bipush (-2), 2) := by decide +kernel
theorem d80_12 : decode prog_1_method_9_code 12 = .ok (.ireturn, 1) := by decide +kernel
theorem d80_13 : decode prog_1_method_9_code 13 = .ok (.aload_n 0, 1) := by decide +kernel
theorem d80_14 : decode prog_1_method_9_code 14 = .ok (.getfield 39, 3) := by decide +kernel
theorem d80_17 : decode prog_1_method_9_code 17 = .ok (.iload_n 1, 1) := by decide +kernel
theorem d80_18 : decode prog_1_method_9_code 18 = .ok (.invokevirtual 136, 3) := by decide +kernel
theorem d80_21 : decode prog_1_method_9_code 21 = .ok (.ifCond .eq 13, 3) := by decide +kernel
theorem d80_24 : decode prog_1_method_9_code 24 = .ok (.aload_n 0, 1) := by decide +kernel
theorem d80_25 : decode prog_1_method_9_code 25 = .ok (.getfield 39, 3) := by decide +kernel
theorem d80_28 : decode prog_1_method_9_code 28 = .ok (.getfield 139, 3) := by decide +kernel
theorem d80_31 : decode prog_1_method_9_code 31 = .ok (.goto 5, 3) := by decide +kernel
theorem d80_34 : decode prog_1_method_9_code 34 = .ok (.bipush (-4), 2) := by decide +kernel
theorem d80_36 : decode prog_1_method_9_code 36 = .ok (.ireturn, 1) := by decide +kernel
theorem b80_0 {d : Nat} {S : mm_S} {a0 : Nat} {x1 : Int32} : mm_ex d 80 0 [.ref a0, .int x1] [] S =
    if x1 < nI 0 then mm_ex d 80 10 [.ref a0, .int x1] [] S else mm_ex d 80 4 [.ref a0, .int x1] [] S :=
  Eq.trans (mx_iload_n t80 d80_0 (x := x1) rfl) <|
  (mx_ilt t80 d80_1 (tgt := 10) (by decide))
theorem b80_4 {d : Nat} {S : mm_S} {a0 : Nat} {x1 : Int32} : mm_ex d 80 4 [.ref a0, .int x1] [] S =
    if x1 ≤ (nI 127) then mm_ex d 80 13 [.ref a0, .int x1] [] S else mm_ex d 80 10 [.ref a0, .int x1] [] S :=
  Eq.trans (mx_iload_n t80 d80_4 (x := x1) rfl) <|
  Eq.trans (mx_bipush t80 d80_5 (v := nI 127) rfl) <|
  (mx_cle t80 d80_7 (tgt := 13) (by decide))
theorem b80_10 {d : Nat} {S : mm_S} {a0 : Nat} {x1 : Int32} : mm_ex d 80 10 [.ref a0, .int x1] [] S =
    some (some (.int (-2)), S) :=
  Eq.trans (mx_bipush t80 d80_10 (v := -2) rfl) <|
  (mx_iret t80 d80_12 (ty := .int) rfl rfl (fun h => nomatch h))
theorem b80_13 {d : Nat} {S : mm_S} {a0 : Nat} {x1 : Int32} (h0 : mm_obj S a0 11 = true) (h1 : (mm_R S a0 5).isSome = true) (h2 : mm_rk S (mm_rg S a0 5) = 5) : mm_ex (d + 1) 80 13 [.ref a0, .int x1] [] S =
    mm_bd (mm_cl d 35 [.ref (mm_rg S a0 5), .int x1] S) (fun v S2 => mm_ex (d + 1) 80 21 [.ref a0, .int x1] (v.toList ++ []) S2) :=
  Eq.trans (mx_aload_n t80 d80_13 (x := a0) rfl) <|
  Eq.trans (mx_getR t80 d80_14 rfl fl11_39 h0 h1) <|
  Eq.trans (mx_iload_n t80 d80_17 (x := x1) rfl) <|
  (mx_virt (st := []) (k := 5) t80 [.int x1] d80_18 vt11_136 rfl rfl (Nat.le_of_ble_eq_true rfl) (Nat.le_of_ble_eq_true rfl) h2)
theorem b80_21 {d : Nat} {S : mm_S} {a0 : Nat} {x1 : Int32} {p0 : Int32} : mm_ex d 80 21 [.ref a0, .int x1] [.int p0] S =
    if p0 = nI 0 then mm_ex d 80 34 [.ref a0, .int x1] [] S else mm_ex d 80 24 [.ref a0, .int x1] [] S :=
  (mx_ieq t80 d80_21 (tgt := 34) (by decide))
theorem b80_24 {d : Nat} {S : mm_S} {a0 : Nat} {x1 : Int32} (h0 : mm_obj S a0 11 = true) (h1 : (mm_R S a0 5).isSome = true) (h2 : mm_obj S (mm_rg S a0 5) 5 = true) : mm_ex d 80 24 [.ref a0, .int x1] [] S =
    some (some (.int (mm_M S (mm_rg S a0 5) 0)), S) :=
  Eq.trans (mx_aload_n t80 d80_24 (x := a0) rfl) <|
  Eq.trans (mx_getR t80 d80_25 rfl fl11_39 h0 h1) <|
  Eq.trans (mx_geti t80 d80_28 rfl fl11_139 h2) <|
  Eq.trans (mx_goto t80 d80_31 (tgt := 36) (by decide)) <|
  (mx_iret t80 d80_36 (ty := .int) rfl rfl (fun h => nomatch h))
theorem b80_34 {d : Nat} {S : mm_S} {a0 : Nat} {x1 : Int32} : mm_ex d 80 34 [.ref a0, .int x1] [] S =
    some (some (.int (-4)), S) :=
  Eq.trans (mx_bipush t80 d80_34 (v := -4) rfl) <|
  (mx_iret t80 d80_36 (ty := .int) rfl rfl (fun h => nomatch h))
theorem e80 {d : Nat} {S : mm_S} {a0 : Nat} {x1 : Int32} : mm_cl d 80 [.ref a0, .int x1] S = mm_ex d 80 0 [.ref a0, .int x1] [] S := mm_cl_eq t80 (Nat.le_of_ble_eq_true rfl) rfl
/-! X11_shop -/
theorem dd81_0 : (decode prog_1_method_10_code 0 = .ok (.aload_n 0, 1)) ∧ (decode prog_1_method_10_code 1 = .ok (.getfield 142, 3)) ∧ (decode prog_1_method_10_code 4 = .ok (.bipush 6, 2)) ∧ (decode prog_1_method_10_code 6 = .ok (.if_icmp .lt 6, 3)) ∧ (decode prog_1_method_10_code 9 = .ok (.bipush (-4), 2)) ∧ (decode prog_1_method_10_code 11 = .ok (.ireturn, 1)) ∧ (decode prog_1_method_10_code 12 = .ok (.aload_n 0, 1)) ∧ (decode prog_1_method_10_code 13 = .ok (.getfield 32, 3)) ∧ (decode prog_1_method_10_code 16 = .ok (.aload_n 0, 1)) ∧ (decode prog_1_method_10_code 17 = .ok (.getfield 142, 3)) ∧ (decode prog_1_method_10_code 20 = .ok (.aaload, 1)) ∧ (decode prog_1_method_10_code 21 = .ok (.astore_n 1, 1)) ∧ (decode prog_1_method_10_code 22 = .ok (.aload_n 0, 1)) ∧ (decode prog_1_method_10_code 23 = .ok (.getfield 39, 3)) ∧ (decode prog_1_method_10_code 26 = .ok (.aload_n 1, 1)) ∧ (decode prog_1_method_10_code 27 = .ok (.invokevirtual 145, 3)) := by decide +kernel
theorem d81_0 : decode prog_1_method_10_code 0 = .ok (.aload_n 0, 1) := dd81_0.1
theorem d81_1 : decode prog_1_method_10_code 1 = .ok (.getfield 142, 3) := dd81_0.2.1
theorem d81_4 : decode prog_1_method_10_code 4 = .ok (.bipush 6, 2) := dd81_0.2.2.1
theorem d81_6 : decode prog_1_method_10_code 6 = .ok (.if_icmp .lt 6, 3) := dd81_0.2.2.2.1
theorem d81_9 : decode prog_1_method_10_code 9 = .ok (.bipush (-4), 2) := dd81_0.2.2.2.2.1
theorem d81_11 : decode prog_1_method_10_code 11 = .ok (.ireturn, 1) := dd81_0.2.2.2.2.2.1
theorem d81_12 : decode prog_1_method_10_code 12 = .ok (.aload_n 0, 1) := dd81_0.2.2.2.2.2.2.1
theorem d81_13 : decode prog_1_method_10_code 13 = .ok (.getfield 32, 3) := dd81_0.2.2.2.2.2.2.2.1
theorem d81_16 : decode prog_1_method_10_code 16 = .ok (.aload_n 0, 1) := dd81_0.2.2.2.2.2.2.2.2.1
theorem d81_17 : decode prog_1_method_10_code 17 = .ok (.getfield 142, 3) := dd81_0.2.2.2.2.2.2.2.2.2.1
theorem d81_20 : decode prog_1_method_10_code 20 = .ok (.aaload, 1) := dd81_0.2.2.2.2.2.2.2.2.2.2.1
theorem d81_21 : decode prog_1_method_10_code 21 = .ok (.astore_n 1, 1) := dd81_0.2.2.2.2.2.2.2.2.2.2.2.1
theorem d81_22 : decode prog_1_method_10_code 22 = .ok (.aload_n 0, 1) := dd81_0.2.2.2.2.2.2.2.2.2.2.2.2.1
theorem d81_23 : decode prog_1_method_10_code 23 = .ok (.getfield 39, 3) := dd81_0.2.2.2.2.2.2.2.2.2.2.2.2.2.1
theorem d81_26 : decode prog_1_method_10_code 26 = .ok (.aload_n 1, 1) := dd81_0.2.2.2.2.2.2.2.2.2.2.2.2.2.2.1
theorem d81_27 : decode prog_1_method_10_code 27 = .ok (.invokevirtual 145, 3) := dd81_0.2.2.2.2.2.2.2.2.2.2.2.2.2.2.2
theorem dd81_30 : (decode prog_1_method_10_code 30 = .ok (.istore_n 2, 1)) ∧ (decode prog_1_method_10_code 31 = .ok (.aload_n 0, 1)) ∧ (decode prog_1_method_10_code 32 = .ok (.getfield 39, 3)) ∧ (decode prog_1_method_10_code 35 = .ok (.invokevirtual 149, 3)) ∧ (decode prog_1_method_10_code 38 = .ok (.iload_n 2, 1)) ∧ (decode prog_1_method_10_code 39 = .ok (.ifCond .lt 8, 3)) ∧ (decode prog_1_method_10_code 42 = .ok (.bipush (-10), 2)) ∧ (decode prog_1_method_10_code 44 = .ok (.iload_n 2, 1)) ∧ (decode prog_1_method_10_code 45 = .ok (.isub, 1)) ∧ (decode prog_1_method_10_code 46 = .ok (.ireturn, 1)) ∧ (decode prog_1_method_10_code 47 = .ok (.aload_n 0, 1)) ∧ (decode prog_1_method_10_code 48 = .ok (.getfield 17, 3)) ∧ (decode prog_1_method_10_code 51 = .ok (.aload_n 1, 1)) ∧ (decode prog_1_method_10_code 52 = .ok (.invokevirtual 152, 3)) ∧ (decode prog_1_method_10_code 55 = .ok (.aload_n 0, 1)) ∧ (decode prog_1_method_10_code 56 = .ok (.getfield 142, 3)) := by decide +kernel
theorem d81_30 : decode prog_1_method_10_code 30 = .ok (.istore_n 2, 1) := dd81_30.1
theorem d81_31 : decode prog_1_method_10_code 31 = .ok (.aload_n 0, 1) := dd81_30.2.1
theorem d81_32 : decode prog_1_method_10_code 32 = .ok (.getfield 39, 3) := dd81_30.2.2.1
theorem d81_35 : decode prog_1_method_10_code 35 = .ok (.invokevirtual 149, 3) := dd81_30.2.2.2.1
theorem d81_38 : decode prog_1_method_10_code 38 = .ok (.iload_n 2, 1) := dd81_30.2.2.2.2.1
theorem d81_39 : decode prog_1_method_10_code 39 = .ok (.ifCond .lt 8, 3) := dd81_30.2.2.2.2.2.1
theorem d81_42 : decode prog_1_method_10_code 42 = .ok (.bipush (-10), 2) := dd81_30.2.2.2.2.2.2.1
theorem d81_44 : decode prog_1_method_10_code 44 = .ok (.iload_n 2, 1) := dd81_30.2.2.2.2.2.2.2.1
theorem d81_45 : decode prog_1_method_10_code 45 = .ok (.isub, 1) := dd81_30.2.2.2.2.2.2.2.2.1
theorem d81_46 : decode prog_1_method_10_code 46 = .ok (.ireturn, 1) := dd81_30.2.2.2.2.2.2.2.2.2.1
theorem d81_47 : decode prog_1_method_10_code 47 = .ok (.aload_n 0, 1) := dd81_30.2.2.2.2.2.2.2.2.2.2.1
theorem d81_48 : decode prog_1_method_10_code 48 = .ok (.getfield 17, 3) := dd81_30.2.2.2.2.2.2.2.2.2.2.2.1
theorem d81_51 : decode prog_1_method_10_code 51 = .ok (.aload_n 1, 1) := dd81_30.2.2.2.2.2.2.2.2.2.2.2.2.1
theorem d81_52 : decode prog_1_method_10_code 52 = .ok (.invokevirtual 152, 3) := dd81_30.2.2.2.2.2.2.2.2.2.2.2.2.2.1
theorem d81_55 : decode prog_1_method_10_code 55 = .ok (.aload_n 0, 1) := dd81_30.2.2.2.2.2.2.2.2.2.2.2.2.2.2.1
theorem d81_56 : decode prog_1_method_10_code 56 = .ok (.getfield 142, 3) := dd81_30.2.2.2.2.2.2.2.2.2.2.2.2.2.2.2
theorem dd81_59 : (decode prog_1_method_10_code 59 = .ok (.istore_n 3, 1)) ∧ (decode prog_1_method_10_code 60 = .ok (.aload_n 0, 1)) ∧ (decode prog_1_method_10_code 61 = .ok (.dup, 1)) ∧ (decode prog_1_method_10_code 62 = .ok (.getfield 142, 3)) ∧ (decode prog_1_method_10_code 65 = .ok (.iconst 1, 1)) ∧ (decode prog_1_method_10_code 66 = .ok (.iadd, 1)) ∧ (decode prog_1_method_10_code 67 = .ok (.putfield 142, 3)) ∧ (decode prog_1_method_10_code 70 = .ok (.iload_n 3, 1)) ∧ (decode prog_1_method_10_code 71 = .ok (.ireturn, 1)) := by decide +kernel
theorem d81_59 : decode prog_1_method_10_code 59 = .ok (.istore_n 3, 1) := dd81_59.1
theorem d81_60 : decode prog_1_method_10_code 60 = .ok (.aload_n 0, 1) := dd81_59.2.1
theorem d81_61 : decode prog_1_method_10_code 61 = .ok (.dup, 1) := dd81_59.2.2.1
theorem d81_62 : decode prog_1_method_10_code 62 = .ok (.getfield 142, 3) := dd81_59.2.2.2.1
theorem d81_65 : decode prog_1_method_10_code 65 = .ok (.iconst 1, 1) := dd81_59.2.2.2.2.1
theorem d81_66 : decode prog_1_method_10_code 66 = .ok (.iadd, 1) := dd81_59.2.2.2.2.2.1
theorem d81_67 : decode prog_1_method_10_code 67 = .ok (.putfield 142, 3) := dd81_59.2.2.2.2.2.2.1
theorem d81_70 : decode prog_1_method_10_code 70 = .ok (.iload_n 3, 1) := dd81_59.2.2.2.2.2.2.2.1
theorem d81_71 : decode prog_1_method_10_code 71 = .ok (.ireturn, 1) := dd81_59.2.2.2.2.2.2.2.2
theorem b81_0 {d : Nat} {S : mm_S} {a0 : Nat} (h0 : mm_obj S a0 11 = true) : mm_ex d 81 0 [.ref a0, .null, .null, .null] [] S =
    if (mm_M S a0 11) < (nI 6) then mm_ex d 81 12 [.ref a0, .null, .null, .null] [] S else mm_ex d 81 9 [.ref a0, .null, .null, .null] [] S :=
  Eq.trans (mx_aload_n t81 d81_0 (x := a0) rfl) <|
  Eq.trans (mx_geti t81 d81_1 rfl fl11_142 h0) <|
  Eq.trans (mx_bipush t81 d81_4 (v := nI 6) rfl) <|
  (mx_clt t81 d81_6 (tgt := 12) (by decide))
theorem b81_9 {d : Nat} {S : mm_S} {a0 : Nat} : mm_ex d 81 9 [.ref a0, .null, .null, .null] [] S =
    some (some (.int (-4)), S) :=
  Eq.trans (mx_bipush t81 d81_9 (v := -4) rfl) <|
  (mx_iret t81 d81_11 (ty := .int) rfl rfl (fun h => nomatch h))
theorem b81_12 {d : Nat} {S : mm_S} {a0 : Nat} (h0 : mm_obj S a0 11 = true) (h1 : (mm_R S a0 4).isSome = true) (h2 : mm_inb (mm_M S a0 11) (mm_N S (mm_rg S a0 4)) = true) (h3 : (mm_arr S (mm_rg S a0 4) 16 || mm_arr S (mm_rg S a0 4) 17 || mm_arr S (mm_rg S a0 4) 18) = true) (h4 : (mm_R S (mm_rg S a0 4) (mm_M S a0 11).toNatClampNeg).isSome = true) (h5 : (mm_R S a0 5).isSome = true) (h6 : mm_rk S (mm_rg S a0 5) = 5) : mm_ex (d + 1) 81 12 [.ref a0, .null, .null, .null] [] S =
    mm_bd (mm_cl d 37 [.ref (mm_rg S a0 5), .ref (mm_rg S (mm_rg S a0 4) (mm_M S a0 11).toNatClampNeg)] S) (fun v S2 => mm_ex (d + 1) 81 30 [.ref a0, .ref (mm_rg S (mm_rg S a0 4) (mm_M S a0 11).toNatClampNeg), .null, .null] (v.toList ++ []) S2) :=
  Eq.trans (mx_aload_n t81 d81_12 (x := a0) rfl) <|
  Eq.trans (mx_getR t81 d81_13 rfl fl11_32 h0 h1) <|
  Eq.trans (mx_aload_n t81 d81_16 (x := a0) rfl) <|
  Eq.trans (mx_geti t81 d81_17 rfl fl11_142 h0) <|
  Eq.trans (mx_qaldR t81 d81_20 h3 h2 h4) <|
  Eq.trans (mx_astore_n t81 d81_21 (ls' := [.ref a0, .ref (mm_rg S (mm_rg S a0 4) (mm_M S a0 11).toNatClampNeg), .null, .null]) rfl rfl) <|
  Eq.trans (mx_aload_n t81 d81_22 (x := a0) rfl) <|
  Eq.trans (mx_getR t81 d81_23 rfl fl11_39 h0 h5) <|
  Eq.trans (mx_aload_n t81 d81_26 (x := mm_rg S (mm_rg S a0 4) (mm_M S a0 11).toNatClampNeg) rfl) <|
  (mx_virt (st := []) (k := 5) t81 [.ref (mm_rg S (mm_rg S a0 4) (mm_M S a0 11).toNatClampNeg)] d81_27 vt11_145 rfl rfl (Nat.le_of_ble_eq_true rfl) (Nat.le_of_ble_eq_true rfl) h6)
theorem b81_30 {d : Nat} {S : mm_S} {a0 : Nat} {a1 : Nat} {p0 : Int32} (h0 : mm_obj S a0 11 = true) (h1 : (mm_R S a0 5).isSome = true) (h2 : mm_rk S (mm_rg S a0 5) = 5) : mm_ex (d + 1) 81 30 [.ref a0, .ref a1, .null, .null] [.int p0] S =
    mm_bd (mm_cl d 36 [.ref (mm_rg S a0 5)] S) (fun v S2 => mm_ex (d + 1) 81 38 [.ref a0, .ref a1, .int p0, .null] (v.toList ++ []) S2) :=
  Eq.trans (mx_istore_n t81 d81_30 (ls' := [.ref a0, .ref a1, .int p0, .null]) rfl rfl) <|
  Eq.trans (mx_aload_n t81 d81_31 (x := a0) rfl) <|
  Eq.trans (mx_getR t81 d81_32 rfl fl11_39 h0 h1) <|
  (mx_virt (st := []) (k := 5) t81 [] d81_35 vt11_149 rfl rfl (Nat.le_of_ble_eq_true rfl) (Nat.le_of_ble_eq_true rfl) h2)
theorem b81_38 {d : Nat} {S : mm_S} {a0 : Nat} {a1 : Nat} {x2 : Int32} : mm_ex d 81 38 [.ref a0, .ref a1, .int x2, .null] [] S =
    if x2 < nI 0 then mm_ex d 81 47 [.ref a0, .ref a1, .int x2, .null] [] S else mm_ex d 81 42 [.ref a0, .ref a1, .int x2, .null] [] S :=
  Eq.trans (mx_iload_n t81 d81_38 (x := x2) rfl) <|
  (mx_ilt t81 d81_39 (tgt := 47) (by decide))
theorem b81_42 {d : Nat} {S : mm_S} {a0 : Nat} {a1 : Nat} {x2 : Int32} : mm_ex d 81 42 [.ref a0, .ref a1, .int x2, .null] [] S =
    some (some (.int ((-10) - x2)), S) :=
  Eq.trans (mx_bipush t81 d81_42 (v := -10) rfl) <|
  Eq.trans (mx_iload_n t81 d81_44 (x := x2) rfl) <|
  Eq.trans (mx_isub t81 d81_45) <|
  (mx_iret t81 d81_46 (ty := .int) rfl rfl (fun h => nomatch h))
theorem b81_47 {d : Nat} {S : mm_S} {a0 : Nat} {a1 : Nat} {x2 : Int32} (h0 : mm_obj S a0 11 = true) (h1 : (mm_R S a0 0).isSome = true) (h2 : mm_rk S (mm_rg S a0 0) = 1) : mm_ex (d + 1) 81 47 [.ref a0, .ref a1, .int x2, .null] [] S =
    mm_bd (mm_cl d 10 [.ref (mm_rg S a0 0), .ref a1] S) (fun v S2 => mm_ex (d + 1) 81 55 [.ref a0, .ref a1, .int x2, .null] (v.toList ++ []) S2) :=
  Eq.trans (mx_aload_n t81 d81_47 (x := a0) rfl) <|
  Eq.trans (mx_getR t81 d81_48 rfl fl11_17 h0 h1) <|
  Eq.trans (mx_aload_n t81 d81_51 (x := a1) rfl) <|
  (mx_virt (st := []) (k := 1) t81 [.ref a1] d81_52 vt11_152 rfl rfl (Nat.le_of_ble_eq_true rfl) (Nat.le_of_ble_eq_true rfl) h2)
theorem b81_55 {d : Nat} {S : mm_S} {a0 : Nat} {a1 : Nat} {x2 : Int32} (h0 : mm_obj S a0 11 = true) : mm_ex d 81 55 [.ref a0, .ref a1, .int x2, .null] [] S =
    some (some (.int (mm_M S a0 11)), (mm_uM S a0 11 ((mm_M S a0 11) + (nI 1)))) :=
  Eq.trans (mx_aload_n t81 d81_55 (x := a0) rfl) <|
  Eq.trans (mx_geti t81 d81_56 rfl fl11_142 h0) <|
  Eq.trans (mx_istore_n t81 d81_59 (ls' := [.ref a0, .ref a1, .int x2, .int (mm_M S a0 11)]) rfl rfl) <|
  Eq.trans (mx_aload_n t81 d81_60 (x := a0) rfl) <|
  Eq.trans (mx_dupr t81 d81_61) <|
  Eq.trans (mx_geti t81 d81_62 rfl fl11_142 h0) <|
  Eq.trans (mx_iconst t81 d81_65 (v := nI 1) rfl) <|
  Eq.trans (mx_iadd t81 d81_66) <|
  Eq.trans (mx_puti2 t81 d81_67 fl11_142 rfl h0) <|
  Eq.trans (mx_iload_n t81 d81_70 (x := mm_M S a0 11) rfl) <|
  (mx_iret t81 d81_71 (ty := .int) rfl rfl (fun h => nomatch h))
theorem e81 {d : Nat} {S : mm_S} {a0 : Nat} : mm_cl d 81 [.ref a0] S = mm_ex d 81 0 [.ref a0, .null, .null, .null] [] S := mm_cl_eq t81 (Nat.le_of_ble_eq_true rfl) rfl
/-! X11_told -/
theorem dd82_0 : (decode prog_1_method_11_code 0 = .ok (.iload_n 1, 1)) ∧ (decode prog_1_method_11_code 1 = .ok (.tableswitch 150 0 9 #[55, 66, 77, 88, 99, 107, 115, 123, 131, 139], 55)) ∧ (decode prog_1_method_11_code 56 = .ok (.aload_n 0, 1)) ∧ (decode prog_1_method_11_code 57 = .ok (.getfield 17, 3)) ∧ (decode prog_1_method_11_code 60 = .ok (.getfield 155, 3)) ∧ (decode prog_1_method_11_code 63 = .ok (.getfield 159, 3)) ∧ (decode prog_1_method_11_code 66 = .ok (.ireturn, 1)) ∧ (decode prog_1_method_11_code 67 = .ok (.aload_n 0, 1)) ∧ (decode prog_1_method_11_code 68 = .ok (.getfield 17, 3)) ∧ (decode prog_1_method_11_code 71 = .ok (.getfield 155, 3)) ∧ (decode prog_1_method_11_code 74 = .ok (.getfield 162, 3)) ∧ (decode prog_1_method_11_code 77 = .ok (.ireturn, 1)) ∧ (decode prog_1_method_11_code 78 = .ok (.aload_n 0, 1)) ∧ (decode prog_1_method_11_code 79 = .ok (.getfield 17, 3)) ∧ (decode prog_1_method_11_code 82 = .ok (.getfield 155, 3)) ∧ (decode prog_1_method_11_code 85 = .ok (.getfield 165, 3)) := by decide +kernel
theorem d82_0 : decode prog_1_method_11_code 0 = .ok (.iload_n 1, 1) := dd82_0.1
theorem d82_1 : decode prog_1_method_11_code 1 = .ok (.tableswitch 150 0 9 #[55, 66, 77, 88, 99, 107, 115, 123, 131, 139], 55) := dd82_0.2.1
theorem d82_56 : decode prog_1_method_11_code 56 = .ok (.aload_n 0, 1) := dd82_0.2.2.1
theorem d82_57 : decode prog_1_method_11_code 57 = .ok (.getfield 17, 3) := dd82_0.2.2.2.1
theorem d82_60 : decode prog_1_method_11_code 60 = .ok (.getfield 155, 3) := dd82_0.2.2.2.2.1
theorem d82_63 : decode prog_1_method_11_code 63 = .ok (.getfield 159, 3) := dd82_0.2.2.2.2.2.1
theorem d82_66 : decode prog_1_method_11_code 66 = .ok (.ireturn, 1) := dd82_0.2.2.2.2.2.2.1
theorem d82_67 : decode prog_1_method_11_code 67 = .ok (.aload_n 0, 1) := dd82_0.2.2.2.2.2.2.2.1
theorem d82_68 : decode prog_1_method_11_code 68 = .ok (.getfield 17, 3) := dd82_0.2.2.2.2.2.2.2.2.1
theorem d82_71 : decode prog_1_method_11_code 71 = .ok (.getfield 155, 3) := dd82_0.2.2.2.2.2.2.2.2.2.1
theorem d82_74 : decode prog_1_method_11_code 74 = .ok (.getfield 162, 3) := dd82_0.2.2.2.2.2.2.2.2.2.2.1
theorem d82_77 : decode prog_1_method_11_code 77 = .ok (.ireturn, 1) := dd82_0.2.2.2.2.2.2.2.2.2.2.2.1
theorem d82_78 : decode prog_1_method_11_code 78 = .ok (.aload_n 0, 1) := dd82_0.2.2.2.2.2.2.2.2.2.2.2.2.1
theorem d82_79 : decode prog_1_method_11_code 79 = .ok (.getfield 17, 3) := dd82_0.2.2.2.2.2.2.2.2.2.2.2.2.2.1
theorem d82_82 : decode prog_1_method_11_code 82 = .ok (.getfield 155, 3) := dd82_0.2.2.2.2.2.2.2.2.2.2.2.2.2.2.1
theorem d82_85 : decode prog_1_method_11_code 85 = .ok (.getfield 165, 3) := dd82_0.2.2.2.2.2.2.2.2.2.2.2.2.2.2.2
theorem dd82_88 : (decode prog_1_method_11_code 88 = .ok (.ireturn, 1)) ∧ (decode prog_1_method_11_code 89 = .ok (.aload_n 0, 1)) ∧ (decode prog_1_method_11_code 90 = .ok (.getfield 17, 3)) ∧ (decode prog_1_method_11_code 93 = .ok (.getfield 155, 3)) ∧ (decode prog_1_method_11_code 96 = .ok (.getfield 168, 3)) ∧ (decode prog_1_method_11_code 99 = .ok (.ireturn, 1)) ∧ (decode prog_1_method_11_code 100 = .ok (.aload_n 0, 1)) ∧ (decode prog_1_method_11_code 101 = .ok (.getfield 17, 3)) ∧ (decode prog_1_method_11_code 104 = .ok (.getfield 130, 3)) ∧ (decode prog_1_method_11_code 107 = .ok (.ireturn, 1)) ∧ (decode prog_1_method_11_code 108 = .ok (.aload_n 0, 1)) ∧ (decode prog_1_method_11_code 109 = .ok (.getfield 17, 3)) ∧ (decode prog_1_method_11_code 112 = .ok (.getfield 133, 3)) ∧ (decode prog_1_method_11_code 115 = .ok (.ireturn, 1)) ∧ (decode prog_1_method_11_code 116 = .ok (.aload_n 0, 1)) ∧ (decode prog_1_method_11_code 117 = .ok (.getfield 17, 3)) := by decide +kernel
theorem d82_88 : decode prog_1_method_11_code 88 = .ok (.ireturn, 1) := dd82_88.1
theorem d82_89 : decode prog_1_method_11_code 89 = .ok (.aload_n 0, 1) := dd82_88.2.1
theorem d82_90 : decode prog_1_method_11_code 90 = .ok (.getfield 17, 3) := dd82_88.2.2.1
theorem d82_93 : decode prog_1_method_11_code 93 = .ok (.getfield 155, 3) := dd82_88.2.2.2.1
theorem d82_96 : decode prog_1_method_11_code 96 = .ok (.getfield 168, 3) := dd82_88.2.2.2.2.1
theorem d82_99 : decode prog_1_method_11_code 99 = .ok (.ireturn, 1) := dd82_88.2.2.2.2.2.1
theorem d82_100 : decode prog_1_method_11_code 100 = .ok (.aload_n 0, 1) := dd82_88.2.2.2.2.2.2.1
theorem d82_101 : decode prog_1_method_11_code 101 = .ok (.getfield 17, 3) := dd82_88.2.2.2.2.2.2.2.1
theorem d82_104 : decode prog_1_method_11_code 104 = .ok (.getfield 130, 3) := dd82_88.2.2.2.2.2.2.2.2.1
theorem d82_107 : decode prog_1_method_11_code 107 = .ok (.ireturn, 1) := dd82_88.2.2.2.2.2.2.2.2.2.1
theorem d82_108 : decode prog_1_method_11_code 108 = .ok (.aload_n 0, 1) := dd82_88.2.2.2.2.2.2.2.2.2.2.1
theorem d82_109 : decode prog_1_method_11_code 109 = .ok (.getfield 17, 3) := dd82_88.2.2.2.2.2.2.2.2.2.2.2.1
theorem d82_112 : decode prog_1_method_11_code 112 = .ok (.getfield 133, 3) := dd82_88.2.2.2.2.2.2.2.2.2.2.2.2.1
theorem d82_115 : decode prog_1_method_11_code 115 = .ok (.ireturn, 1) := dd82_88.2.2.2.2.2.2.2.2.2.2.2.2.2.1
theorem d82_116 : decode prog_1_method_11_code 116 = .ok (.aload_n 0, 1) := dd82_88.2.2.2.2.2.2.2.2.2.2.2.2.2.2.1
theorem d82_117 : decode prog_1_method_11_code 117 = .ok (.getfield 17, 3) := dd82_88.2.2.2.2.2.2.2.2.2.2.2.2.2.2.2
theorem dd82_120 : (decode prog_1_method_11_code 120 = .ok (.getfield 171, 3)) ∧ (decode prog_1_method_11_code 123 = .ok (.ireturn, 1)) ∧ (decode prog_1_method_11_code 124 = .ok (.aload_n 0, 1)) ∧ (decode prog_1_method_11_code 125 = .ok (.getfield 17, 3)) ∧ (decode prog_1_method_11_code 128 = .ok (.getfield 174, 3)) ∧ (decode prog_1_method_11_code 131 = .ok (.ireturn, 1)) ∧ (decode prog_1_method_11_code 132 = .ok (.aload_n 0, 1)) ∧ (decode prog_1_method_11_code 133 = .ok (.getfield 17, 3)) ∧ (decode prog_1_method_11_code 136 = .ok (.getfield 177, 3)) ∧ (decode prog_1_method_11_code 139 = .ok (.ireturn, 1)) ∧ (decode prog_1_method_11_code 140 = .ok (.aload_n 0, 1)) ∧ (decode prog_1_method_11_code 141 = .ok (.getfield 17, 3)) ∧ (decode prog_1_method_11_code 144 = .ok (.invokevirtual 180, 3)) ∧ (decode prog_1_method_11_code 147 = .ok (.invokestatic 97, 3)) ∧ (decode prog_1_method_11_code 150 = .ok (.ireturn, 1)) ∧ (decode prog_1_method_11_code 151 = .ok (.iconst (-1), 1)) := by decide +kernel
theorem d82_120 : decode prog_1_method_11_code 120 = .ok (.getfield 171, 3) := dd82_120.1
theorem d82_123 : decode prog_1_method_11_code 123 = .ok (.ireturn, 1) := dd82_120.2.1
theorem d82_124 : decode prog_1_method_11_code 124 = .ok (.aload_n 0, 1) := dd82_120.2.2.1
theorem d82_125 : decode prog_1_method_11_code 125 = .ok (.getfield 17, 3) := dd82_120.2.2.2.1
theorem d82_128 : decode prog_1_method_11_code 128 = .ok (.getfield 174, 3) := dd82_120.2.2.2.2.1
theorem d82_131 : decode prog_1_method_11_code 131 = .ok (.ireturn, 1) := dd82_120.2.2.2.2.2.1
theorem d82_132 : decode prog_1_method_11_code 132 = .ok (.aload_n 0, 1) := dd82_120.2.2.2.2.2.2.1
theorem d82_133 : decode prog_1_method_11_code 133 = .ok (.getfield 17, 3) := dd82_120.2.2.2.2.2.2.2.1
theorem d82_136 : decode prog_1_method_11_code 136 = .ok (.getfield 177, 3) := dd82_120.2.2.2.2.2.2.2.2.1
theorem d82_139 : decode prog_1_method_11_code 139 = .ok (.ireturn, 1) := dd82_120.2.2.2.2.2.2.2.2.2.1
theorem d82_140 : decode prog_1_method_11_code 140 = .ok (.aload_n 0, 1) := dd82_120.2.2.2.2.2.2.2.2.2.2.1
theorem d82_141 : decode prog_1_method_11_code 141 = .ok (.getfield 17, 3) := dd82_120.2.2.2.2.2.2.2.2.2.2.2.1
theorem d82_144 : decode prog_1_method_11_code 144 = .ok (.invokevirtual 180, 3) := dd82_120.2.2.2.2.2.2.2.2.2.2.2.2.1
theorem d82_147 : decode prog_1_method_11_code 147 = .ok (.invokestatic 97, 3) := dd82_120.2.2.2.2.2.2.2.2.2.2.2.2.2.1
theorem d82_150 : decode prog_1_method_11_code 150 = .ok (.ireturn, 1) := dd82_120.2.2.2.2.2.2.2.2.2.2.2.2.2.2.1
theorem d82_151 : decode prog_1_method_11_code 151 = .ok (.iconst (-1), 1) := dd82_120.2.2.2.2.2.2.2.2.2.2.2.2.2.2.2
theorem d82_152 : decode prog_1_method_11_code 152 = .ok (.ireturn, 1) := by decide +kernel
theorem b82_0 {d : Nat} {S : mm_S} {a0 : Nat} {x1 : Int32} : mm_ex d 82 0 [.ref a0, .int x1] [] S =
    mm_ex d 82 1 [.ref a0, .int x1] [.int x1] S :=
  (mx_iload_n t82 d82_0 (x := x1) rfl)
theorem b82_1 {d : Nat} {S : mm_S} {a0 : Nat} {x1 : Int32} {p0 : Int32} : mm_ex d 82 1 [.ref a0, .int x1] [.int p0] S =
    if p0 = nI 0 then mm_ex d 82 56 [.ref a0, .int x1] [] S else if p0 = nI 1 then mm_ex d 82 67 [.ref a0, .int x1] [] S else if p0 = nI 2 then mm_ex d 82 78 [.ref a0, .int x1] [] S else if p0 = nI 3 then mm_ex d 82 89 [.ref a0, .int x1] [] S else if p0 = nI 4 then mm_ex d 82 100 [.ref a0, .int x1] [] S else if p0 = nI 5 then mm_ex d 82 108 [.ref a0, .int x1] [] S else if p0 = nI 6 then mm_ex d 82 116 [.ref a0, .int x1] [] S else if p0 = nI 7 then mm_ex d 82 124 [.ref a0, .int x1] [] S else if p0 = nI 8 then mm_ex d 82 132 [.ref a0, .int x1] [] S else if p0 = nI 9 then mm_ex d 82 140 [.ref a0, .int x1] [] S else mm_ex d 82 151 [.ref a0, .int x1] [] S := by
  by_cases e0 : p0 = nI 0
  · subst e0
    rw [if_pos rfl]
    exact mx_tswI t82 d82_1 (by decide) (off := 55) (by decide) (by decide)
  by_cases e1 : p0 = nI 1
  · subst e1
    rw [if_neg (by decide), if_pos rfl]
    exact mx_tswI t82 d82_1 (by decide) (off := 66) (by decide) (by decide)
  by_cases e2 : p0 = nI 2
  · subst e2
    rw [if_neg (by decide), if_neg (by decide), if_pos rfl]
    exact mx_tswI t82 d82_1 (by decide) (off := 77) (by decide) (by decide)
  by_cases e3 : p0 = nI 3
  · subst e3
    rw [if_neg (by decide), if_neg (by decide), if_neg (by decide), if_pos rfl]
    exact mx_tswI t82 d82_1 (by decide) (off := 88) (by decide) (by decide)
  by_cases e4 : p0 = nI 4
  · subst e4
    rw [if_neg (by decide), if_neg (by decide), if_neg (by decide), if_neg (by decide), if_pos rfl]
    exact mx_tswI t82 d82_1 (by decide) (off := 99) (by decide) (by decide)
  by_cases e5 : p0 = nI 5
  · subst e5
    rw [if_neg (by decide), if_neg (by decide), if_neg (by decide), if_neg (by decide), if_neg (by decide), if_pos rfl]
    exact mx_tswI t82 d82_1 (by decide) (off := 107) (by decide) (by decide)
  by_cases e6 : p0 = nI 6
  · subst e6
    rw [if_neg (by decide), if_neg (by decide), if_neg (by decide), if_neg (by decide), if_neg (by decide), if_neg (by decide), if_pos rfl]
    exact mx_tswI t82 d82_1 (by decide) (off := 115) (by decide) (by decide)
  by_cases e7 : p0 = nI 7
  · subst e7
    rw [if_neg (by decide), if_neg (by decide), if_neg (by decide), if_neg (by decide), if_neg (by decide), if_neg (by decide), if_neg (by decide), if_pos rfl]
    exact mx_tswI t82 d82_1 (by decide) (off := 123) (by decide) (by decide)
  by_cases e8 : p0 = nI 8
  · subst e8
    rw [if_neg (by decide), if_neg (by decide), if_neg (by decide), if_neg (by decide), if_neg (by decide), if_neg (by decide), if_neg (by decide), if_neg (by decide), if_pos rfl]
    exact mx_tswI t82 d82_1 (by decide) (off := 131) (by decide) (by decide)
  by_cases e9 : p0 = nI 9
  · subst e9
    rw [if_neg (by decide), if_neg (by decide), if_neg (by decide), if_neg (by decide), if_neg (by decide), if_neg (by decide), if_neg (by decide), if_neg (by decide), if_neg (by decide), if_pos rfl]
    exact mx_tswI t82 d82_1 (by decide) (off := 139) (by decide) (by decide)
  rw [if_neg e0, if_neg e1, if_neg e2, if_neg e3, if_neg e4, if_neg e5, if_neg e6, if_neg e7, if_neg e8, if_neg e9]
  have g0 := mm_ni32 e0
  have g1 := mm_ni32 e1
  have g2 := mm_ni32 e2
  have g3 := mm_ni32 e3
  have g4 := mm_ni32 e4
  have g5 := mm_ni32 e5
  have g6 := mm_ni32 e6
  have g7 := mm_ni32 e7
  have g8 := mm_ni32 e8
  have g9 := mm_ni32 e9
  rw [show (nI 0 : Int32).toInt = 0 by decide] at g0
  rw [show (nI 1 : Int32).toInt = 1 by decide] at g1
  rw [show (nI 2 : Int32).toInt = 2 by decide] at g2
  rw [show (nI 3 : Int32).toInt = 3 by decide] at g3
  rw [show (nI 4 : Int32).toInt = 4 by decide] at g4
  rw [show (nI 5 : Int32).toInt = 5 by decide] at g5
  rw [show (nI 6 : Int32).toInt = 6 by decide] at g6
  rw [show (nI 7 : Int32).toInt = 7 by decide] at g7
  rw [show (nI 8 : Int32).toInt = 8 by decide] at g8
  rw [show (nI 9 : Int32).toInt = 9 by decide] at g9
  exact mx_tswD t82 d82_1 (by omega) (by decide)
theorem b82_56 {d : Nat} {S : mm_S} {a0 : Nat} {x1 : Int32} (h0 : mm_obj S a0 11 = true) (h1 : (mm_R S a0 0).isSome = true) (h2 : mm_obj S (mm_rg S a0 0) 1 = true) (h3 : (mm_R S (mm_rg S a0 0) 8).isSome = true) (h4 : mm_obj S (mm_rg S (mm_rg S a0 0) 8) 6 = true) : mm_ex d 82 56 [.ref a0, .int x1] [] S =
    some (some (.int (mm_M S (mm_rg S (mm_rg S a0 0) 8) 0)), S) :=
  Eq.trans (mx_aload_n t82 d82_56 (x := a0) rfl) <|
  Eq.trans (mx_getR t82 d82_57 rfl fl11_17 h0 h1) <|
  Eq.trans (mx_getR t82 d82_60 rfl fl11_155 h2 h3) <|
  Eq.trans (mx_geti t82 d82_63 rfl fl11_159 h4) <|
  (mx_iret t82 d82_66 (ty := .int) rfl rfl (fun h => nomatch h))
theorem b82_67 {d : Nat} {S : mm_S} {a0 : Nat} {x1 : Int32} (h0 : mm_obj S a0 11 = true) (h1 : (mm_R S a0 0).isSome = true) (h2 : mm_obj S (mm_rg S a0 0) 1 = true) (h3 : (mm_R S (mm_rg S a0 0) 8).isSome = true) (h4 : mm_obj S (mm_rg S (mm_rg S a0 0) 8) 6 = true) : mm_ex d 82 67 [.ref a0, .int x1] [] S =
    some (some (.int (mm_M S (mm_rg S (mm_rg S a0 0) 8) 1)), S) :=
  Eq.trans (mx_aload_n t82 d82_67 (x := a0) rfl) <|
  Eq.trans (mx_getR t82 d82_68 rfl fl11_17 h0 h1) <|
  Eq.trans (mx_getR t82 d82_71 rfl fl11_155 h2 h3) <|
  Eq.trans (mx_geti t82 d82_74 rfl fl11_162 h4) <|
  (mx_iret t82 d82_77 (ty := .int) rfl rfl (fun h => nomatch h))
theorem b82_78 {d : Nat} {S : mm_S} {a0 : Nat} {x1 : Int32} (h0 : mm_obj S a0 11 = true) (h1 : (mm_R S a0 0).isSome = true) (h2 : mm_obj S (mm_rg S a0 0) 1 = true) (h3 : (mm_R S (mm_rg S a0 0) 8).isSome = true) (h4 : mm_obj S (mm_rg S (mm_rg S a0 0) 8) 6 = true) : mm_ex d 82 78 [.ref a0, .int x1] [] S =
    some (some (.int (mm_M S (mm_rg S (mm_rg S a0 0) 8) 2)), S) :=
  Eq.trans (mx_aload_n t82 d82_78 (x := a0) rfl) <|
  Eq.trans (mx_getR t82 d82_79 rfl fl11_17 h0 h1) <|
  Eq.trans (mx_getR t82 d82_82 rfl fl11_155 h2 h3) <|
  Eq.trans (mx_geti t82 d82_85 rfl fl11_165 h4) <|
  (mx_iret t82 d82_88 (ty := .int) rfl rfl (fun h => nomatch h))
theorem b82_89 {d : Nat} {S : mm_S} {a0 : Nat} {x1 : Int32} (h0 : mm_obj S a0 11 = true) (h1 : (mm_R S a0 0).isSome = true) (h2 : mm_obj S (mm_rg S a0 0) 1 = true) (h3 : (mm_R S (mm_rg S a0 0) 8).isSome = true) (h4 : mm_obj S (mm_rg S (mm_rg S a0 0) 8) 6 = true) : mm_ex d 82 89 [.ref a0, .int x1] [] S =
    some (some (.int (mm_M S (mm_rg S (mm_rg S a0 0) 8) 3)), S) :=
  Eq.trans (mx_aload_n t82 d82_89 (x := a0) rfl) <|
  Eq.trans (mx_getR t82 d82_90 rfl fl11_17 h0 h1) <|
  Eq.trans (mx_getR t82 d82_93 rfl fl11_155 h2 h3) <|
  Eq.trans (mx_geti t82 d82_96 rfl fl11_168 h4) <|
  (mx_iret t82 d82_99 (ty := .int) rfl rfl (fun h => nomatch h))
theorem b82_100 {d : Nat} {S : mm_S} {a0 : Nat} {x1 : Int32} (h0 : mm_obj S a0 11 = true) (h1 : (mm_R S a0 0).isSome = true) (h2 : mm_obj S (mm_rg S a0 0) 1 = true) : mm_ex d 82 100 [.ref a0, .int x1] [] S =
    some (some (.int (mm_M S (mm_rg S a0 0) 12)), S) :=
  Eq.trans (mx_aload_n t82 d82_100 (x := a0) rfl) <|
  Eq.trans (mx_getR t82 d82_101 rfl fl11_17 h0 h1) <|
  Eq.trans (mx_geti t82 d82_104 rfl fl11_130 h2) <|
  (mx_iret t82 d82_107 (ty := .int) rfl rfl (fun h => nomatch h))
theorem b82_108 {d : Nat} {S : mm_S} {a0 : Nat} {x1 : Int32} (h0 : mm_obj S a0 11 = true) (h1 : (mm_R S a0 0).isSome = true) (h2 : mm_obj S (mm_rg S a0 0) 1 = true) : mm_ex d 82 108 [.ref a0, .int x1] [] S =
    some (some (.int (mm_M S (mm_rg S a0 0) 13)), S) :=
  Eq.trans (mx_aload_n t82 d82_108 (x := a0) rfl) <|
  Eq.trans (mx_getR t82 d82_109 rfl fl11_17 h0 h1) <|
  Eq.trans (mx_geti t82 d82_112 rfl fl11_133 h2) <|
  (mx_iret t82 d82_115 (ty := .int) rfl rfl (fun h => nomatch h))
theorem b82_116 {d : Nat} {S : mm_S} {a0 : Nat} {x1 : Int32} (h0 : mm_obj S a0 11 = true) (h1 : (mm_R S a0 0).isSome = true) (h2 : mm_obj S (mm_rg S a0 0) 1 = true) : mm_ex d 82 116 [.ref a0, .int x1] [] S =
    some (some (.int (mm_M S (mm_rg S a0 0) 14)), S) :=
  Eq.trans (mx_aload_n t82 d82_116 (x := a0) rfl) <|
  Eq.trans (mx_getR t82 d82_117 rfl fl11_17 h0 h1) <|
  Eq.trans (mx_geti t82 d82_120 rfl fl11_171 h2) <|
  (mx_iret t82 d82_123 (ty := .int) rfl rfl (fun h => nomatch h))
theorem b82_124 {d : Nat} {S : mm_S} {a0 : Nat} {x1 : Int32} (h0 : mm_obj S a0 11 = true) (h1 : (mm_R S a0 0).isSome = true) (h2 : mm_obj S (mm_rg S a0 0) 1 = true) : mm_ex d 82 124 [.ref a0, .int x1] [] S =
    some (some (.int (mm_M S (mm_rg S a0 0) 15)), S) :=
  Eq.trans (mx_aload_n t82 d82_124 (x := a0) rfl) <|
  Eq.trans (mx_getR t82 d82_125 rfl fl11_17 h0 h1) <|
  Eq.trans (mx_geti t82 d82_128 rfl fl11_174 h2) <|
  (mx_iret t82 d82_131 (ty := .int) rfl rfl (fun h => nomatch h))
theorem b82_132 {d : Nat} {S : mm_S} {a0 : Nat} {x1 : Int32} (h0 : mm_obj S a0 11 = true) (h1 : (mm_R S a0 0).isSome = true) (h2 : mm_obj S (mm_rg S a0 0) 1 = true) : mm_ex d 82 132 [.ref a0, .int x1] [] S =
    some (some (.int (mm_M S (mm_rg S a0 0) 11)), S) :=
  Eq.trans (mx_aload_n t82 d82_132 (x := a0) rfl) <|
  Eq.trans (mx_getR t82 d82_133 rfl fl11_17 h0 h1) <|
  Eq.trans (mx_geti t82 d82_136 rfl fl11_177 h2) <|
  (mx_iret t82 d82_139 (ty := .int) rfl rfl (fun h => nomatch h))
theorem b82_140 {d : Nat} {S : mm_S} {a0 : Nat} {x1 : Int32} (h0 : mm_obj S a0 11 = true) (h1 : (mm_R S a0 0).isSome = true) (h2 : mm_rk S (mm_rg S a0 0) = 1) : mm_ex (d + 1) 82 140 [.ref a0, .int x1] [] S =
    mm_bd (mm_cl d 11 [.ref (mm_rg S a0 0)] S) (fun v S2 => mm_ex (d + 1) 82 147 [.ref a0, .int x1] (v.toList ++ []) S2) :=
  Eq.trans (mx_aload_n t82 d82_140 (x := a0) rfl) <|
  Eq.trans (mx_getR t82 d82_141 rfl fl11_17 h0 h1) <|
  (mx_virt (st := []) (k := 1) t82 [] d82_144 vt11_180 rfl rfl (Nat.le_of_ble_eq_true rfl) (Nat.le_of_ble_eq_true rfl) h2)
theorem b82_147 {d : Nat} {S : mm_S} {a0 : Nat} {x1 : Int32} {p0 : Int32} : mm_ex (d + 1) 82 147 [.ref a0, .int x1] [.int p0] S =
    mm_bd (mm_cl d 108 [.int p0] S) (fun v S2 => mm_ex (d + 1) 82 150 [.ref a0, .int x1] (v.toList ++ []) S2) :=
  (mx_stat (st := []) t82 [.int p0] d82_147 acn11_97 mxn11_97 st11_97 rfl (Nat.le_of_ble_eq_true rfl) (Nat.le_of_ble_eq_true rfl))
theorem b82_150 {d : Nat} {S : mm_S} {a0 : Nat} {x1 : Int32} {p0 : Int32} : mm_ex d 82 150 [.ref a0, .int x1] [.int p0] S =
    some (some (.int p0), S) :=
  (mx_iret t82 d82_150 (ty := .int) rfl rfl (fun h => nomatch h))
theorem b82_151 {d : Nat} {S : mm_S} {a0 : Nat} {x1 : Int32} : mm_ex d 82 151 [.ref a0, .int x1] [] S =
    some (some (.int (-1)), S) :=
  Eq.trans (mx_iconst t82 d82_151 (v := -1) rfl) <|
  (mx_iret t82 d82_152 (ty := .int) rfl rfl (fun h => nomatch h))
theorem e82 {d : Nat} {S : mm_S} {a0 : Nat} {x1 : Int32} : mm_cl d 82 [.ref a0, .int x1] S = mm_ex d 82 0 [.ref a0, .int x1] [] S := mm_cl_eq t82 (Nat.le_of_ble_eq_true rfl) rfl
/-! X11_would -/
theorem dd83_0 : (decode prog_1_method_12_code 0 = .ok (.aload_n 0, 1)) ∧ (decode prog_1_method_12_code 1 = .ok (.getfield 17, 3)) ∧ (decode prog_1_method_12_code 4 = .ok (.iload_n 1, 1)) ∧ (decode prog_1_method_12_code 5 = .ok (.invokevirtual 77, 3)) ∧ (decode prog_1_method_12_code 8 = .ok (.ifCond .ne 5, 3)) ∧ (decode prog_1_method_12_code 11 = .ok (.iconst (-1), 1)) ∧ (decode prog_1_method_12_code 12 = .ok (.ireturn, 1)) ∧ (decode prog_1_method_12_code 13 = .ok (.aload_n 0, 1)) ∧ (decode prog_1_method_12_code 14 = .ok (.getfield 26, 3)) ∧ (decode prog_1_method_12_code 17 = .ok (.aload_n 0, 1)) ∧ (decode prog_1_method_12_code 18 = .ok (.getfield 17, 3)) ∧ (decode prog_1_method_12_code 21 = .ok (.invokevirtual 184, 3)) ∧ (decode prog_1_method_12_code 24 = .ok (.aload_n 0, 1)) ∧ (decode prog_1_method_12_code 25 = .ok (.getfield 26, 3)) ∧ (decode prog_1_method_12_code 28 = .ok (.iload_n 1, 1)) ∧ (decode prog_1_method_12_code 29 = .ok (.invokevirtual 188, 3)) := by decide +kernel
theorem d83_0 : decode prog_1_method_12_code 0 = .ok (.aload_n 0, 1) := dd83_0.1
theorem d83_1 : decode prog_1_method_12_code 1 = .ok (.getfield 17, 3) := dd83_0.2.1
theorem d83_4 : decode prog_1_method_12_code 4 = .ok (.iload_n 1, 1) := dd83_0.2.2.1
theorem d83_5 : decode prog_1_method_12_code 5 = .ok (.invokevirtual 77, 3) := dd83_0.2.2.2.1
theorem d83_8 : decode prog_1_method_12_code 8 = .ok (.ifCond .ne 5, 3) := dd83_0.2.2.2.2.1
theorem d83_11 : decode prog_1_method_12_code 11 = .ok (.iconst (-1), 1) := dd83_0.2.2.2.2.2.1
theorem d83_12 : decode prog_1_method_12_code 12 = .ok (.ireturn, 1) := dd83_0.2.2.2.2.2.2.1
theorem d83_13 : decode prog_1_method_12_code 13 = .ok (.aload_n 0, 1) := dd83_0.2.2.2.2.2.2.2.1
theorem d83_14 : decode prog_1_method_12_code 14 = .ok (.getfield 26, 3) := dd83_0.2.2.2.2.2.2.2.2.1
theorem d83_17 : decode prog_1_method_12_code 17 = .ok (.aload_n 0, 1) := dd83_0.2.2.2.2.2.2.2.2.2.1
theorem d83_18 : decode prog_1_method_12_code 18 = .ok (.getfield 17, 3) := dd83_0.2.2.2.2.2.2.2.2.2.2.1
theorem d83_21 : decode prog_1_method_12_code 21 = .ok (.invokevirtual 184, 3) := dd83_0.2.2.2.2.2.2.2.2.2.2.2.1
theorem d83_24 : decode prog_1_method_12_code 24 = .ok (.aload_n 0, 1) := dd83_0.2.2.2.2.2.2.2.2.2.2.2.2.1
theorem d83_25 : decode prog_1_method_12_code 25 = .ok (.getfield 26, 3) := dd83_0.2.2.2.2.2.2.2.2.2.2.2.2.2.1
theorem d83_28 : decode prog_1_method_12_code 28 = .ok (.iload_n 1, 1) := dd83_0.2.2.2.2.2.2.2.2.2.2.2.2.2.2.1
theorem d83_29 : decode prog_1_method_12_code 29 = .ok (.invokevirtual 188, 3) := dd83_0.2.2.2.2.2.2.2.2.2.2.2.2.2.2.2
theorem dd83_32 : (decode prog_1_method_12_code 32 = .ok (.aload_n 0, 1)) ∧ (decode prog_1_method_12_code 33 = .ok (.getfield 26, 3)) ∧ (decode prog_1_method_12_code 36 = .ok (.iload_n 1, 1)) ∧ (decode prog_1_method_12_code 37 = .ok (.invokevirtual 107, 3)) ∧ (decode prog_1_method_12_code 40 = .ok (.aload_n 0, 1)) ∧ (decode prog_1_method_12_code 41 = .ok (.getfield 26, 3)) ∧ (decode prog_1_method_12_code 44 = .ok (.getfield 81, 3)) ∧ (decode prog_1_method_12_code 47 = .ok (.iload_n 1, 1)) ∧ (decode prog_1_method_12_code 48 = .ok (.aaload, 1)) ∧ (decode prog_1_method_12_code 49 = .ok (.aload_n 0, 1)) ∧ (decode prog_1_method_12_code 50 = .ok (.getfield 26, 3)) ∧ (decode prog_1_method_12_code 53 = .ok (.invokevirtual 191, 3)) ∧ (decode prog_1_method_12_code 56 = .ok (.ireturn, 1)) := by decide +kernel
theorem d83_32 : decode prog_1_method_12_code 32 = .ok (.aload_n 0, 1) := dd83_32.1
theorem d83_33 : decode prog_1_method_12_code 33 = .ok (.getfield 26, 3) := dd83_32.2.1
theorem d83_36 : decode prog_1_method_12_code 36 = .ok (.iload_n 1, 1) := dd83_32.2.2.1
theorem d83_37 : decode prog_1_method_12_code 37 = .ok (.invokevirtual 107, 3) := dd83_32.2.2.2.1
theorem d83_40 : decode prog_1_method_12_code 40 = .ok (.aload_n 0, 1) := dd83_32.2.2.2.2.1
theorem d83_41 : decode prog_1_method_12_code 41 = .ok (.getfield 26, 3) := dd83_32.2.2.2.2.2.1
theorem d83_44 : decode prog_1_method_12_code 44 = .ok (.getfield 81, 3) := dd83_32.2.2.2.2.2.2.1
theorem d83_47 : decode prog_1_method_12_code 47 = .ok (.iload_n 1, 1) := dd83_32.2.2.2.2.2.2.2.1
theorem d83_48 : decode prog_1_method_12_code 48 = .ok (.aaload, 1) := dd83_32.2.2.2.2.2.2.2.2.1
theorem d83_49 : decode prog_1_method_12_code 49 = .ok (.aload_n 0, 1) := dd83_32.2.2.2.2.2.2.2.2.2.1
theorem d83_50 : decode prog_1_method_12_code 50 = .ok (.getfield 26, 3) := dd83_32.2.2.2.2.2.2.2.2.2.2.1
theorem d83_53 : decode prog_1_method_12_code 53 = .ok (.invokevirtual 191, 3) := dd83_32.2.2.2.2.2.2.2.2.2.2.2.1
theorem d83_56 : decode prog_1_method_12_code 56 = .ok (.ireturn, 1) := dd83_32.2.2.2.2.2.2.2.2.2.2.2.2
theorem b83_0 {d : Nat} {S : mm_S} {a0 : Nat} {x1 : Int32} (h0 : mm_obj S a0 11 = true) (h1 : (mm_R S a0 0).isSome = true) (h2 : mm_rk S (mm_rg S a0 0) = 1) : mm_ex (d + 1) 83 0 [.ref a0, .int x1] [] S =
    mm_bd (mm_cl d 8 [.ref (mm_rg S a0 0), .int x1] S) (fun v S2 => mm_ex (d + 1) 83 8 [.ref a0, .int x1] (v.toList ++ []) S2) :=
  Eq.trans (mx_aload_n t83 d83_0 (x := a0) rfl) <|
  Eq.trans (mx_getR t83 d83_1 rfl fl11_17 h0 h1) <|
  Eq.trans (mx_iload_n t83 d83_4 (x := x1) rfl) <|
  (mx_virt (st := []) (k := 1) t83 [.int x1] d83_5 vt11_77 rfl rfl (Nat.le_of_ble_eq_true rfl) (Nat.le_of_ble_eq_true rfl) h2)
theorem b83_8 {d : Nat} {S : mm_S} {a0 : Nat} {x1 : Int32} {p0 : Int32} : mm_ex d 83 8 [.ref a0, .int x1] [.int p0] S =
    if p0 = nI 0 then mm_ex d 83 11 [.ref a0, .int x1] [] S else mm_ex d 83 13 [.ref a0, .int x1] [] S :=
  (mx_ine t83 d83_8 (tgt := 13) (by decide))
theorem b83_11 {d : Nat} {S : mm_S} {a0 : Nat} {x1 : Int32} : mm_ex d 83 11 [.ref a0, .int x1] [] S =
    some (some (.int (-1)), S) :=
  Eq.trans (mx_iconst t83 d83_11 (v := -1) rfl) <|
  (mx_iret t83 d83_12 (ty := .int) rfl rfl (fun h => nomatch h))
theorem b83_13 {d : Nat} {S : mm_S} {a0 : Nat} {x1 : Int32} (h0 : mm_obj S a0 11 = true) (h1 : (mm_R S a0 2).isSome = true) (h2 : (mm_R S a0 0).isSome = true) (h3 : mm_rk S (mm_rg S a0 2) = 1) : mm_ex (d + 1) 83 13 [.ref a0, .int x1] [] S =
    mm_bd (mm_cl d 7 [.ref (mm_rg S a0 2), .ref (mm_rg S a0 0)] S) (fun v S2 => mm_ex (d + 1) 83 24 [.ref a0, .int x1] (v.toList ++ []) S2) :=
  Eq.trans (mx_aload_n t83 d83_13 (x := a0) rfl) <|
  Eq.trans (mx_getR t83 d83_14 rfl fl11_26 h0 h1) <|
  Eq.trans (mx_aload_n t83 d83_17 (x := a0) rfl) <|
  Eq.trans (mx_getR t83 d83_18 rfl fl11_17 h0 h2) <|
  (mx_virt (st := []) (k := 1) t83 [.ref (mm_rg S a0 0)] d83_21 vt11_184 rfl rfl (Nat.le_of_ble_eq_true rfl) (Nat.le_of_ble_eq_true rfl) h3)
theorem b83_24 {d : Nat} {S : mm_S} {a0 : Nat} {x1 : Int32} (h0 : mm_obj S a0 11 = true) (h1 : (mm_R S a0 2).isSome = true) (h2 : mm_rk S (mm_rg S a0 2) = 1) : mm_ex (d + 1) 83 24 [.ref a0, .int x1] [] S =
    mm_bd (mm_cl d 15 [.ref (mm_rg S a0 2), .int x1] S) (fun v S2 => mm_ex (d + 1) 83 32 [.ref a0, .int x1] (v.toList ++ []) S2) :=
  Eq.trans (mx_aload_n t83 d83_24 (x := a0) rfl) <|
  Eq.trans (mx_getR t83 d83_25 rfl fl11_26 h0 h1) <|
  Eq.trans (mx_iload_n t83 d83_28 (x := x1) rfl) <|
  (mx_virt (st := []) (k := 1) t83 [.int x1] d83_29 vt11_188 rfl rfl (Nat.le_of_ble_eq_true rfl) (Nat.le_of_ble_eq_true rfl) h2)
theorem b83_32 {d : Nat} {S : mm_S} {a0 : Nat} {x1 : Int32} (h0 : mm_obj S a0 11 = true) (h1 : (mm_R S a0 2).isSome = true) (h2 : mm_rk S (mm_rg S a0 2) = 1) : mm_ex (d + 1) 83 32 [.ref a0, .int x1] [] S =
    mm_bd (mm_cl d 19 [.ref (mm_rg S a0 2), .int x1] S) (fun v S2 => mm_ex (d + 1) 83 40 [.ref a0, .int x1] (v.toList ++ []) S2) :=
  Eq.trans (mx_aload_n t83 d83_32 (x := a0) rfl) <|
  Eq.trans (mx_getR t83 d83_33 rfl fl11_26 h0 h1) <|
  Eq.trans (mx_iload_n t83 d83_36 (x := x1) rfl) <|
  (mx_virt (st := []) (k := 1) t83 [.int x1] d83_37 vt11_107 rfl rfl (Nat.le_of_ble_eq_true rfl) (Nat.le_of_ble_eq_true rfl) h2)
theorem b83_40_k0 {d : Nat} {S : mm_S} {a0 : Nat} {x1 : Int32} (h0 : mm_obj S a0 11 = true) (h1 : (mm_R S a0 2).isSome = true) (h2 : mm_obj S (mm_rg S a0 2) 1 = true) (h3 : (mm_R S (mm_rg S a0 2) 0).isSome = true) (h4 : mm_inb x1 (mm_N S (mm_rg S (mm_rg S a0 2) 0)) = true) (h5 : (mm_arr S (mm_rg S (mm_rg S a0 2) 0) 16 || mm_arr S (mm_rg S (mm_rg S a0 2) 0) 17 || mm_arr S (mm_rg S (mm_rg S a0 2) 0) 18) = true) (h6 : (mm_R S (mm_rg S (mm_rg S a0 2) 0) (x1).toNatClampNeg).isSome = true) (h7 : mm_rk S (mm_rg S (mm_rg S (mm_rg S a0 2) 0) (x1).toNatClampNeg) = 0) : mm_ex (d + 1) 83 40 [.ref a0, .int x1] [] S =
    mm_bd (mm_cl d 2 [.ref (mm_rg S (mm_rg S (mm_rg S a0 2) 0) (x1).toNatClampNeg), .ref (mm_rg S a0 2)] S) (fun v S2 => mm_ex (d + 1) 83 56 [.ref a0, .int x1] (v.toList ++ []) S2) :=
  Eq.trans (mx_aload_n t83 d83_40 (x := a0) rfl) <|
  Eq.trans (mx_getR t83 d83_41 rfl fl11_26 h0 h1) <|
  Eq.trans (mx_getR t83 d83_44 rfl fl11_81 h2 h3) <|
  Eq.trans (mx_iload_n t83 d83_47 (x := x1) rfl) <|
  Eq.trans (mx_qaldR t83 d83_48 h5 h4 h6) <|
  Eq.trans (mx_aload_n t83 d83_49 (x := a0) rfl) <|
  Eq.trans (mx_getR t83 d83_50 rfl fl11_26 h0 h1) <|
  (mx_virt (st := []) (k := 0) t83 [.ref (mm_rg S a0 2)] d83_53 vt11_191 rfl rfl (Nat.le_of_ble_eq_true rfl) (Nat.le_of_ble_eq_true rfl) h7)
theorem b83_40_k2 {d : Nat} {S : mm_S} {a0 : Nat} {x1 : Int32} (h0 : mm_obj S a0 11 = true) (h1 : (mm_R S a0 2).isSome = true) (h2 : mm_obj S (mm_rg S a0 2) 1 = true) (h3 : (mm_R S (mm_rg S a0 2) 0).isSome = true) (h4 : mm_inb x1 (mm_N S (mm_rg S (mm_rg S a0 2) 0)) = true) (h5 : (mm_arr S (mm_rg S (mm_rg S a0 2) 0) 16 || mm_arr S (mm_rg S (mm_rg S a0 2) 0) 17 || mm_arr S (mm_rg S (mm_rg S a0 2) 0) 18) = true) (h6 : (mm_R S (mm_rg S (mm_rg S a0 2) 0) (x1).toNatClampNeg).isSome = true) (h7 : mm_rk S (mm_rg S (mm_rg S (mm_rg S a0 2) 0) (x1).toNatClampNeg) = 2) : mm_ex (d + 1) 83 40 [.ref a0, .int x1] [] S =
    mm_bd (mm_cl d 26 [.ref (mm_rg S (mm_rg S (mm_rg S a0 2) 0) (x1).toNatClampNeg), .ref (mm_rg S a0 2)] S) (fun v S2 => mm_ex (d + 1) 83 56 [.ref a0, .int x1] (v.toList ++ []) S2) :=
  Eq.trans (mx_aload_n t83 d83_40 (x := a0) rfl) <|
  Eq.trans (mx_getR t83 d83_41 rfl fl11_26 h0 h1) <|
  Eq.trans (mx_getR t83 d83_44 rfl fl11_81 h2 h3) <|
  Eq.trans (mx_iload_n t83 d83_47 (x := x1) rfl) <|
  Eq.trans (mx_qaldR t83 d83_48 h5 h4 h6) <|
  Eq.trans (mx_aload_n t83 d83_49 (x := a0) rfl) <|
  Eq.trans (mx_getR t83 d83_50 rfl fl11_26 h0 h1) <|
  (mx_virt (st := []) (k := 2) t83 [.ref (mm_rg S a0 2)] d83_53 vt11_191 rfl rfl (Nat.le_of_ble_eq_true rfl) (Nat.le_of_ble_eq_true rfl) h7)
theorem b83_40_k3 {d : Nat} {S : mm_S} {a0 : Nat} {x1 : Int32} (h0 : mm_obj S a0 11 = true) (h1 : (mm_R S a0 2).isSome = true) (h2 : mm_obj S (mm_rg S a0 2) 1 = true) (h3 : (mm_R S (mm_rg S a0 2) 0).isSome = true) (h4 : mm_inb x1 (mm_N S (mm_rg S (mm_rg S a0 2) 0)) = true) (h5 : (mm_arr S (mm_rg S (mm_rg S a0 2) 0) 16 || mm_arr S (mm_rg S (mm_rg S a0 2) 0) 17 || mm_arr S (mm_rg S (mm_rg S a0 2) 0) 18) = true) (h6 : (mm_R S (mm_rg S (mm_rg S a0 2) 0) (x1).toNatClampNeg).isSome = true) (h7 : mm_rk S (mm_rg S (mm_rg S (mm_rg S a0 2) 0) (x1).toNatClampNeg) = 3) : mm_ex (d + 1) 83 40 [.ref a0, .int x1] [] S =
    mm_bd (mm_cl d 29 [.ref (mm_rg S (mm_rg S (mm_rg S a0 2) 0) (x1).toNatClampNeg), .ref (mm_rg S a0 2)] S) (fun v S2 => mm_ex (d + 1) 83 56 [.ref a0, .int x1] (v.toList ++ []) S2) :=
  Eq.trans (mx_aload_n t83 d83_40 (x := a0) rfl) <|
  Eq.trans (mx_getR t83 d83_41 rfl fl11_26 h0 h1) <|
  Eq.trans (mx_getR t83 d83_44 rfl fl11_81 h2 h3) <|
  Eq.trans (mx_iload_n t83 d83_47 (x := x1) rfl) <|
  Eq.trans (mx_qaldR t83 d83_48 h5 h4 h6) <|
  Eq.trans (mx_aload_n t83 d83_49 (x := a0) rfl) <|
  Eq.trans (mx_getR t83 d83_50 rfl fl11_26 h0 h1) <|
  (mx_virt (st := []) (k := 3) t83 [.ref (mm_rg S a0 2)] d83_53 vt11_191 rfl rfl (Nat.le_of_ble_eq_true rfl) (Nat.le_of_ble_eq_true rfl) h7)
theorem b83_40_k4 {d : Nat} {S : mm_S} {a0 : Nat} {x1 : Int32} (h0 : mm_obj S a0 11 = true) (h1 : (mm_R S a0 2).isSome = true) (h2 : mm_obj S (mm_rg S a0 2) 1 = true) (h3 : (mm_R S (mm_rg S a0 2) 0).isSome = true) (h4 : mm_inb x1 (mm_N S (mm_rg S (mm_rg S a0 2) 0)) = true) (h5 : (mm_arr S (mm_rg S (mm_rg S a0 2) 0) 16 || mm_arr S (mm_rg S (mm_rg S a0 2) 0) 17 || mm_arr S (mm_rg S (mm_rg S a0 2) 0) 18) = true) (h6 : (mm_R S (mm_rg S (mm_rg S a0 2) 0) (x1).toNatClampNeg).isSome = true) (h7 : mm_rk S (mm_rg S (mm_rg S (mm_rg S a0 2) 0) (x1).toNatClampNeg) = 4) : mm_ex (d + 1) 83 40 [.ref a0, .int x1] [] S =
    mm_bd (mm_cl d 32 [.ref (mm_rg S (mm_rg S (mm_rg S a0 2) 0) (x1).toNatClampNeg), .ref (mm_rg S a0 2)] S) (fun v S2 => mm_ex (d + 1) 83 56 [.ref a0, .int x1] (v.toList ++ []) S2) :=
  Eq.trans (mx_aload_n t83 d83_40 (x := a0) rfl) <|
  Eq.trans (mx_getR t83 d83_41 rfl fl11_26 h0 h1) <|
  Eq.trans (mx_getR t83 d83_44 rfl fl11_81 h2 h3) <|
  Eq.trans (mx_iload_n t83 d83_47 (x := x1) rfl) <|
  Eq.trans (mx_qaldR t83 d83_48 h5 h4 h6) <|
  Eq.trans (mx_aload_n t83 d83_49 (x := a0) rfl) <|
  Eq.trans (mx_getR t83 d83_50 rfl fl11_26 h0 h1) <|
  (mx_virt (st := []) (k := 4) t83 [.ref (mm_rg S a0 2)] d83_53 vt11_191 rfl rfl (Nat.le_of_ble_eq_true rfl) (Nat.le_of_ble_eq_true rfl) h7)
theorem b83_40_k7 {d : Nat} {S : mm_S} {a0 : Nat} {x1 : Int32} (h0 : mm_obj S a0 11 = true) (h1 : (mm_R S a0 2).isSome = true) (h2 : mm_obj S (mm_rg S a0 2) 1 = true) (h3 : (mm_R S (mm_rg S a0 2) 0).isSome = true) (h4 : mm_inb x1 (mm_N S (mm_rg S (mm_rg S a0 2) 0)) = true) (h5 : (mm_arr S (mm_rg S (mm_rg S a0 2) 0) 16 || mm_arr S (mm_rg S (mm_rg S a0 2) 0) 17 || mm_arr S (mm_rg S (mm_rg S a0 2) 0) 18) = true) (h6 : (mm_R S (mm_rg S (mm_rg S a0 2) 0) (x1).toNatClampNeg).isSome = true) (h7 : mm_rk S (mm_rg S (mm_rg S (mm_rg S a0 2) 0) (x1).toNatClampNeg) = 7) : mm_ex (d + 1) 83 40 [.ref a0, .int x1] [] S =
    mm_bd (mm_cl d 56 [.ref (mm_rg S (mm_rg S (mm_rg S a0 2) 0) (x1).toNatClampNeg), .ref (mm_rg S a0 2)] S) (fun v S2 => mm_ex (d + 1) 83 56 [.ref a0, .int x1] (v.toList ++ []) S2) :=
  Eq.trans (mx_aload_n t83 d83_40 (x := a0) rfl) <|
  Eq.trans (mx_getR t83 d83_41 rfl fl11_26 h0 h1) <|
  Eq.trans (mx_getR t83 d83_44 rfl fl11_81 h2 h3) <|
  Eq.trans (mx_iload_n t83 d83_47 (x := x1) rfl) <|
  Eq.trans (mx_qaldR t83 d83_48 h5 h4 h6) <|
  Eq.trans (mx_aload_n t83 d83_49 (x := a0) rfl) <|
  Eq.trans (mx_getR t83 d83_50 rfl fl11_26 h0 h1) <|
  (mx_virt (st := []) (k := 7) t83 [.ref (mm_rg S a0 2)] d83_53 vt11_191 rfl rfl (Nat.le_of_ble_eq_true rfl) (Nat.le_of_ble_eq_true rfl) h7)
theorem b83_40_k9 {d : Nat} {S : mm_S} {a0 : Nat} {x1 : Int32} (h0 : mm_obj S a0 11 = true) (h1 : (mm_R S a0 2).isSome = true) (h2 : mm_obj S (mm_rg S a0 2) 1 = true) (h3 : (mm_R S (mm_rg S a0 2) 0).isSome = true) (h4 : mm_inb x1 (mm_N S (mm_rg S (mm_rg S a0 2) 0)) = true) (h5 : (mm_arr S (mm_rg S (mm_rg S a0 2) 0) 16 || mm_arr S (mm_rg S (mm_rg S a0 2) 0) 17 || mm_arr S (mm_rg S (mm_rg S a0 2) 0) 18) = true) (h6 : (mm_R S (mm_rg S (mm_rg S a0 2) 0) (x1).toNatClampNeg).isSome = true) (h7 : mm_rk S (mm_rg S (mm_rg S (mm_rg S a0 2) 0) (x1).toNatClampNeg) = 9) : mm_ex (d + 1) 83 40 [.ref a0, .int x1] [] S =
    mm_bd (mm_cl d 66 [.ref (mm_rg S (mm_rg S (mm_rg S a0 2) 0) (x1).toNatClampNeg), .ref (mm_rg S a0 2)] S) (fun v S2 => mm_ex (d + 1) 83 56 [.ref a0, .int x1] (v.toList ++ []) S2) :=
  Eq.trans (mx_aload_n t83 d83_40 (x := a0) rfl) <|
  Eq.trans (mx_getR t83 d83_41 rfl fl11_26 h0 h1) <|
  Eq.trans (mx_getR t83 d83_44 rfl fl11_81 h2 h3) <|
  Eq.trans (mx_iload_n t83 d83_47 (x := x1) rfl) <|
  Eq.trans (mx_qaldR t83 d83_48 h5 h4 h6) <|
  Eq.trans (mx_aload_n t83 d83_49 (x := a0) rfl) <|
  Eq.trans (mx_getR t83 d83_50 rfl fl11_26 h0 h1) <|
  (mx_virt (st := []) (k := 9) t83 [.ref (mm_rg S a0 2)] d83_53 vt11_191 rfl rfl (Nat.le_of_ble_eq_true rfl) (Nat.le_of_ble_eq_true rfl) h7)
theorem b83_40_k10 {d : Nat} {S : mm_S} {a0 : Nat} {x1 : Int32} (h0 : mm_obj S a0 11 = true) (h1 : (mm_R S a0 2).isSome = true) (h2 : mm_obj S (mm_rg S a0 2) 1 = true) (h3 : (mm_R S (mm_rg S a0 2) 0).isSome = true) (h4 : mm_inb x1 (mm_N S (mm_rg S (mm_rg S a0 2) 0)) = true) (h5 : (mm_arr S (mm_rg S (mm_rg S a0 2) 0) 16 || mm_arr S (mm_rg S (mm_rg S a0 2) 0) 17 || mm_arr S (mm_rg S (mm_rg S a0 2) 0) 18) = true) (h6 : (mm_R S (mm_rg S (mm_rg S a0 2) 0) (x1).toNatClampNeg).isSome = true) (h7 : mm_rk S (mm_rg S (mm_rg S (mm_rg S a0 2) 0) (x1).toNatClampNeg) = 10) : mm_ex (d + 1) 83 40 [.ref a0, .int x1] [] S =
    mm_bd (mm_cl d 70 [.ref (mm_rg S (mm_rg S (mm_rg S a0 2) 0) (x1).toNatClampNeg), .ref (mm_rg S a0 2)] S) (fun v S2 => mm_ex (d + 1) 83 56 [.ref a0, .int x1] (v.toList ++ []) S2) :=
  Eq.trans (mx_aload_n t83 d83_40 (x := a0) rfl) <|
  Eq.trans (mx_getR t83 d83_41 rfl fl11_26 h0 h1) <|
  Eq.trans (mx_getR t83 d83_44 rfl fl11_81 h2 h3) <|
  Eq.trans (mx_iload_n t83 d83_47 (x := x1) rfl) <|
  Eq.trans (mx_qaldR t83 d83_48 h5 h4 h6) <|
  Eq.trans (mx_aload_n t83 d83_49 (x := a0) rfl) <|
  Eq.trans (mx_getR t83 d83_50 rfl fl11_26 h0 h1) <|
  (mx_virt (st := []) (k := 10) t83 [.ref (mm_rg S a0 2)] d83_53 vt11_191 rfl rfl (Nat.le_of_ble_eq_true rfl) (Nat.le_of_ble_eq_true rfl) h7)
theorem b83_56 {d : Nat} {S : mm_S} {a0 : Nat} {x1 : Int32} {p0 : Int32} : mm_ex d 83 56 [.ref a0, .int x1] [.int p0] S =
    some (some (.int p0), S) :=
  (mx_iret t83 d83_56 (ty := .int) rfl rfl (fun h => nomatch h))
theorem e83 {d : Nat} {S : mm_S} {a0 : Nat} {x1 : Int32} : mm_cl d 83 [.ref a0, .int x1] S = mm_ex d 83 0 [.ref a0, .int x1] [] S := mm_cl_eq t83 (Nat.le_of_ble_eq_true rfl) rfl
/-! X11_go -/
theorem d84_0 : decode prog_1_method_13_code 0 = .ok (.aload_n 0, 1) := by decide +kernel
theorem d84_1 : decode prog_1_method_13_code 1 = .ok (.getfield 17, 3) := by decide +kernel
theorem d84_4 : decode prog_1_method_13_code 4 = .ok (.invokevirtual 195, 3) := by decide +kernel
theorem d84_7 : decode prog_1_method_13_code 7 = .ok (.ifCond .eq 13, 3) := by decide +kernel
theorem d84_10 : decode prog_1_method_13_code 10 = .ok (.aload_n 0, 1) := by decide +kernel
theorem d84_11 : decode prog_1_method_13_code 11 = .ok (.getfield 17, 3) := by decide +kernel
theorem d84_14 : decode prog_1_method_13_code 14 = .ok (.invokevirtual 199, 3) := by decide +kernel
theorem d84_17 : decode prog_1_method_13_code 17 = .ok (.goto 4, 3) := by decide +kernel
theorem d84_20 : decode prog_1_method_13_code 20 = .ok (.iconst 0, 1) := by decide +kernel
theorem d84_21 : decode prog_1_method_13_code 21 = .ok (.ireturn, 1) := by decide +kernel
theorem b84_0 {d : Nat} {S : mm_S} {a0 : Nat} (h0 : mm_obj S a0 11 = true) (h1 : (mm_R S a0 0).isSome = true) (h2 : mm_rk S (mm_rg S a0 0) = 1) : mm_ex (d + 1) 84 0 [.ref a0] [] S =
    mm_bd (mm_cl d 20 [.ref (mm_rg S a0 0)] S) (fun v S2 => mm_ex (d + 1) 84 7 [.ref a0] (v.toList ++ []) S2) :=
  Eq.trans (mx_aload_n t84 d84_0 (x := a0) rfl) <|
  Eq.trans (mx_getR t84 d84_1 rfl fl11_17 h0 h1) <|
  (mx_virt (st := []) (k := 1) t84 [] d84_4 vt11_195 rfl rfl (Nat.le_of_ble_eq_true rfl) (Nat.le_of_ble_eq_true rfl) h2)
theorem b84_7 {d : Nat} {S : mm_S} {a0 : Nat} {p0 : Int32} : mm_ex d 84 7 [.ref a0] [.int p0] S =
    if p0 = nI 0 then mm_ex d 84 20 [.ref a0] [] S else mm_ex d 84 10 [.ref a0] [] S :=
  (mx_ieq t84 d84_7 (tgt := 20) (by decide))
theorem b84_10 {d : Nat} {S : mm_S} {a0 : Nat} (h0 : mm_obj S a0 11 = true) (h1 : (mm_R S a0 0).isSome = true) (h2 : mm_rk S (mm_rg S a0 0) = 1) : mm_ex (d + 1) 84 10 [.ref a0] [] S =
    mm_bd (mm_cl d 21 [.ref (mm_rg S a0 0)] S) (fun v S2 => mm_ex (d + 1) 84 17 [.ref a0] (v.toList ++ []) S2) :=
  Eq.trans (mx_aload_n t84 d84_10 (x := a0) rfl) <|
  Eq.trans (mx_getR t84 d84_11 rfl fl11_17 h0 h1) <|
  (mx_virt (st := []) (k := 1) t84 [] d84_14 vt11_199 rfl rfl (Nat.le_of_ble_eq_true rfl) (Nat.le_of_ble_eq_true rfl) h2)
theorem b84_17 {d : Nat} {S : mm_S} {a0 : Nat} {p0 : Int32} : mm_ex d 84 17 [.ref a0] [.int p0] S =
    some (some (.int p0), S) :=
  Eq.trans (mx_goto t84 d84_17 (tgt := 21) (by decide)) <|
  (mx_iret t84 d84_21 (ty := .int) rfl rfl (fun h => nomatch h))
theorem b84_20 {d : Nat} {S : mm_S} {a0 : Nat} : mm_ex d 84 20 [.ref a0] [] S =
    some (some (.int (nI 0)), S) :=
  Eq.trans (mx_iconst t84 d84_20 (v := nI 0) rfl) <|
  (mx_iret t84 d84_21 (ty := .int) rfl rfl (fun h => nomatch h))
theorem e84 {d : Nat} {S : mm_S} {a0 : Nat} : mm_cl d 84 [.ref a0] S = mm_ex d 84 0 [.ref a0] [] S := mm_cl_eq t84 (Nat.le_of_ble_eq_true rfl) rfl
/-! X11_run -/
theorem dd85_0 : (decode prog_1_method_14_code 0 = .ok (.aload_n 0, 1)) ∧ (decode prog_1_method_14_code 1 = .ok (.getfield 17, 3)) ∧ (decode prog_1_method_14_code 4 = .ok (.iload_n 1, 1)) ∧ (decode prog_1_method_14_code 5 = .ok (.invokevirtual 77, 3)) ∧ (decode prog_1_method_14_code 8 = .ok (.ifCond .eq 17, 3)) ∧ (decode prog_1_method_14_code 11 = .ok (.aload_n 0, 1)) ∧ (decode prog_1_method_14_code 12 = .ok (.invokevirtual 202, 3)) ∧ (decode prog_1_method_14_code 15 = .ok (.aload_n 0, 1)) ∧ (decode prog_1_method_14_code 16 = .ok (.getfield 26, 3)) ∧ (decode prog_1_method_14_code 19 = .ok (.getfield 120, 3)) ∧ (decode prog_1_method_14_code 22 = .ok (.iload_n 1, 1)) ∧ (decode prog_1_method_14_code 23 = .ok (.iaload, 1)) ∧ (decode prog_1_method_14_code 24 = .ok (.ireturn, 1)) ∧ (decode prog_1_method_14_code 25 = .ok (.iload_n 1, 1)) ∧ (decode prog_1_method_14_code 26 = .ok (.tableswitch 71 10 13 #[30, 42, 54, 66], 30)) ∧ (decode prog_1_method_14_code 56 = .ok (.aload_n 0, 1)) := by decide +kernel
theorem d85_0 : decode prog_1_method_14_code 0 = .ok (.aload_n 0, 1) := dd85_0.1
theorem d85_1 : decode prog_1_method_14_code 1 = .ok (.getfield 17, 3) := dd85_0.2.1
theorem d85_4 : decode prog_1_method_14_code 4 = .ok (.iload_n 1, 1) := dd85_0.2.2.1
theorem d85_5 : decode prog_1_method_14_code 5 = .ok (.invokevirtual 77, 3) := dd85_0.2.2.2.1
theorem d85_8 : decode prog_1_method_14_code 8 = .ok (.ifCond .eq 17, 3) := dd85_0.2.2.2.2.1
theorem d85_11 : decode prog_1_method_14_code 11 = .ok (.aload_n 0, 1) := dd85_0.2.2.2.2.2.1
theorem d85_12 : decode prog_1_method_14_code 12 = .ok (.invokevirtual 202, 3) := dd85_0.2.2.2.2.2.2.1
theorem d85_15 : decode prog_1_method_14_code 15 = .ok (.aload_n 0, 1) := dd85_0.2.2.2.2.2.2.2.1
theorem d85_16 : decode prog_1_method_14_code 16 = .ok (.getfield 26, 3) := dd85_0.2.2.2.2.2.2.2.2.1
theorem d85_19 : decode prog_1_method_14_code 19 = .ok (.getfield 120, 3) := dd85_0.2.2.2.2.2.2.2.2.2.1
theorem d85_22 : decode prog_1_method_14_code 22 = .ok (.iload_n 1, 1) := dd85_0.2.2.2.2.2.2.2.2.2.2.1
theorem d85_23 : decode prog_1_method_14_code 23 = .ok (.iaload, 1) := dd85_0.2.2.2.2.2.2.2.2.2.2.2.1
theorem d85_24 : decode prog_1_method_14_code 24 = .ok (.ireturn, 1) := dd85_0.2.2.2.2.2.2.2.2.2.2.2.2.1
theorem d85_25 : decode prog_1_method_14_code 25 = .ok (.iload_n 1, 1) := dd85_0.2.2.2.2.2.2.2.2.2.2.2.2.2.1
theorem d85_26 : decode prog_1_method_14_code 26 = .ok (.tableswitch 71 10 13 #[30, 42, 54, 66], 30) := dd85_0.2.2.2.2.2.2.2.2.2.2.2.2.2.2.1
theorem d85_56 : decode prog_1_method_14_code 56 = .ok (.aload_n 0, 1) := dd85_0.2.2.2.2.2.2.2.2.2.2.2.2.2.2.2
theorem dd85_57 : (decode prog_1_method_14_code 57 = .ok (.invokevirtual 202, 3)) ∧ (decode prog_1_method_14_code 60 = .ok (.aload_n 0, 1)) ∧ (decode prog_1_method_14_code 61 = .ok (.getfield 26, 3)) ∧ (decode prog_1_method_14_code 64 = .ok (.getfield 171, 3)) ∧ (decode prog_1_method_14_code 67 = .ok (.ireturn, 1)) ∧ (decode prog_1_method_14_code 68 = .ok (.aload_n 0, 1)) ∧ (decode prog_1_method_14_code 69 = .ok (.invokevirtual 202, 3)) ∧ (decode prog_1_method_14_code 72 = .ok (.aload_n 0, 1)) ∧ (decode prog_1_method_14_code 73 = .ok (.getfield 26, 3)) ∧ (decode prog_1_method_14_code 76 = .ok (.getfield 130, 3)) ∧ (decode prog_1_method_14_code 79 = .ok (.ireturn, 1)) ∧ (decode prog_1_method_14_code 80 = .ok (.aload_n 0, 1)) ∧ (decode prog_1_method_14_code 81 = .ok (.invokevirtual 202, 3)) ∧ (decode prog_1_method_14_code 84 = .ok (.aload_n 0, 1)) ∧ (decode prog_1_method_14_code 85 = .ok (.getfield 26, 3)) ∧ (decode prog_1_method_14_code 88 = .ok (.getfield 174, 3)) := by decide +kernel
theorem d85_57 : decode prog_1_method_14_code 57 = .ok (.invokevirtual 202, 3) := dd85_57.1
theorem d85_60 : decode prog_1_method_14_code 60 = .ok (.aload_n 0, 1) := dd85_57.2.1
theorem d85_61 : decode prog_1_method_14_code 61 = .ok (.getfield 26, 3) := dd85_57.2.2.1
theorem d85_64 : decode prog_1_method_14_code 64 = .ok (.getfield 171, 3) := dd85_57.2.2.2.1
theorem d85_67 : decode prog_1_method_14_code 67 = .ok (.ireturn, 1) := dd85_57.2.2.2.2.1
theorem d85_68 : decode prog_1_method_14_code 68 = .ok (.aload_n 0, 1) := dd85_57.2.2.2.2.2.1
theorem d85_69 : decode prog_1_method_14_code 69 = .ok (.invokevirtual 202, 3) := dd85_57.2.2.2.2.2.2.1
theorem d85_72 : decode prog_1_method_14_code 72 = .ok (.aload_n 0, 1) := dd85_57.2.2.2.2.2.2.2.1
theorem d85_73 : decode prog_1_method_14_code 73 = .ok (.getfield 26, 3) := dd85_57.2.2.2.2.2.2.2.2.1
theorem d85_76 : decode prog_1_method_14_code 76 = .ok (.getfield 130, 3) := dd85_57.2.2.2.2.2.2.2.2.2.1
theorem d85_79 : decode prog_1_method_14_code 79 = .ok (.ireturn, 1) := dd85_57.2.2.2.2.2.2.2.2.2.2.1
theorem d85_80 : decode prog_1_method_14_code 80 = .ok (.aload_n 0, 1) := dd85_57.2.2.2.2.2.2.2.2.2.2.2.1
theorem d85_81 : decode prog_1_method_14_code 81 = .ok (.invokevirtual 202, 3) := dd85_57.2.2.2.2.2.2.2.2.2.2.2.2.1
theorem d85_84 : decode prog_1_method_14_code 84 = .ok (.aload_n 0, 1) := dd85_57.2.2.2.2.2.2.2.2.2.2.2.2.2.1
theorem d85_85 : decode prog_1_method_14_code 85 = .ok (.getfield 26, 3) := dd85_57.2.2.2.2.2.2.2.2.2.2.2.2.2.2.1
theorem d85_88 : decode prog_1_method_14_code 88 = .ok (.getfield 174, 3) := dd85_57.2.2.2.2.2.2.2.2.2.2.2.2.2.2.2
theorem dd85_91 : (decode prog_1_method_14_code 91 = .ok (.ireturn, 1)) ∧ (decode prog_1_method_14_code 92 = .ok (.aload_n 0, 1)) ∧ (decode prog_1_method_14_code 93 = .ok (.invokevirtual 205, 3)) ∧ (decode prog_1_method_14_code 96 = .ok (.ireturn, 1)) ∧ (decode prog_1_method_14_code 97 = .ok (.ldc 123, 2)) ∧ (decode prog_1_method_14_code 99 = .ok (.ireturn, 1)) := by decide +kernel
theorem d85_91 : decode prog_1_method_14_code 91 = .ok (.ireturn, 1) := dd85_91.1
theorem d85_92 : decode prog_1_method_14_code 92 = .ok (.aload_n 0, 1) := dd85_91.2.1
theorem d85_93 : decode prog_1_method_14_code 93 = .ok (.invokevirtual 205, 3) := dd85_91.2.2.1
theorem d85_96 : decode prog_1_method_14_code 96 = .ok (.ireturn, 1) := dd85_91.2.2.2.1
theorem d85_97 : decode prog_1_method_14_code 97 = .ok (.ldc 123, 2) := dd85_91.2.2.2.2.1
theorem d85_99 : decode prog_1_method_14_code 99 = .ok (.ireturn, 1) := dd85_91.2.2.2.2.2
theorem b85_0 {d : Nat} {S : mm_S} {a0 : Nat} {x1 : Int32} (h0 : mm_obj S a0 11 = true) (h1 : (mm_R S a0 0).isSome = true) (h2 : mm_rk S (mm_rg S a0 0) = 1) : mm_ex (d + 1) 85 0 [.ref a0, .int x1] [] S =
    mm_bd (mm_cl d 8 [.ref (mm_rg S a0 0), .int x1] S) (fun v S2 => mm_ex (d + 1) 85 8 [.ref a0, .int x1] (v.toList ++ []) S2) :=
  Eq.trans (mx_aload_n t85 d85_0 (x := a0) rfl) <|
  Eq.trans (mx_getR t85 d85_1 rfl fl11_17 h0 h1) <|
  Eq.trans (mx_iload_n t85 d85_4 (x := x1) rfl) <|
  (mx_virt (st := []) (k := 1) t85 [.int x1] d85_5 vt11_77 rfl rfl (Nat.le_of_ble_eq_true rfl) (Nat.le_of_ble_eq_true rfl) h2)
theorem b85_8 {d : Nat} {S : mm_S} {a0 : Nat} {x1 : Int32} {p0 : Int32} : mm_ex d 85 8 [.ref a0, .int x1] [.int p0] S =
    if p0 = nI 0 then mm_ex d 85 25 [.ref a0, .int x1] [] S else mm_ex d 85 11 [.ref a0, .int x1] [] S :=
  (mx_ieq t85 d85_8 (tgt := 25) (by decide))
theorem b85_11 {d : Nat} {S : mm_S} {a0 : Nat} {x1 : Int32} (h0 : mm_rk S a0 = 11) : mm_ex (d + 1) 85 11 [.ref a0, .int x1] [] S =
    mm_bd (mm_cl d 113 [.ref a0] S) (fun v S2 => mm_ex (d + 1) 85 15 [.ref a0, .int x1] (v.toList ++ []) S2) :=
  Eq.trans (mx_aload_n t85 d85_11 (x := a0) rfl) <|
  (mx_virt (st := []) (k := 11) t85 [] d85_12 vt11_202 rfl rfl (Nat.le_of_ble_eq_true rfl) (Nat.le_of_ble_eq_true rfl) h0)
theorem b85_15 {d : Nat} {S : mm_S} {a0 : Nat} {x1 : Int32} (h0 : mm_obj S a0 11 = true) (h1 : (mm_R S a0 2).isSome = true) (h2 : mm_obj S (mm_rg S a0 2) 1 = true) (h3 : (mm_R S (mm_rg S a0 2) 4).isSome = true) (h4 : mm_inb x1 (mm_N S (mm_rg S (mm_rg S a0 2) 4)) = true) (h5 : mm_arr S (mm_rg S (mm_rg S a0 2) 4) 13 = true) : mm_ex d 85 15 [.ref a0, .int x1] [] S =
    some (some (.int (mm_M S (mm_rg S (mm_rg S a0 2) 4) (x1).toNatClampNeg)), S) :=
  Eq.trans (mx_aload_n t85 d85_15 (x := a0) rfl) <|
  Eq.trans (mx_getR t85 d85_16 rfl fl11_26 h0 h1) <|
  Eq.trans (mx_getR t85 d85_19 rfl fl11_120 h2 h3) <|
  Eq.trans (mx_iload_n t85 d85_22 (x := x1) rfl) <|
  Eq.trans (mx_iald t85 d85_23 h5 h4) <|
  (mx_iret t85 d85_24 (ty := .int) rfl rfl (fun h => nomatch h))
theorem b85_25 {d : Nat} {S : mm_S} {a0 : Nat} {x1 : Int32} : mm_ex d 85 25 [.ref a0, .int x1] [] S =
    mm_ex d 85 26 [.ref a0, .int x1] [.int x1] S :=
  (mx_iload_n t85 d85_25 (x := x1) rfl)
theorem b85_26 {d : Nat} {S : mm_S} {a0 : Nat} {x1 : Int32} {p0 : Int32} : mm_ex d 85 26 [.ref a0, .int x1] [.int p0] S =
    if p0 = nI 10 then mm_ex d 85 56 [.ref a0, .int x1] [] S else if p0 = nI 11 then mm_ex d 85 68 [.ref a0, .int x1] [] S else if p0 = nI 12 then mm_ex d 85 80 [.ref a0, .int x1] [] S else if p0 = nI 13 then mm_ex d 85 92 [.ref a0, .int x1] [] S else mm_ex d 85 97 [.ref a0, .int x1] [] S := by
  by_cases e0 : p0 = nI 10
  · subst e0
    rw [if_pos rfl]
    exact mx_tswI t85 d85_26 (by decide) (off := 30) (by decide) (by decide)
  by_cases e1 : p0 = nI 11
  · subst e1
    rw [if_neg (by decide), if_pos rfl]
    exact mx_tswI t85 d85_26 (by decide) (off := 42) (by decide) (by decide)
  by_cases e2 : p0 = nI 12
  · subst e2
    rw [if_neg (by decide), if_neg (by decide), if_pos rfl]
    exact mx_tswI t85 d85_26 (by decide) (off := 54) (by decide) (by decide)
  by_cases e3 : p0 = nI 13
  · subst e3
    rw [if_neg (by decide), if_neg (by decide), if_neg (by decide), if_pos rfl]
    exact mx_tswI t85 d85_26 (by decide) (off := 66) (by decide) (by decide)
  rw [if_neg e0, if_neg e1, if_neg e2, if_neg e3]
  have g0 := mm_ni32 e0
  have g1 := mm_ni32 e1
  have g2 := mm_ni32 e2
  have g3 := mm_ni32 e3
  rw [show (nI 10 : Int32).toInt = 10 by decide] at g0
  rw [show (nI 11 : Int32).toInt = 11 by decide] at g1
  rw [show (nI 12 : Int32).toInt = 12 by decide] at g2
  rw [show (nI 13 : Int32).toInt = 13 by decide] at g3
  exact mx_tswD t85 d85_26 (by omega) (by decide)
theorem b85_56 {d : Nat} {S : mm_S} {a0 : Nat} {x1 : Int32} (h0 : mm_rk S a0 = 11) : mm_ex (d + 1) 85 56 [.ref a0, .int x1] [] S =
    mm_bd (mm_cl d 113 [.ref a0] S) (fun v S2 => mm_ex (d + 1) 85 60 [.ref a0, .int x1] (v.toList ++ []) S2) :=
  Eq.trans (mx_aload_n t85 d85_56 (x := a0) rfl) <|
  (mx_virt (st := []) (k := 11) t85 [] d85_57 vt11_202 rfl rfl (Nat.le_of_ble_eq_true rfl) (Nat.le_of_ble_eq_true rfl) h0)
theorem b85_60 {d : Nat} {S : mm_S} {a0 : Nat} {x1 : Int32} (h0 : mm_obj S a0 11 = true) (h1 : (mm_R S a0 2).isSome = true) (h2 : mm_obj S (mm_rg S a0 2) 1 = true) : mm_ex d 85 60 [.ref a0, .int x1] [] S =
    some (some (.int (mm_M S (mm_rg S a0 2) 14)), S) :=
  Eq.trans (mx_aload_n t85 d85_60 (x := a0) rfl) <|
  Eq.trans (mx_getR t85 d85_61 rfl fl11_26 h0 h1) <|
  Eq.trans (mx_geti t85 d85_64 rfl fl11_171 h2) <|
  (mx_iret t85 d85_67 (ty := .int) rfl rfl (fun h => nomatch h))
theorem b85_68 {d : Nat} {S : mm_S} {a0 : Nat} {x1 : Int32} (h0 : mm_rk S a0 = 11) : mm_ex (d + 1) 85 68 [.ref a0, .int x1] [] S =
    mm_bd (mm_cl d 113 [.ref a0] S) (fun v S2 => mm_ex (d + 1) 85 72 [.ref a0, .int x1] (v.toList ++ []) S2) :=
  Eq.trans (mx_aload_n t85 d85_68 (x := a0) rfl) <|
  (mx_virt (st := []) (k := 11) t85 [] d85_69 vt11_202 rfl rfl (Nat.le_of_ble_eq_true rfl) (Nat.le_of_ble_eq_true rfl) h0)
theorem b85_72 {d : Nat} {S : mm_S} {a0 : Nat} {x1 : Int32} (h0 : mm_obj S a0 11 = true) (h1 : (mm_R S a0 2).isSome = true) (h2 : mm_obj S (mm_rg S a0 2) 1 = true) : mm_ex d 85 72 [.ref a0, .int x1] [] S =
    some (some (.int (mm_M S (mm_rg S a0 2) 12)), S) :=
  Eq.trans (mx_aload_n t85 d85_72 (x := a0) rfl) <|
  Eq.trans (mx_getR t85 d85_73 rfl fl11_26 h0 h1) <|
  Eq.trans (mx_geti t85 d85_76 rfl fl11_130 h2) <|
  (mx_iret t85 d85_79 (ty := .int) rfl rfl (fun h => nomatch h))
theorem b85_80 {d : Nat} {S : mm_S} {a0 : Nat} {x1 : Int32} (h0 : mm_rk S a0 = 11) : mm_ex (d + 1) 85 80 [.ref a0, .int x1] [] S =
    mm_bd (mm_cl d 113 [.ref a0] S) (fun v S2 => mm_ex (d + 1) 85 84 [.ref a0, .int x1] (v.toList ++ []) S2) :=
  Eq.trans (mx_aload_n t85 d85_80 (x := a0) rfl) <|
  (mx_virt (st := []) (k := 11) t85 [] d85_81 vt11_202 rfl rfl (Nat.le_of_ble_eq_true rfl) (Nat.le_of_ble_eq_true rfl) h0)
theorem b85_84 {d : Nat} {S : mm_S} {a0 : Nat} {x1 : Int32} (h0 : mm_obj S a0 11 = true) (h1 : (mm_R S a0 2).isSome = true) (h2 : mm_obj S (mm_rg S a0 2) 1 = true) : mm_ex d 85 84 [.ref a0, .int x1] [] S =
    some (some (.int (mm_M S (mm_rg S a0 2) 15)), S) :=
  Eq.trans (mx_aload_n t85 d85_84 (x := a0) rfl) <|
  Eq.trans (mx_getR t85 d85_85 rfl fl11_26 h0 h1) <|
  Eq.trans (mx_geti t85 d85_88 rfl fl11_174 h2) <|
  (mx_iret t85 d85_91 (ty := .int) rfl rfl (fun h => nomatch h))
theorem b85_92 {d : Nat} {S : mm_S} {a0 : Nat} {x1 : Int32} (h0 : mm_rk S a0 = 11) : mm_ex (d + 1) 85 92 [.ref a0, .int x1] [] S =
    mm_bd (mm_cl d 114 [.ref a0] S) (fun v S2 => mm_ex (d + 1) 85 96 [.ref a0, .int x1] (v.toList ++ []) S2) :=
  Eq.trans (mx_aload_n t85 d85_92 (x := a0) rfl) <|
  (mx_virt (st := []) (k := 11) t85 [] d85_93 vt11_205 rfl rfl (Nat.le_of_ble_eq_true rfl) (Nat.le_of_ble_eq_true rfl) h0)
theorem b85_96 {d : Nat} {S : mm_S} {a0 : Nat} {x1 : Int32} {p0 : Int32} : mm_ex d 85 96 [.ref a0, .int x1] [.int p0] S =
    some (some (.int p0), S) :=
  (mx_iret t85 d85_96 (ty := .int) rfl rfl (fun h => nomatch h))
theorem b85_97 {d : Nat} {S : mm_S} {a0 : Nat} {x1 : Int32} : mm_ex d 85 97 [.ref a0, .int x1] [] S =
    some (some (.int (-100001)), S) :=
  Eq.trans (mx_ldc t85 d85_97 (v := .int (-100001)) lc11_123) <|
  (mx_iret t85 d85_99 (ty := .int) rfl rfl (fun h => nomatch h))
theorem e85 {d : Nat} {S : mm_S} {a0 : Nat} {x1 : Int32} : mm_cl d 85 [.ref a0, .int x1] S = mm_ex d 85 0 [.ref a0, .int x1] [] S := mm_cl_eq t85 (Nat.le_of_ble_eq_true rfl) rfl
/-! X11_first -/
theorem dd86_0 : (decode prog_1_method_15_code 0 = .ok (.iload_n 1, 1)) ∧ (decode prog_1_method_15_code 1 = .ok (.ifCond .eq 10, 3)) ∧ (decode prog_1_method_15_code 4 = .ok (.iload_n 1, 1)) ∧ (decode prog_1_method_15_code 5 = .ok (.iconst 1, 1)) ∧ (decode prog_1_method_15_code 6 = .ok (.if_icmp .eq 5, 3)) ∧ (decode prog_1_method_15_code 9 = .ok (.iconst (-1), 1)) ∧ (decode prog_1_method_15_code 10 = .ok (.ireturn, 1)) ∧ (decode prog_1_method_15_code 11 = .ok (.aload_n 0, 1)) ∧ (decode prog_1_method_15_code 12 = .ok (.getfield 17, 3)) ∧ (decode prog_1_method_15_code 15 = .ok (.invokevirtual 195, 3)) ∧ (decode prog_1_method_15_code 18 = .ok (.ifCond .ne 6, 3)) ∧ (decode prog_1_method_15_code 21 = .ok (.bipush (-5), 2)) ∧ (decode prog_1_method_15_code 23 = .ok (.ireturn, 1)) ∧ (decode prog_1_method_15_code 24 = .ok (.aload_n 0, 1)) ∧ (decode prog_1_method_15_code 25 = .ok (.getfield 17, 3)) ∧ (decode prog_1_method_15_code 28 = .ok (.invokevirtual 180, 3)) := by decide +kernel
theorem d86_0 : decode prog_1_method_15_code 0 = .ok (.iload_n 1, 1) := dd86_0.1
theorem d86_1 : decode prog_1_method_15_code 1 = .ok (.ifCond .eq 10, 3) := dd86_0.2.1
theorem d86_4 : decode prog_1_method_15_code 4 = .ok (.iload_n 1, 1) := dd86_0.2.2.1
theorem d86_5 : decode prog_1_method_15_code 5 = .ok (.iconst 1, 1) := dd86_0.2.2.2.1
theorem d86_6 : decode prog_1_method_15_code 6 = .ok (.if_icmp .eq 5, 3) := dd86_0.2.2.2.2.1
theorem d86_9 : decode prog_1_method_15_code 9 = .ok (.iconst (-1), 1) := dd86_0.2.2.2.2.2.1
theorem d86_10 : decode prog_1_method_15_code 10 = .ok (.ireturn, 1) := dd86_0.2.2.2.2.2.2.1
theorem d86_11 : decode prog_1_method_15_code 11 = .ok (.aload_n 0, 1) := dd86_0.2.2.2.2.2.2.2.1
theorem d86_12 : decode prog_1_method_15_code 12 = .ok (.getfield 17, 3) := dd86_0.2.2.2.2.2.2.2.2.1
theorem d86_15 : decode prog_1_method_15_code 15 = .ok (.invokevirtual 195, 3) := dd86_0.2.2.2.2.2.2.2.2.2.1
theorem d86_18 : decode prog_1_method_15_code 18 = .ok (.ifCond .ne 6, 3) := dd86_0.2.2.2.2.2.2.2.2.2.2.1
theorem d86_21 : decode prog_1_method_15_code 21 = .ok (.bipush (-5), 2) := dd86_0.2.2.2.2.2.2.2.2.2.2.2.1
theorem d86_23 : decode prog_1_method_15_code 23 = .ok (.ireturn, 1) := dd86_0.2.2.2.2.2.2.2.2.2.2.2.2.1
theorem d86_24 : decode prog_1_method_15_code 24 = .ok (.aload_n 0, 1) := dd86_0.2.2.2.2.2.2.2.2.2.2.2.2.2.1
theorem d86_25 : decode prog_1_method_15_code 25 = .ok (.getfield 17, 3) := dd86_0.2.2.2.2.2.2.2.2.2.2.2.2.2.2.1
theorem d86_28 : decode prog_1_method_15_code 28 = .ok (.invokevirtual 180, 3) := dd86_0.2.2.2.2.2.2.2.2.2.2.2.2.2.2.2
theorem dd86_31 : (decode prog_1_method_15_code 31 = .ok (.istore_n 2, 1)) ∧ (decode prog_1_method_15_code 32 = .ok (.iconst 0, 1)) ∧ (decode prog_1_method_15_code 33 = .ok (.istore_n 3, 1)) ∧ (decode prog_1_method_15_code 34 = .ok (.iconst 0, 1)) ∧ (decode prog_1_method_15_code 35 = .ok (.istore 4, 2)) ∧ (decode prog_1_method_15_code 37 = .ok (.iconst 1, 1)) ∧ (decode prog_1_method_15_code 38 = .ok (.istore 5, 2)) ∧ (decode prog_1_method_15_code 40 = .ok (.iload 5, 2)) ∧ (decode prog_1_method_15_code 42 = .ok (.iconst 3, 1)) ∧ (decode prog_1_method_15_code 43 = .ok (.if_icmp .gt 57, 3)) ∧ (decode prog_1_method_15_code 46 = .ok (.iload 5, 2)) ∧ (decode prog_1_method_15_code 48 = .ok (.iconst 3, 1)) ∧ (decode prog_1_method_15_code 49 = .ok (.if_icmp .ne 17, 3)) ∧ (decode prog_1_method_15_code 52 = .ok (.aload_n 0, 1)) ∧ (decode prog_1_method_15_code 53 = .ok (.getfield 17, 3)) ∧ (decode prog_1_method_15_code 56 = .ok (.iload_n 2, 1)) := by decide +kernel
theorem d86_31 : decode prog_1_method_15_code 31 = .ok (.istore_n 2, 1) := dd86_31.1
theorem d86_32 : decode prog_1_method_15_code 32 = .ok (.iconst 0, 1) := dd86_31.2.1
theorem d86_33 : decode prog_1_method_15_code 33 = .ok (.istore_n 3, 1) := dd86_31.2.2.1
theorem d86_34 : decode prog_1_method_15_code 34 = .ok (.iconst 0, 1) := dd86_31.2.2.2.1
theorem d86_35 : decode prog_1_method_15_code 35 = .ok (.istore 4, 2) := dd86_31.2.2.2.2.1
theorem d86_37 : decode prog_1_method_15_code 37 = .ok (.iconst 1, 1) := dd86_31.2.2.2.2.2.1
theorem d86_38 : decode prog_1_method_15_code 38 = .ok (.istore 5, 2) := dd86_31.2.2.2.2.2.2.1
theorem d86_40 : decode prog_1_method_15_code 40 = .ok (.iload 5, 2) := dd86_31.2.2.2.2.2.2.2.1
theorem d86_42 : decode prog_1_method_15_code 42 = .ok (.iconst 3, 1) := dd86_31.2.2.2.2.2.2.2.2.1
theorem d86_43 : decode prog_1_method_15_code 43 = .ok (.if_icmp .gt 57, 3) := dd86_31.2.2.2.2.2.2.2.2.2.1
theorem d86_46 : decode prog_1_method_15_code 46 = .ok (.iload 5, 2) := dd86_31.2.2.2.2.2.2.2.2.2.2.1
theorem d86_48 : decode prog_1_method_15_code 48 = .ok (.iconst 3, 1) := dd86_31.2.2.2.2.2.2.2.2.2.2.2.1
theorem d86_49 : decode prog_1_method_15_code 49 = .ok (.if_icmp .ne 17, 3) := dd86_31.2.2.2.2.2.2.2.2.2.2.2.2.1
theorem d86_52 : decode prog_1_method_15_code 52 = .ok (.aload_n 0, 1) := dd86_31.2.2.2.2.2.2.2.2.2.2.2.2.2.1
theorem d86_53 : decode prog_1_method_15_code 53 = .ok (.getfield 17, 3) := dd86_31.2.2.2.2.2.2.2.2.2.2.2.2.2.2.1
theorem d86_56 : decode prog_1_method_15_code 56 = .ok (.iload_n 2, 1) := dd86_31.2.2.2.2.2.2.2.2.2.2.2.2.2.2.2
theorem dd86_57 : (decode prog_1_method_15_code 57 = .ok (.invokevirtual 208, 3)) ∧ (decode prog_1_method_15_code 60 = .ok (.ifCond .ne 6, 3)) ∧ (decode prog_1_method_15_code 63 = .ok (.goto 31, 3)) ∧ (decode prog_1_method_15_code 66 = .ok (.aload_n 0, 1)) ∧ (decode prog_1_method_15_code 67 = .ok (.iload_n 2, 1)) ∧ (decode prog_1_method_15_code 68 = .ok (.iload 5, 2)) ∧ (decode prog_1_method_15_code 70 = .ok (.iload_n 1, 1)) ∧ (decode prog_1_method_15_code 71 = .ok (.invokevirtual 211, 3)) ∧ (decode prog_1_method_15_code 74 = .ok (.istore 6, 2)) ∧ (decode prog_1_method_15_code 76 = .ok (.iload_n 3, 1)) ∧ (decode prog_1_method_15_code 77 = .ok (.ifCond .eq 10, 3)) ∧ (decode prog_1_method_15_code 80 = .ok (.iload 6, 2)) ∧ (decode prog_1_method_15_code 82 = .ok (.iload 4, 2)) ∧ (decode prog_1_method_15_code 84 = .ok (.if_icmp .le 10, 3)) ∧ (decode prog_1_method_15_code 87 = .ok (.iload 5, 2)) ∧ (decode prog_1_method_15_code 89 = .ok (.istore_n 3, 1)) := by decide +kernel
theorem d86_57 : decode prog_1_method_15_code 57 = .ok (.invokevirtual 208, 3) := dd86_57.1
theorem d86_60 : decode prog_1_method_15_code 60 = .ok (.ifCond .ne 6, 3) := dd86_57.2.1
theorem d86_63 : decode prog_1_method_15_code 63 = .ok (.goto 31, 3) := dd86_57.2.2.1
theorem d86_66 : decode prog_1_method_15_code 66 = .ok (.aload_n 0, 1) := dd86_57.2.2.2.1
theorem d86_67 : decode prog_1_method_15_code 67 = .ok (.iload_n 2, 1) := dd86_57.2.2.2.2.1
theorem d86_68 : decode prog_1_method_15_code 68 = .ok (.iload 5, 2) := dd86_57.2.2.2.2.2.1
theorem d86_70 : decode prog_1_method_15_code 70 = .ok (.iload_n 1, 1) := dd86_57.2.2.2.2.2.2.1
theorem d86_71 : decode prog_1_method_15_code 71 = .ok (.invokevirtual 211, 3) := dd86_57.2.2.2.2.2.2.2.1
theorem d86_74 : decode prog_1_method_15_code 74 = .ok (.istore 6, 2) := dd86_57.2.2.2.2.2.2.2.2.1
theorem d86_76 : decode prog_1_method_15_code 76 = .ok (.iload_n 3, 1) := dd86_57.2.2.2.2.2.2.2.2.2.1
theorem d86_77 : decode prog_1_method_15_code 77 = .ok (.ifCond .eq 10, 3) := dd86_57.2.2.2.2.2.2.2.2.2.2.1
theorem d86_80 : decode prog_1_method_15_code 80 = .ok (.iload 6, 2) := dd86_57.2.2.2.2.2.2.2.2.2.2.2.1
theorem d86_82 : decode prog_1_method_15_code 82 = .ok (.iload 4, 2) := dd86_57.2.2.2.2.2.2.2.2.2.2.2.2.1
theorem d86_84 : decode prog_1_method_15_code 84 = .ok (.if_icmp .le 10, 3) := dd86_57.2.2.2.2.2.2.2.2.2.2.2.2.2.1
theorem d86_87 : decode prog_1_method_15_code 87 = .ok (.iload 5, 2) := dd86_57.2.2.2.2.2.2.2.2.2.2.2.2.2.2.1
theorem d86_89 : decode prog_1_method_15_code 89 = .ok (.istore_n 3, 1) := dd86_57.2.2.2.2.2.2.2.2.2.2.2.2.2.2.2
theorem dd86_90 : (decode prog_1_method_15_code 90 = .ok (.iload 6, 2)) ∧ (decode prog_1_method_15_code 92 = .ok (.istore 4, 2)) ∧ (decode prog_1_method_15_code 94 = .ok (.iinc 5 1, 3)) ∧ (decode prog_1_method_15_code 97 = .ok (.goto (-57), 3)) ∧ (decode prog_1_method_15_code 100 = .ok (.iload_n 3, 1)) ∧ (decode prog_1_method_15_code 101 = .ok (.ireturn, 1)) := by decide +kernel
theorem d86_90 : decode prog_1_method_15_code 90 = .ok (.iload 6, 2) := dd86_90.1
theorem d86_92 : decode prog_1_method_15_code 92 = .ok (.istore 4, 2) := dd86_90.2.1
theorem d86_94 : decode prog_1_method_15_code 94 = .ok (.iinc 5 1, 3) := dd86_90.2.2.1
theorem d86_97 : decode prog_1_method_15_code 97 = .ok (.goto (-57), 3) := dd86_90.2.2.2.1
theorem d86_100 : decode prog_1_method_15_code 100 = .ok (.iload_n 3, 1) := dd86_90.2.2.2.2.1
theorem d86_101 : decode prog_1_method_15_code 101 = .ok (.ireturn, 1) := dd86_90.2.2.2.2.2
theorem b86_0 {d : Nat} {S : mm_S} {a0 : Nat} {x1 : Int32} : mm_ex d 86 0 [.ref a0, .int x1, .null, .null, .null, .null, .null] [] S =
    if x1 = nI 0 then mm_ex d 86 11 [.ref a0, .int x1, .null, .null, .null, .null, .null] [] S else mm_ex d 86 4 [.ref a0, .int x1, .null, .null, .null, .null, .null] [] S :=
  Eq.trans (mx_iload_n t86 d86_0 (x := x1) rfl) <|
  (mx_ieq t86 d86_1 (tgt := 11) (by decide))
theorem b86_4 {d : Nat} {S : mm_S} {a0 : Nat} {x1 : Int32} : mm_ex d 86 4 [.ref a0, .int x1, .null, .null, .null, .null, .null] [] S =
    if x1 = (nI 1) then mm_ex d 86 11 [.ref a0, .int x1, .null, .null, .null, .null, .null] [] S else mm_ex d 86 9 [.ref a0, .int x1, .null, .null, .null, .null, .null] [] S :=
  Eq.trans (mx_iload_n t86 d86_4 (x := x1) rfl) <|
  Eq.trans (mx_iconst t86 d86_5 (v := nI 1) rfl) <|
  (mx_ceq t86 d86_6 (tgt := 11) (by decide))
theorem b86_9 {d : Nat} {S : mm_S} {a0 : Nat} {x1 : Int32} : mm_ex d 86 9 [.ref a0, .int x1, .null, .null, .null, .null, .null] [] S =
    some (some (.int (-1)), S) :=
  Eq.trans (mx_iconst t86 d86_9 (v := -1) rfl) <|
  (mx_iret t86 d86_10 (ty := .int) rfl rfl (fun h => nomatch h))
theorem b86_11 {d : Nat} {S : mm_S} {a0 : Nat} {x1 : Int32} (h0 : mm_obj S a0 11 = true) (h1 : (mm_R S a0 0).isSome = true) (h2 : mm_rk S (mm_rg S a0 0) = 1) : mm_ex (d + 1) 86 11 [.ref a0, .int x1, .null, .null, .null, .null, .null] [] S =
    mm_bd (mm_cl d 20 [.ref (mm_rg S a0 0)] S) (fun v S2 => mm_ex (d + 1) 86 18 [.ref a0, .int x1, .null, .null, .null, .null, .null] (v.toList ++ []) S2) :=
  Eq.trans (mx_aload_n t86 d86_11 (x := a0) rfl) <|
  Eq.trans (mx_getR t86 d86_12 rfl fl11_17 h0 h1) <|
  (mx_virt (st := []) (k := 1) t86 [] d86_15 vt11_195 rfl rfl (Nat.le_of_ble_eq_true rfl) (Nat.le_of_ble_eq_true rfl) h2)
theorem b86_18 {d : Nat} {S : mm_S} {a0 : Nat} {x1 : Int32} {p0 : Int32} : mm_ex d 86 18 [.ref a0, .int x1, .null, .null, .null, .null, .null] [.int p0] S =
    if p0 = nI 0 then mm_ex d 86 21 [.ref a0, .int x1, .null, .null, .null, .null, .null] [] S else mm_ex d 86 24 [.ref a0, .int x1, .null, .null, .null, .null, .null] [] S :=
  (mx_ine t86 d86_18 (tgt := 24) (by decide))
theorem b86_21 {d : Nat} {S : mm_S} {a0 : Nat} {x1 : Int32} : mm_ex d 86 21 [.ref a0, .int x1, .null, .null, .null, .null, .null] [] S =
    some (some (.int (-5)), S) :=
  Eq.trans (mx_bipush t86 d86_21 (v := -5) rfl) <|
  (mx_iret t86 d86_23 (ty := .int) rfl rfl (fun h => nomatch h))
theorem b86_24 {d : Nat} {S : mm_S} {a0 : Nat} {x1 : Int32} (h0 : mm_obj S a0 11 = true) (h1 : (mm_R S a0 0).isSome = true) (h2 : mm_rk S (mm_rg S a0 0) = 1) : mm_ex (d + 1) 86 24 [.ref a0, .int x1, .null, .null, .null, .null, .null] [] S =
    mm_bd (mm_cl d 11 [.ref (mm_rg S a0 0)] S) (fun v S2 => mm_ex (d + 1) 86 31 [.ref a0, .int x1, .null, .null, .null, .null, .null] (v.toList ++ []) S2) :=
  Eq.trans (mx_aload_n t86 d86_24 (x := a0) rfl) <|
  Eq.trans (mx_getR t86 d86_25 rfl fl11_17 h0 h1) <|
  (mx_virt (st := []) (k := 1) t86 [] d86_28 vt11_180 rfl rfl (Nat.le_of_ble_eq_true rfl) (Nat.le_of_ble_eq_true rfl) h2)
theorem b86_31 {d : Nat} {S : mm_S} {a0 : Nat} {x1 : Int32} {p0 : Int32} : mm_ex d 86 31 [.ref a0, .int x1, .null, .null, .null, .null, .null] [.int p0] S =
    mm_ex d 86 40 [.ref a0, .int x1, .int p0, .int (nI 0), .int (nI 0), .int (nI 1), .null] [] S :=
  Eq.trans (mx_istore_n t86 d86_31 (ls' := [.ref a0, .int x1, .int p0, .null, .null, .null, .null]) rfl rfl) <|
  Eq.trans (mx_iconst t86 d86_32 (v := nI 0) rfl) <|
  Eq.trans (mx_istore_n t86 d86_33 (ls' := [.ref a0, .int x1, .int p0, .int (nI 0), .null, .null, .null]) rfl rfl) <|
  Eq.trans (mx_iconst t86 d86_34 (v := nI 0) rfl) <|
  Eq.trans (mx_istore t86 d86_35 (ls' := [.ref a0, .int x1, .int p0, .int (nI 0), .int (nI 0), .null, .null]) rfl rfl) <|
  Eq.trans (mx_iconst t86 d86_37 (v := nI 1) rfl) <|
  (mx_istore t86 d86_38 (ls' := [.ref a0, .int x1, .int p0, .int (nI 0), .int (nI 0), .int (nI 1), .null]) rfl rfl)
theorem b86_40 {d : Nat} {S : mm_S} {a0 : Nat} {x1 : Int32} {x2 : Int32} {x3 : Int32} {x4 : Int32} {x5 : Int32} {v6 : Value} : mm_ex d 86 40 [.ref a0, .int x1, .int x2, .int x3, .int x4, .int x5, v6] [] S =
    if (nI 3) < x5 then mm_ex d 86 100 [.ref a0, .int x1, .int x2, .int x3, .int x4, .int x5, v6] [] S else mm_ex d 86 46 [.ref a0, .int x1, .int x2, .int x3, .int x4, .int x5, v6] [] S :=
  Eq.trans (mx_iload t86 d86_40 (x := x5) rfl) <|
  Eq.trans (mx_iconst t86 d86_42 (v := nI 3) rfl) <|
  (mx_cgt t86 d86_43 (tgt := 100) (by decide))
theorem b86_46 {d : Nat} {S : mm_S} {a0 : Nat} {x1 : Int32} {x2 : Int32} {x3 : Int32} {x4 : Int32} {x5 : Int32} {v6 : Value} : mm_ex d 86 46 [.ref a0, .int x1, .int x2, .int x3, .int x4, .int x5, v6] [] S =
    if x5 = (nI 3) then mm_ex d 86 52 [.ref a0, .int x1, .int x2, .int x3, .int x4, .int x5, v6] [] S else mm_ex d 86 66 [.ref a0, .int x1, .int x2, .int x3, .int x4, .int x5, v6] [] S :=
  Eq.trans (mx_iload t86 d86_46 (x := x5) rfl) <|
  Eq.trans (mx_iconst t86 d86_48 (v := nI 3) rfl) <|
  (mx_cne t86 d86_49 (tgt := 66) (by decide))
theorem b86_52 {d : Nat} {S : mm_S} {a0 : Nat} {x1 : Int32} {x2 : Int32} {x3 : Int32} {x4 : Int32} {x5 : Int32} {v6 : Value} (h0 : mm_obj S a0 11 = true) (h1 : (mm_R S a0 0).isSome = true) (h2 : mm_rk S (mm_rg S a0 0) = 1) : mm_ex (d + 1) 86 52 [.ref a0, .int x1, .int x2, .int x3, .int x4, .int x5, v6] [] S =
    mm_bd (mm_cl d 16 [.ref (mm_rg S a0 0), .int x2] S) (fun v S2 => mm_ex (d + 1) 86 60 [.ref a0, .int x1, .int x2, .int x3, .int x4, .int x5, v6] (v.toList ++ []) S2) :=
  Eq.trans (mx_aload_n t86 d86_52 (x := a0) rfl) <|
  Eq.trans (mx_getR t86 d86_53 rfl fl11_17 h0 h1) <|
  Eq.trans (mx_iload_n t86 d86_56 (x := x2) rfl) <|
  (mx_virt (st := []) (k := 1) t86 [.int x2] d86_57 vt11_208 rfl rfl (Nat.le_of_ble_eq_true rfl) (Nat.le_of_ble_eq_true rfl) h2)
theorem b86_60 {d : Nat} {S : mm_S} {a0 : Nat} {x1 : Int32} {x2 : Int32} {x3 : Int32} {x4 : Int32} {x5 : Int32} {v6 : Value} {p0 : Int32} : mm_ex d 86 60 [.ref a0, .int x1, .int x2, .int x3, .int x4, .int x5, v6] [.int p0] S =
    if p0 = nI 0 then mm_ex d 86 63 [.ref a0, .int x1, .int x2, .int x3, .int x4, .int x5, v6] [] S else mm_ex d 86 66 [.ref a0, .int x1, .int x2, .int x3, .int x4, .int x5, v6] [] S :=
  (mx_ine t86 d86_60 (tgt := 66) (by decide))
theorem b86_63 {d : Nat} {S : mm_S} {a0 : Nat} {x1 : Int32} {x2 : Int32} {x3 : Int32} {x4 : Int32} {x5 : Int32} {v6 : Value} : mm_ex d 86 63 [.ref a0, .int x1, .int x2, .int x3, .int x4, .int x5, v6] [] S =
    mm_ex d 86 40 [.ref a0, .int x1, .int x2, .int x3, .int x4, .int (x5 + nI 1), v6] [] S :=
  Eq.trans (mx_goto t86 d86_63 (tgt := 94) (by decide)) <|
  Eq.trans (mx_iinc t86 d86_94 (x := x5) (v := nI 1) (ls' := [.ref a0, .int x1, .int x2, .int x3, .int x4, .int (x5 + nI 1), v6]) rfl rfl rfl rfl) <|
  (mx_goto t86 d86_97 (tgt := 40) (by decide))
theorem b86_66 {d : Nat} {S : mm_S} {a0 : Nat} {x1 : Int32} {x2 : Int32} {x3 : Int32} {x4 : Int32} {x5 : Int32} {v6 : Value} (h0 : mm_rk S a0 = 11) : mm_ex (d + 1) 86 66 [.ref a0, .int x1, .int x2, .int x3, .int x4, .int x5, v6] [] S =
    mm_bd (mm_cl d 116 [.ref a0, .int x2, .int x5, .int x1] S) (fun v S2 => mm_ex (d + 1) 86 74 [.ref a0, .int x1, .int x2, .int x3, .int x4, .int x5, v6] (v.toList ++ []) S2) :=
  Eq.trans (mx_aload_n t86 d86_66 (x := a0) rfl) <|
  Eq.trans (mx_iload_n t86 d86_67 (x := x2) rfl) <|
  Eq.trans (mx_iload t86 d86_68 (x := x5) rfl) <|
  Eq.trans (mx_iload_n t86 d86_70 (x := x1) rfl) <|
  (mx_virt (st := []) (k := 11) t86 [.int x2, .int x5, .int x1] d86_71 vt11_211 rfl rfl (Nat.le_of_ble_eq_true rfl) (Nat.le_of_ble_eq_true rfl) h0)
theorem b86_74 {d : Nat} {S : mm_S} {a0 : Nat} {x1 : Int32} {x2 : Int32} {x3 : Int32} {x4 : Int32} {x5 : Int32} {v6 : Value} {p0 : Int32} : mm_ex d 86 74 [.ref a0, .int x1, .int x2, .int x3, .int x4, .int x5, v6] [.int p0] S =
    if x3 = nI 0 then mm_ex d 86 87 [.ref a0, .int x1, .int x2, .int x3, .int x4, .int x5, .int p0] [] S else mm_ex d 86 80 [.ref a0, .int x1, .int x2, .int x3, .int x4, .int x5, .int p0] [] S :=
  Eq.trans (mx_istore t86 d86_74 (ls' := [.ref a0, .int x1, .int x2, .int x3, .int x4, .int x5, .int p0]) rfl rfl) <|
  Eq.trans (mx_iload_n t86 d86_76 (x := x3) rfl) <|
  (mx_ieq t86 d86_77 (tgt := 87) (by decide))
theorem b86_80 {d : Nat} {S : mm_S} {a0 : Nat} {x1 : Int32} {x2 : Int32} {x3 : Int32} {x4 : Int32} {x5 : Int32} {x6 : Int32} : mm_ex d 86 80 [.ref a0, .int x1, .int x2, .int x3, .int x4, .int x5, .int x6] [] S =
    if x6 ≤ x4 then mm_ex d 86 94 [.ref a0, .int x1, .int x2, .int x3, .int x4, .int x5, .int x6] [] S else mm_ex d 86 87 [.ref a0, .int x1, .int x2, .int x3, .int x4, .int x5, .int x6] [] S :=
  Eq.trans (mx_iload t86 d86_80 (x := x6) rfl) <|
  Eq.trans (mx_iload t86 d86_82 (x := x4) rfl) <|
  (mx_cle t86 d86_84 (tgt := 94) (by decide))
theorem b86_87 {d : Nat} {S : mm_S} {a0 : Nat} {x1 : Int32} {x2 : Int32} {x3 : Int32} {x4 : Int32} {x5 : Int32} {x6 : Int32} : mm_ex d 86 87 [.ref a0, .int x1, .int x2, .int x3, .int x4, .int x5, .int x6] [] S =
    mm_ex d 86 40 [.ref a0, .int x1, .int x2, .int x5, .int x6, .int (x5 + nI 1), .int x6] [] S :=
  Eq.trans (mx_iload t86 d86_87 (x := x5) rfl) <|
  Eq.trans (mx_istore_n t86 d86_89 (ls' := [.ref a0, .int x1, .int x2, .int x5, .int x4, .int x5, .int x6]) rfl rfl) <|
  Eq.trans (mx_iload t86 d86_90 (x := x6) rfl) <|
  Eq.trans (mx_istore t86 d86_92 (ls' := [.ref a0, .int x1, .int x2, .int x5, .int x6, .int x5, .int x6]) rfl rfl) <|
  Eq.trans (mx_iinc t86 d86_94 (x := x5) (v := nI 1) (ls' := [.ref a0, .int x1, .int x2, .int x5, .int x6, .int (x5 + nI 1), .int x6]) rfl rfl rfl rfl) <|
  (mx_goto t86 d86_97 (tgt := 40) (by decide))
theorem b86_94 {d : Nat} {S : mm_S} {a0 : Nat} {x1 : Int32} {x2 : Int32} {x3 : Int32} {x4 : Int32} {x5 : Int32} {x6 : Int32} : mm_ex d 86 94 [.ref a0, .int x1, .int x2, .int x3, .int x4, .int x5, .int x6] [] S =
    mm_ex d 86 40 [.ref a0, .int x1, .int x2, .int x3, .int x4, .int (x5 + nI 1), .int x6] [] S :=
  Eq.trans (mx_iinc t86 d86_94 (x := x5) (v := nI 1) (ls' := [.ref a0, .int x1, .int x2, .int x3, .int x4, .int (x5 + nI 1), .int x6]) rfl rfl rfl rfl) <|
  (mx_goto t86 d86_97 (tgt := 40) (by decide))
theorem b86_100 {d : Nat} {S : mm_S} {a0 : Nat} {x1 : Int32} {x2 : Int32} {x3 : Int32} {x4 : Int32} {x5 : Int32} {v6 : Value} : mm_ex d 86 100 [.ref a0, .int x1, .int x2, .int x3, .int x4, .int x5, v6] [] S =
    some (some (.int x3), S) :=
  Eq.trans (mx_iload_n t86 d86_100 (x := x3) rfl) <|
  (mx_iret t86 d86_101 (ty := .int) rfl rfl (fun h => nomatch h))
theorem e86 {d : Nat} {S : mm_S} {a0 : Nat} {x1 : Int32} : mm_cl d 86 [.ref a0, .int x1] S = mm_ex d 86 0 [.ref a0, .int x1, .null, .null, .null, .null, .null] [] S := mm_cl_eq t86 (Nat.le_of_ble_eq_true rfl) rfl
/-! X11_order -/
theorem dd87_0 : (decode prog_1_method_16_code 0 = .ok (.iload_n 1, 1)) ∧ (decode prog_1_method_16_code 1 = .ok (.ifCond .eq 8, 3)) ∧ (decode prog_1_method_16_code 4 = .ok (.iload_n 1, 1)) ∧ (decode prog_1_method_16_code 5 = .ok (.iconst 1, 1)) ∧ (decode prog_1_method_16_code 6 = .ok (.if_icmp .ne 19, 3)) ∧ (decode prog_1_method_16_code 9 = .ok (.iload_n 2, 1)) ∧ (decode prog_1_method_16_code 10 = .ok (.iconst (-1), 1)) ∧ (decode prog_1_method_16_code 11 = .ok (.if_icmp .lt 14, 3)) ∧ (decode prog_1_method_16_code 14 = .ok (.iload_n 2, 1)) ∧ (decode prog_1_method_16_code 15 = .ok (.aload_n 0, 1)) ∧ (decode prog_1_method_16_code 16 = .ok (.getfield 17, 3)) ∧ (decode prog_1_method_16_code 19 = .ok (.getfield 177, 3)) ∧ (decode prog_1_method_16_code 22 = .ok (.if_icmp .lt 6, 3)) ∧ (decode prog_1_method_16_code 25 = .ok (.ldc 123, 2)) ∧ (decode prog_1_method_16_code 27 = .ok (.ireturn, 1)) ∧ (decode prog_1_method_16_code 28 = .ok (.aload_n 0, 1)) := by decide +kernel
theorem d87_0 : decode prog_1_method_16_code 0 = .ok (.iload_n 1, 1) := dd87_0.1
theorem d87_1 : decode prog_1_method_16_code 1 = .ok (.ifCond .eq 8, 3) := dd87_0.2.1
theorem d87_4 : decode prog_1_method_16_code 4 = .ok (.iload_n 1, 1) := dd87_0.2.2.1
theorem d87_5 : decode prog_1_method_16_code 5 = .ok (.iconst 1, 1) := dd87_0.2.2.2.1
theorem d87_6 : decode prog_1_method_16_code 6 = .ok (.if_icmp .ne 19, 3) := dd87_0.2.2.2.2.1
theorem d87_9 : decode prog_1_method_16_code 9 = .ok (.iload_n 2, 1) := dd87_0.2.2.2.2.2.1
theorem d87_10 : decode prog_1_method_16_code 10 = .ok (.iconst (-1), 1) := dd87_0.2.2.2.2.2.2.1
theorem d87_11 : decode prog_1_method_16_code 11 = .ok (.if_icmp .lt 14, 3) := dd87_0.2.2.2.2.2.2.2.1
theorem d87_14 : decode prog_1_method_16_code 14 = .ok (.iload_n 2, 1) := dd87_0.2.2.2.2.2.2.2.2.1
theorem d87_15 : decode prog_1_method_16_code 15 = .ok (.aload_n 0, 1) := dd87_0.2.2.2.2.2.2.2.2.2.1
theorem d87_16 : decode prog_1_method_16_code 16 = .ok (.getfield 17, 3) := dd87_0.2.2.2.2.2.2.2.2.2.2.1
theorem d87_19 : decode prog_1_method_16_code 19 = .ok (.getfield 177, 3) := dd87_0.2.2.2.2.2.2.2.2.2.2.2.1
theorem d87_22 : decode prog_1_method_16_code 22 = .ok (.if_icmp .lt 6, 3) := dd87_0.2.2.2.2.2.2.2.2.2.2.2.2.1
theorem d87_25 : decode prog_1_method_16_code 25 = .ok (.ldc 123, 2) := dd87_0.2.2.2.2.2.2.2.2.2.2.2.2.2.1
theorem d87_27 : decode prog_1_method_16_code 27 = .ok (.ireturn, 1) := dd87_0.2.2.2.2.2.2.2.2.2.2.2.2.2.2.1
theorem d87_28 : decode prog_1_method_16_code 28 = .ok (.aload_n 0, 1) := dd87_0.2.2.2.2.2.2.2.2.2.2.2.2.2.2.2
theorem dd87_29 : (decode prog_1_method_16_code 29 = .ok (.getfield 17, 3)) ∧ (decode prog_1_method_16_code 32 = .ok (.getfield 177, 3)) ∧ (decode prog_1_method_16_code 35 = .ok (.iconst 5, 1)) ∧ (decode prog_1_method_16_code 36 = .ok (.if_icmp .le 6, 3)) ∧ (decode prog_1_method_16_code 39 = .ok (.bipush (-9), 2)) ∧ (decode prog_1_method_16_code 41 = .ok (.ireturn, 1)) ∧ (decode prog_1_method_16_code 42 = .ok (.aload_n 0, 1)) ∧ (decode prog_1_method_16_code 43 = .ok (.iload_n 1, 1)) ∧ (decode prog_1_method_16_code 44 = .ok (.invokevirtual 215, 3)) ∧ (decode prog_1_method_16_code 47 = .ok (.istore_n 3, 1)) ∧ (decode prog_1_method_16_code 48 = .ok (.iload_n 2, 1)) ∧ (decode prog_1_method_16_code 49 = .ok (.ifCond .ge 7, 3)) ∧ (decode prog_1_method_16_code 52 = .ok (.iload_n 3, 1)) ∧ (decode prog_1_method_16_code 53 = .ok (.goto 9, 3)) ∧ (decode prog_1_method_16_code 56 = .ok (.aload_n 0, 1)) ∧ (decode prog_1_method_16_code 57 = .ok (.getfield 57, 3)) := by decide +kernel
theorem d87_29 : decode prog_1_method_16_code 29 = .ok (.getfield 17, 3) := dd87_29.1
theorem d87_32 : decode prog_1_method_16_code 32 = .ok (.getfield 177, 3) := dd87_29.2.1
theorem d87_35 : decode prog_1_method_16_code 35 = .ok (.iconst 5, 1) := dd87_29.2.2.1
theorem d87_36 : decode prog_1_method_16_code 36 = .ok (.if_icmp .le 6, 3) := dd87_29.2.2.2.1
theorem d87_39 : decode prog_1_method_16_code 39 = .ok (.bipush (-9), 2) := dd87_29.2.2.2.2.1
theorem d87_41 : decode prog_1_method_16_code 41 = .ok (.ireturn, 1) := dd87_29.2.2.2.2.2.1
theorem d87_42 : decode prog_1_method_16_code 42 = .ok (.aload_n 0, 1) := dd87_29.2.2.2.2.2.2.1
theorem d87_43 : decode prog_1_method_16_code 43 = .ok (.iload_n 1, 1) := dd87_29.2.2.2.2.2.2.2.1
theorem d87_44 : decode prog_1_method_16_code 44 = .ok (.invokevirtual 215, 3) := dd87_29.2.2.2.2.2.2.2.2.1
theorem d87_47 : decode prog_1_method_16_code 47 = .ok (.istore_n 3, 1) := dd87_29.2.2.2.2.2.2.2.2.2.1
theorem d87_48 : decode prog_1_method_16_code 48 = .ok (.iload_n 2, 1) := dd87_29.2.2.2.2.2.2.2.2.2.2.1
theorem d87_49 : decode prog_1_method_16_code 49 = .ok (.ifCond .ge 7, 3) := dd87_29.2.2.2.2.2.2.2.2.2.2.2.1
theorem d87_52 : decode prog_1_method_16_code 52 = .ok (.iload_n 3, 1) := dd87_29.2.2.2.2.2.2.2.2.2.2.2.2.1
theorem d87_53 : decode prog_1_method_16_code 53 = .ok (.goto 9, 3) := dd87_29.2.2.2.2.2.2.2.2.2.2.2.2.2.1
theorem d87_56 : decode prog_1_method_16_code 56 = .ok (.aload_n 0, 1) := dd87_29.2.2.2.2.2.2.2.2.2.2.2.2.2.2.1
theorem d87_57 : decode prog_1_method_16_code 57 = .ok (.getfield 57, 3) := dd87_29.2.2.2.2.2.2.2.2.2.2.2.2.2.2.2
theorem dd87_60 : (decode prog_1_method_16_code 60 = .ok (.iload_n 2, 1)) ∧ (decode prog_1_method_16_code 61 = .ok (.iaload, 1)) ∧ (decode prog_1_method_16_code 62 = .ok (.ireturn, 1)) := by decide +kernel
theorem d87_60 : decode prog_1_method_16_code 60 = .ok (.iload_n 2, 1) := dd87_60.1
theorem d87_61 : decode prog_1_method_16_code 61 = .ok (.iaload, 1) := dd87_60.2.1
theorem d87_62 : decode prog_1_method_16_code 62 = .ok (.ireturn, 1) := dd87_60.2.2
theorem b87_0 {d : Nat} {S : mm_S} {a0 : Nat} {x1 : Int32} {x2 : Int32} : mm_ex d 87 0 [.ref a0, .int x1, .int x2, .null] [] S =
    if x1 = nI 0 then mm_ex d 87 9 [.ref a0, .int x1, .int x2, .null] [] S else mm_ex d 87 4 [.ref a0, .int x1, .int x2, .null] [] S :=
  Eq.trans (mx_iload_n t87 d87_0 (x := x1) rfl) <|
  (mx_ieq t87 d87_1 (tgt := 9) (by decide))
theorem b87_4 {d : Nat} {S : mm_S} {a0 : Nat} {x1 : Int32} {x2 : Int32} : mm_ex d 87 4 [.ref a0, .int x1, .int x2, .null] [] S =
    if x1 = (nI 1) then mm_ex d 87 9 [.ref a0, .int x1, .int x2, .null] [] S else mm_ex d 87 25 [.ref a0, .int x1, .int x2, .null] [] S :=
  Eq.trans (mx_iload_n t87 d87_4 (x := x1) rfl) <|
  Eq.trans (mx_iconst t87 d87_5 (v := nI 1) rfl) <|
  (mx_cne t87 d87_6 (tgt := 25) (by decide))
theorem b87_9 {d : Nat} {S : mm_S} {a0 : Nat} {x1 : Int32} {x2 : Int32} : mm_ex d 87 9 [.ref a0, .int x1, .int x2, .null] [] S =
    if x2 < (-1) then mm_ex d 87 25 [.ref a0, .int x1, .int x2, .null] [] S else mm_ex d 87 14 [.ref a0, .int x1, .int x2, .null] [] S :=
  Eq.trans (mx_iload_n t87 d87_9 (x := x2) rfl) <|
  Eq.trans (mx_iconst t87 d87_10 (v := -1) rfl) <|
  (mx_clt t87 d87_11 (tgt := 25) (by decide))
theorem b87_14 {d : Nat} {S : mm_S} {a0 : Nat} {x1 : Int32} {x2 : Int32} (h0 : mm_obj S a0 11 = true) (h1 : (mm_R S a0 0).isSome = true) (h2 : mm_obj S (mm_rg S a0 0) 1 = true) : mm_ex d 87 14 [.ref a0, .int x1, .int x2, .null] [] S =
    if x2 < (mm_M S (mm_rg S a0 0) 11) then mm_ex d 87 28 [.ref a0, .int x1, .int x2, .null] [] S else mm_ex d 87 25 [.ref a0, .int x1, .int x2, .null] [] S :=
  Eq.trans (mx_iload_n t87 d87_14 (x := x2) rfl) <|
  Eq.trans (mx_aload_n t87 d87_15 (x := a0) rfl) <|
  Eq.trans (mx_getR t87 d87_16 rfl fl11_17 h0 h1) <|
  Eq.trans (mx_geti t87 d87_19 rfl fl11_177 h2) <|
  (mx_clt t87 d87_22 (tgt := 28) (by decide))
theorem b87_25 {d : Nat} {S : mm_S} {a0 : Nat} {x1 : Int32} {x2 : Int32} : mm_ex d 87 25 [.ref a0, .int x1, .int x2, .null] [] S =
    some (some (.int (-100001)), S) :=
  Eq.trans (mx_ldc t87 d87_25 (v := .int (-100001)) lc11_123) <|
  (mx_iret t87 d87_27 (ty := .int) rfl rfl (fun h => nomatch h))
theorem b87_28 {d : Nat} {S : mm_S} {a0 : Nat} {x1 : Int32} {x2 : Int32} (h0 : mm_obj S a0 11 = true) (h1 : (mm_R S a0 0).isSome = true) (h2 : mm_obj S (mm_rg S a0 0) 1 = true) : mm_ex d 87 28 [.ref a0, .int x1, .int x2, .null] [] S =
    if (mm_M S (mm_rg S a0 0) 11) ≤ (nI 5) then mm_ex d 87 42 [.ref a0, .int x1, .int x2, .null] [] S else mm_ex d 87 39 [.ref a0, .int x1, .int x2, .null] [] S :=
  Eq.trans (mx_aload_n t87 d87_28 (x := a0) rfl) <|
  Eq.trans (mx_getR t87 d87_29 rfl fl11_17 h0 h1) <|
  Eq.trans (mx_geti t87 d87_32 rfl fl11_177 h2) <|
  Eq.trans (mx_iconst t87 d87_35 (v := nI 5) rfl) <|
  (mx_cle t87 d87_36 (tgt := 42) (by decide))
theorem b87_39 {d : Nat} {S : mm_S} {a0 : Nat} {x1 : Int32} {x2 : Int32} : mm_ex d 87 39 [.ref a0, .int x1, .int x2, .null] [] S =
    some (some (.int (-9)), S) :=
  Eq.trans (mx_bipush t87 d87_39 (v := -9) rfl) <|
  (mx_iret t87 d87_41 (ty := .int) rfl rfl (fun h => nomatch h))
theorem b87_42 {d : Nat} {S : mm_S} {a0 : Nat} {x1 : Int32} {x2 : Int32} (h0 : mm_rk S a0 = 11) : mm_ex (d + 1) 87 42 [.ref a0, .int x1, .int x2, .null] [] S =
    mm_bd (mm_cl d 119 [.ref a0, .int x1] S) (fun v S2 => mm_ex (d + 1) 87 47 [.ref a0, .int x1, .int x2, .null] (v.toList ++ []) S2) :=
  Eq.trans (mx_aload_n t87 d87_42 (x := a0) rfl) <|
  Eq.trans (mx_iload_n t87 d87_43 (x := x1) rfl) <|
  (mx_virt (st := []) (k := 11) t87 [.int x1] d87_44 vt11_215 rfl rfl (Nat.le_of_ble_eq_true rfl) (Nat.le_of_ble_eq_true rfl) h0)
theorem b87_47 {d : Nat} {S : mm_S} {a0 : Nat} {x1 : Int32} {x2 : Int32} {p0 : Int32} : mm_ex d 87 47 [.ref a0, .int x1, .int x2, .null] [.int p0] S =
    if nI 0 ≤ x2 then mm_ex d 87 56 [.ref a0, .int x1, .int x2, .int p0] [] S else mm_ex d 87 52 [.ref a0, .int x1, .int x2, .int p0] [] S :=
  Eq.trans (mx_istore_n t87 d87_47 (ls' := [.ref a0, .int x1, .int x2, .int p0]) rfl rfl) <|
  Eq.trans (mx_iload_n t87 d87_48 (x := x2) rfl) <|
  (mx_ige t87 d87_49 (tgt := 56) (by decide))
theorem b87_52 {d : Nat} {S : mm_S} {a0 : Nat} {x1 : Int32} {x2 : Int32} {x3 : Int32} : mm_ex d 87 52 [.ref a0, .int x1, .int x2, .int x3] [] S =
    some (some (.int x3), S) :=
  Eq.trans (mx_iload_n t87 d87_52 (x := x3) rfl) <|
  Eq.trans (mx_goto t87 d87_53 (tgt := 62) (by decide)) <|
  (mx_iret t87 d87_62 (ty := .int) rfl rfl (fun h => nomatch h))
theorem b87_56 {d : Nat} {S : mm_S} {a0 : Nat} {x1 : Int32} {x2 : Int32} {x3 : Int32} (h0 : mm_obj S a0 11 = true) (h1 : (mm_R S a0 9).isSome = true) (h2 : mm_inb x2 (mm_N S (mm_rg S a0 9)) = true) (h3 : mm_arr S (mm_rg S a0 9) 13 = true) : mm_ex d 87 56 [.ref a0, .int x1, .int x2, .int x3] [] S =
    some (some (.int (mm_M S (mm_rg S a0 9) (x2).toNatClampNeg)), S) :=
  Eq.trans (mx_aload_n t87 d87_56 (x := a0) rfl) <|
  Eq.trans (mx_getR t87 d87_57 rfl fl11_57 h0 h1) <|
  Eq.trans (mx_iload_n t87 d87_60 (x := x2) rfl) <|
  Eq.trans (mx_iald t87 d87_61 h3 h2) <|
  (mx_iret t87 d87_62 (ty := .int) rfl rfl (fun h => nomatch h))
theorem e87 {d : Nat} {S : mm_S} {a0 : Nat} {x1 : Int32} {x2 : Int32} : mm_cl d 87 [.ref a0, .int x1, .int x2] S = mm_ex d 87 0 [.ref a0, .int x1, .int x2, .null] [] S := mm_cl_eq t87 (Nat.le_of_ble_eq_true rfl) rfl
/-! X11_letBy -/
theorem dd88_0 : (decode prog_1_method_17_code 0 = .ok (.iload_n 1, 1)) ∧ (decode prog_1_method_17_code 1 = .ok (.ifCond .eq 10, 3)) ∧ (decode prog_1_method_17_code 4 = .ok (.iload_n 1, 1)) ∧ (decode prog_1_method_17_code 5 = .ok (.iconst 1, 1)) ∧ (decode prog_1_method_17_code 6 = .ok (.if_icmp .eq 5, 3)) ∧ (decode prog_1_method_17_code 9 = .ok (.iconst (-1), 1)) ∧ (decode prog_1_method_17_code 10 = .ok (.ireturn, 1)) ∧ (decode prog_1_method_17_code 11 = .ok (.aload_n 0, 1)) ∧ (decode prog_1_method_17_code 12 = .ok (.getfield 29, 3)) ∧ (decode prog_1_method_17_code 15 = .ok (.aload_n 0, 1)) ∧ (decode prog_1_method_17_code 16 = .ok (.getfield 17, 3)) ∧ (decode prog_1_method_17_code 19 = .ok (.invokevirtual 184, 3)) ∧ (decode prog_1_method_17_code 22 = .ok (.aload_n 0, 1)) ∧ (decode prog_1_method_17_code 23 = .ok (.getfield 29, 3)) ∧ (decode prog_1_method_17_code 26 = .ok (.invokevirtual 218, 3)) ∧ (decode prog_1_method_17_code 29 = .ok (.iconst 0, 1)) := by decide +kernel
theorem d88_0 : decode prog_1_method_17_code 0 = .ok (.iload_n 1, 1) := dd88_0.1
theorem d88_1 : decode prog_1_method_17_code 1 = .ok (.ifCond .eq 10, 3) := dd88_0.2.1
theorem d88_4 : decode prog_1_method_17_code 4 = .ok (.iload_n 1, 1) := dd88_0.2.2.1
theorem d88_5 : decode prog_1_method_17_code 5 = .ok (.iconst 1, 1) := dd88_0.2.2.2.1
theorem d88_6 : decode prog_1_method_17_code 6 = .ok (.if_icmp .eq 5, 3) := dd88_0.2.2.2.2.1
theorem d88_9 : decode prog_1_method_17_code 9 = .ok (.iconst (-1), 1) := dd88_0.2.2.2.2.2.1
theorem d88_10 : decode prog_1_method_17_code 10 = .ok (.ireturn, 1) := dd88_0.2.2.2.2.2.2.1
theorem d88_11 : decode prog_1_method_17_code 11 = .ok (.aload_n 0, 1) := dd88_0.2.2.2.2.2.2.2.1
theorem d88_12 : decode prog_1_method_17_code 12 = .ok (.getfield 29, 3) := dd88_0.2.2.2.2.2.2.2.2.1
theorem d88_15 : decode prog_1_method_17_code 15 = .ok (.aload_n 0, 1) := dd88_0.2.2.2.2.2.2.2.2.2.1
theorem d88_16 : decode prog_1_method_17_code 16 = .ok (.getfield 17, 3) := dd88_0.2.2.2.2.2.2.2.2.2.2.1
theorem d88_19 : decode prog_1_method_17_code 19 = .ok (.invokevirtual 184, 3) := dd88_0.2.2.2.2.2.2.2.2.2.2.2.1
theorem d88_22 : decode prog_1_method_17_code 22 = .ok (.aload_n 0, 1) := dd88_0.2.2.2.2.2.2.2.2.2.2.2.2.1
theorem d88_23 : decode prog_1_method_17_code 23 = .ok (.getfield 29, 3) := dd88_0.2.2.2.2.2.2.2.2.2.2.2.2.2.1
theorem d88_26 : decode prog_1_method_17_code 26 = .ok (.invokevirtual 218, 3) := dd88_0.2.2.2.2.2.2.2.2.2.2.2.2.2.2.1
theorem d88_29 : decode prog_1_method_17_code 29 = .ok (.iconst 0, 1) := dd88_0.2.2.2.2.2.2.2.2.2.2.2.2.2.2.2
theorem dd88_30 : (decode prog_1_method_17_code 30 = .ok (.istore_n 2, 1)) ∧ (decode prog_1_method_17_code 31 = .ok (.bipush (-5), 2)) ∧ (decode prog_1_method_17_code 33 = .ok (.istore_n 3, 1)) ∧ (decode prog_1_method_17_code 34 = .ok (.iconst 0, 1)) ∧ (decode prog_1_method_17_code 35 = .ok (.istore 4, 2)) ∧ (decode prog_1_method_17_code 37 = .ok (.iload 4, 2)) ∧ (decode prog_1_method_17_code 39 = .ok (.iconst 1, 1)) ∧ (decode prog_1_method_17_code 40 = .ok (.iadd, 1)) ∧ (decode prog_1_method_17_code 41 = .ok (.aload_n 0, 1)) ∧ (decode prog_1_method_17_code 42 = .ok (.getfield 17, 3)) ∧ (decode prog_1_method_17_code 45 = .ok (.getfield 177, 3)) ∧ (decode prog_1_method_17_code 48 = .ok (.if_icmp .ge 28, 3)) ∧ (decode prog_1_method_17_code 51 = .ok (.aload_n 0, 1)) ∧ (decode prog_1_method_17_code 52 = .ok (.iload 4, 2)) ∧ (decode prog_1_method_17_code 54 = .ok (.invokevirtual 221, 3)) ∧ (decode prog_1_method_17_code 57 = .ok (.ifCond .eq 13, 3)) := by decide +kernel
theorem d88_30 : decode prog_1_method_17_code 30 = .ok (.istore_n 2, 1) := dd88_30.1
theorem d88_31 : decode prog_1_method_17_code 31 = .ok (.bipush (-5), 2) := dd88_30.2.1
theorem d88_33 : decode prog_1_method_17_code 33 = .ok (.istore_n 3, 1) := dd88_30.2.2.1
theorem d88_34 : decode prog_1_method_17_code 34 = .ok (.iconst 0, 1) := dd88_30.2.2.2.1
theorem d88_35 : decode prog_1_method_17_code 35 = .ok (.istore 4, 2) := dd88_30.2.2.2.2.1
theorem d88_37 : decode prog_1_method_17_code 37 = .ok (.iload 4, 2) := dd88_30.2.2.2.2.2.1
theorem d88_39 : decode prog_1_method_17_code 39 = .ok (.iconst 1, 1) := dd88_30.2.2.2.2.2.2.1
theorem d88_40 : decode prog_1_method_17_code 40 = .ok (.iadd, 1) := dd88_30.2.2.2.2.2.2.2.1
theorem d88_41 : decode prog_1_method_17_code 41 = .ok (.aload_n 0, 1) := dd88_30.2.2.2.2.2.2.2.2.1
theorem d88_42 : decode prog_1_method_17_code 42 = .ok (.getfield 17, 3) := dd88_30.2.2.2.2.2.2.2.2.2.1
theorem d88_45 : decode prog_1_method_17_code 45 = .ok (.getfield 177, 3) := dd88_30.2.2.2.2.2.2.2.2.2.2.1
theorem d88_48 : decode prog_1_method_17_code 48 = .ok (.if_icmp .ge 28, 3) := dd88_30.2.2.2.2.2.2.2.2.2.2.2.1
theorem d88_51 : decode prog_1_method_17_code 51 = .ok (.aload_n 0, 1) := dd88_30.2.2.2.2.2.2.2.2.2.2.2.2.1
theorem d88_52 : decode prog_1_method_17_code 52 = .ok (.iload 4, 2) := dd88_30.2.2.2.2.2.2.2.2.2.2.2.2.2.1
theorem d88_54 : decode prog_1_method_17_code 54 = .ok (.invokevirtual 221, 3) := dd88_30.2.2.2.2.2.2.2.2.2.2.2.2.2.2.1
theorem d88_57 : decode prog_1_method_17_code 57 = .ok (.ifCond .eq 13, 3) := dd88_30.2.2.2.2.2.2.2.2.2.2.2.2.2.2.2
theorem dd88_60 : (decode prog_1_method_17_code 60 = .ok (.iload_n 2, 1)) ∧ (decode prog_1_method_17_code 61 = .ok (.ifCond .ne 6, 3)) ∧ (decode prog_1_method_17_code 64 = .ok (.iload 4, 2)) ∧ (decode prog_1_method_17_code 66 = .ok (.istore_n 3, 1)) ∧ (decode prog_1_method_17_code 67 = .ok (.iinc 2 1, 3)) ∧ (decode prog_1_method_17_code 70 = .ok (.iinc 4 1, 3)) ∧ (decode prog_1_method_17_code 73 = .ok (.goto (-36), 3)) ∧ (decode prog_1_method_17_code 76 = .ok (.iload_n 1, 1)) ∧ (decode prog_1_method_17_code 77 = .ok (.ifCond .ne 7, 3)) ∧ (decode prog_1_method_17_code 80 = .ok (.iload_n 2, 1)) ∧ (decode prog_1_method_17_code 81 = .ok (.goto 4, 3)) ∧ (decode prog_1_method_17_code 84 = .ok (.iload_n 3, 1)) ∧ (decode prog_1_method_17_code 85 = .ok (.ireturn, 1)) := by decide +kernel
theorem d88_60 : decode prog_1_method_17_code 60 = .ok (.iload_n 2, 1) := dd88_60.1
theorem d88_61 : decode prog_1_method_17_code 61 = .ok (.ifCond .ne 6, 3) := dd88_60.2.1
theorem d88_64 : decode prog_1_method_17_code 64 = .ok (.iload 4, 2) := dd88_60.2.2.1
theorem d88_66 : decode prog_1_method_17_code 66 = .ok (.istore_n 3, 1) := dd88_60.2.2.2.1
theorem d88_67 : decode prog_1_method_17_code 67 = .ok (.iinc 2 1, 3) := dd88_60.2.2.2.2.1
theorem d88_70 : decode prog_1_method_17_code 70 = .ok (.iinc 4 1, 3) := dd88_60.2.2.2.2.2.1
theorem d88_73 : decode prog_1_method_17_code 73 = .ok (.goto (-36), 3) := dd88_60.2.2.2.2.2.2.1
theorem d88_76 : decode prog_1_method_17_code 76 = .ok (.iload_n 1, 1) := dd88_60.2.2.2.2.2.2.2.1
theorem d88_77 : decode prog_1_method_17_code 77 = .ok (.ifCond .ne 7, 3) := dd88_60.2.2.2.2.2.2.2.2.1
theorem d88_80 : decode prog_1_method_17_code 80 = .ok (.iload_n 2, 1) := dd88_60.2.2.2.2.2.2.2.2.2.1
theorem d88_81 : decode prog_1_method_17_code 81 = .ok (.goto 4, 3) := dd88_60.2.2.2.2.2.2.2.2.2.2.1
theorem d88_84 : decode prog_1_method_17_code 84 = .ok (.iload_n 3, 1) := dd88_60.2.2.2.2.2.2.2.2.2.2.2.1
theorem d88_85 : decode prog_1_method_17_code 85 = .ok (.ireturn, 1) := dd88_60.2.2.2.2.2.2.2.2.2.2.2.2
theorem b88_0 {d : Nat} {S : mm_S} {a0 : Nat} {x1 : Int32} : mm_ex d 88 0 [.ref a0, .int x1, .null, .null, .null] [] S =
    if x1 = nI 0 then mm_ex d 88 11 [.ref a0, .int x1, .null, .null, .null] [] S else mm_ex d 88 4 [.ref a0, .int x1, .null, .null, .null] [] S :=
  Eq.trans (mx_iload_n t88 d88_0 (x := x1) rfl) <|
  (mx_ieq t88 d88_1 (tgt := 11) (by decide))
theorem b88_4 {d : Nat} {S : mm_S} {a0 : Nat} {x1 : Int32} : mm_ex d 88 4 [.ref a0, .int x1, .null, .null, .null] [] S =
    if x1 = (nI 1) then mm_ex d 88 11 [.ref a0, .int x1, .null, .null, .null] [] S else mm_ex d 88 9 [.ref a0, .int x1, .null, .null, .null] [] S :=
  Eq.trans (mx_iload_n t88 d88_4 (x := x1) rfl) <|
  Eq.trans (mx_iconst t88 d88_5 (v := nI 1) rfl) <|
  (mx_ceq t88 d88_6 (tgt := 11) (by decide))
theorem b88_9 {d : Nat} {S : mm_S} {a0 : Nat} {x1 : Int32} : mm_ex d 88 9 [.ref a0, .int x1, .null, .null, .null] [] S =
    some (some (.int (-1)), S) :=
  Eq.trans (mx_iconst t88 d88_9 (v := -1) rfl) <|
  (mx_iret t88 d88_10 (ty := .int) rfl rfl (fun h => nomatch h))
theorem b88_11 {d : Nat} {S : mm_S} {a0 : Nat} {x1 : Int32} (h0 : mm_obj S a0 11 = true) (h1 : (mm_R S a0 3).isSome = true) (h2 : (mm_R S a0 0).isSome = true) (h3 : mm_rk S (mm_rg S a0 3) = 1) : mm_ex (d + 1) 88 11 [.ref a0, .int x1, .null, .null, .null] [] S =
    mm_bd (mm_cl d 7 [.ref (mm_rg S a0 3), .ref (mm_rg S a0 0)] S) (fun v S2 => mm_ex (d + 1) 88 22 [.ref a0, .int x1, .null, .null, .null] (v.toList ++ []) S2) :=
  Eq.trans (mx_aload_n t88 d88_11 (x := a0) rfl) <|
  Eq.trans (mx_getR t88 d88_12 rfl fl11_29 h0 h1) <|
  Eq.trans (mx_aload_n t88 d88_15 (x := a0) rfl) <|
  Eq.trans (mx_getR t88 d88_16 rfl fl11_17 h0 h2) <|
  (mx_virt (st := []) (k := 1) t88 [.ref (mm_rg S a0 0)] d88_19 vt11_184 rfl rfl (Nat.le_of_ble_eq_true rfl) (Nat.le_of_ble_eq_true rfl) h3)
theorem b88_22 {d : Nat} {S : mm_S} {a0 : Nat} {x1 : Int32} (h0 : mm_obj S a0 11 = true) (h1 : (mm_R S a0 3).isSome = true) (h2 : mm_rk S (mm_rg S a0 3) = 1) : mm_ex (d + 1) 88 22 [.ref a0, .int x1, .null, .null, .null] [] S =
    mm_bd (mm_cl d 23 [.ref (mm_rg S a0 3)] S) (fun v S2 => mm_ex (d + 1) 88 29 [.ref a0, .int x1, .null, .null, .null] (v.toList ++ []) S2) :=
  Eq.trans (mx_aload_n t88 d88_22 (x := a0) rfl) <|
  Eq.trans (mx_getR t88 d88_23 rfl fl11_29 h0 h1) <|
  (mx_virt (st := []) (k := 1) t88 [] d88_26 vt11_218 rfl rfl (Nat.le_of_ble_eq_true rfl) (Nat.le_of_ble_eq_true rfl) h2)
theorem b88_29 {d : Nat} {S : mm_S} {a0 : Nat} {x1 : Int32} : mm_ex d 88 29 [.ref a0, .int x1, .null, .null, .null] [] S =
    mm_ex d 88 37 [.ref a0, .int x1, .int (nI 0), .int (-5), .int (nI 0)] [] S :=
  Eq.trans (mx_iconst t88 d88_29 (v := nI 0) rfl) <|
  Eq.trans (mx_istore_n t88 d88_30 (ls' := [.ref a0, .int x1, .int (nI 0), .null, .null]) rfl rfl) <|
  Eq.trans (mx_bipush t88 d88_31 (v := -5) rfl) <|
  Eq.trans (mx_istore_n t88 d88_33 (ls' := [.ref a0, .int x1, .int (nI 0), .int (-5), .null]) rfl rfl) <|
  Eq.trans (mx_iconst t88 d88_34 (v := nI 0) rfl) <|
  (mx_istore t88 d88_35 (ls' := [.ref a0, .int x1, .int (nI 0), .int (-5), .int (nI 0)]) rfl rfl)
theorem b88_37 {d : Nat} {S : mm_S} {a0 : Nat} {x1 : Int32} {x2 : Int32} {x3 : Int32} {x4 : Int32} (h0 : mm_obj S a0 11 = true) (h1 : (mm_R S a0 0).isSome = true) (h2 : mm_obj S (mm_rg S a0 0) 1 = true) : mm_ex d 88 37 [.ref a0, .int x1, .int x2, .int x3, .int x4] [] S =
    if (mm_M S (mm_rg S a0 0) 11) ≤ (x4 + (nI 1)) then mm_ex d 88 76 [.ref a0, .int x1, .int x2, .int x3, .int x4] [] S else mm_ex d 88 51 [.ref a0, .int x1, .int x2, .int x3, .int x4] [] S :=
  Eq.trans (mx_iload t88 d88_37 (x := x4) rfl) <|
  Eq.trans (mx_iconst t88 d88_39 (v := nI 1) rfl) <|
  Eq.trans (mx_iadd t88 d88_40) <|
  Eq.trans (mx_aload_n t88 d88_41 (x := a0) rfl) <|
  Eq.trans (mx_getR t88 d88_42 rfl fl11_17 h0 h1) <|
  Eq.trans (mx_geti t88 d88_45 rfl fl11_177 h2) <|
  (mx_cge t88 d88_48 (tgt := 76) (by decide))
theorem b88_51 {d : Nat} {S : mm_S} {a0 : Nat} {x1 : Int32} {x2 : Int32} {x3 : Int32} {x4 : Int32} (h0 : mm_rk S a0 = 11) : mm_ex (d + 1) 88 51 [.ref a0, .int x1, .int x2, .int x3, .int x4] [] S =
    mm_bd (mm_cl d 117 [.ref a0, .int x4] S) (fun v S2 => mm_ex (d + 1) 88 57 [.ref a0, .int x1, .int x2, .int x3, .int x4] (v.toList ++ []) S2) :=
  Eq.trans (mx_aload_n t88 d88_51 (x := a0) rfl) <|
  Eq.trans (mx_iload t88 d88_52 (x := x4) rfl) <|
  (mx_virt (st := []) (k := 11) t88 [.int x4] d88_54 vt11_221 rfl rfl (Nat.le_of_ble_eq_true rfl) (Nat.le_of_ble_eq_true rfl) h0)
theorem b88_57 {d : Nat} {S : mm_S} {a0 : Nat} {x1 : Int32} {x2 : Int32} {x3 : Int32} {x4 : Int32} {p0 : Int32} : mm_ex d 88 57 [.ref a0, .int x1, .int x2, .int x3, .int x4] [.int p0] S =
    if p0 = nI 0 then mm_ex d 88 70 [.ref a0, .int x1, .int x2, .int x3, .int x4] [] S else mm_ex d 88 60 [.ref a0, .int x1, .int x2, .int x3, .int x4] [] S :=
  (mx_ieq t88 d88_57 (tgt := 70) (by decide))
theorem b88_60 {d : Nat} {S : mm_S} {a0 : Nat} {x1 : Int32} {x2 : Int32} {x3 : Int32} {x4 : Int32} : mm_ex d 88 60 [.ref a0, .int x1, .int x2, .int x3, .int x4] [] S =
    if x2 = nI 0 then mm_ex d 88 64 [.ref a0, .int x1, .int x2, .int x3, .int x4] [] S else mm_ex d 88 67 [.ref a0, .int x1, .int x2, .int x3, .int x4] [] S :=
  Eq.trans (mx_iload_n t88 d88_60 (x := x2) rfl) <|
  (mx_ine t88 d88_61 (tgt := 67) (by decide))
theorem b88_64 {d : Nat} {S : mm_S} {a0 : Nat} {x1 : Int32} {x2 : Int32} {x3 : Int32} {x4 : Int32} : mm_ex d 88 64 [.ref a0, .int x1, .int x2, .int x3, .int x4] [] S =
    mm_ex d 88 37 [.ref a0, .int x1, .int (x2 + nI 1), .int x4, .int (x4 + nI 1)] [] S :=
  Eq.trans (mx_iload t88 d88_64 (x := x4) rfl) <|
  Eq.trans (mx_istore_n t88 d88_66 (ls' := [.ref a0, .int x1, .int x2, .int x4, .int x4]) rfl rfl) <|
  Eq.trans (mx_iinc t88 d88_67 (x := x2) (v := nI 1) (ls' := [.ref a0, .int x1, .int (x2 + nI 1), .int x4, .int x4]) rfl rfl rfl rfl) <|
  Eq.trans (mx_iinc t88 d88_70 (x := x4) (v := nI 1) (ls' := [.ref a0, .int x1, .int (x2 + nI 1), .int x4, .int (x4 + nI 1)]) rfl rfl rfl rfl) <|
  (mx_goto t88 d88_73 (tgt := 37) (by decide))
theorem b88_67 {d : Nat} {S : mm_S} {a0 : Nat} {x1 : Int32} {x2 : Int32} {x3 : Int32} {x4 : Int32} : mm_ex d 88 67 [.ref a0, .int x1, .int x2, .int x3, .int x4] [] S =
    mm_ex d 88 37 [.ref a0, .int x1, .int (x2 + nI 1), .int x3, .int (x4 + nI 1)] [] S :=
  Eq.trans (mx_iinc t88 d88_67 (x := x2) (v := nI 1) (ls' := [.ref a0, .int x1, .int (x2 + nI 1), .int x3, .int x4]) rfl rfl rfl rfl) <|
  Eq.trans (mx_iinc t88 d88_70 (x := x4) (v := nI 1) (ls' := [.ref a0, .int x1, .int (x2 + nI 1), .int x3, .int (x4 + nI 1)]) rfl rfl rfl rfl) <|
  (mx_goto t88 d88_73 (tgt := 37) (by decide))
theorem b88_70 {d : Nat} {S : mm_S} {a0 : Nat} {x1 : Int32} {x2 : Int32} {x3 : Int32} {x4 : Int32} : mm_ex d 88 70 [.ref a0, .int x1, .int x2, .int x3, .int x4] [] S =
    mm_ex d 88 37 [.ref a0, .int x1, .int x2, .int x3, .int (x4 + nI 1)] [] S :=
  Eq.trans (mx_iinc t88 d88_70 (x := x4) (v := nI 1) (ls' := [.ref a0, .int x1, .int x2, .int x3, .int (x4 + nI 1)]) rfl rfl rfl rfl) <|
  (mx_goto t88 d88_73 (tgt := 37) (by decide))
theorem b88_76 {d : Nat} {S : mm_S} {a0 : Nat} {x1 : Int32} {x2 : Int32} {x3 : Int32} {x4 : Int32} : mm_ex d 88 76 [.ref a0, .int x1, .int x2, .int x3, .int x4] [] S =
    if x1 = nI 0 then mm_ex d 88 80 [.ref a0, .int x1, .int x2, .int x3, .int x4] [] S else mm_ex d 88 84 [.ref a0, .int x1, .int x2, .int x3, .int x4] [] S :=
  Eq.trans (mx_iload_n t88 d88_76 (x := x1) rfl) <|
  (mx_ine t88 d88_77 (tgt := 84) (by decide))
theorem b88_80 {d : Nat} {S : mm_S} {a0 : Nat} {x1 : Int32} {x2 : Int32} {x3 : Int32} {x4 : Int32} : mm_ex d 88 80 [.ref a0, .int x1, .int x2, .int x3, .int x4] [] S =
    some (some (.int x2), S) :=
  Eq.trans (mx_iload_n t88 d88_80 (x := x2) rfl) <|
  Eq.trans (mx_goto t88 d88_81 (tgt := 85) (by decide)) <|
  (mx_iret t88 d88_85 (ty := .int) rfl rfl (fun h => nomatch h))
theorem b88_84 {d : Nat} {S : mm_S} {a0 : Nat} {x1 : Int32} {x2 : Int32} {x3 : Int32} {x4 : Int32} : mm_ex d 88 84 [.ref a0, .int x1, .int x2, .int x3, .int x4] [] S =
    some (some (.int x3), S) :=
  Eq.trans (mx_iload_n t88 d88_84 (x := x3) rfl) <|
  (mx_iret t88 d88_85 (ty := .int) rfl rfl (fun h => nomatch h))
theorem e88 {d : Nat} {S : mm_S} {a0 : Nat} {x1 : Int32} : mm_cl d 88 [.ref a0, .int x1] S = mm_ex d 88 0 [.ref a0, .int x1, .null, .null, .null] [] S := mm_cl_eq t88 (Nat.le_of_ble_eq_true rfl) rfl
/-! X11_lot -/
theorem dd89_0 : (decode prog_1_method_18_code 0 = .ok (.iload_n 1, 1)) ∧ (decode prog_1_method_18_code 1 = .ok (.ifCond .eq 8, 3)) ∧ (decode prog_1_method_18_code 4 = .ok (.iload_n 1, 1)) ∧ (decode prog_1_method_18_code 5 = .ok (.iconst 1, 1)) ∧ (decode prog_1_method_18_code 6 = .ok (.if_icmp .ne 14, 3)) ∧ (decode prog_1_method_18_code 9 = .ok (.aload_n 0, 1)) ∧ (decode prog_1_method_18_code 10 = .ok (.getfield 17, 3)) ∧ (decode prog_1_method_18_code 13 = .ok (.getfield 177, 3)) ∧ (decode prog_1_method_18_code 16 = .ok (.iconst 5, 1)) ∧ (decode prog_1_method_18_code 17 = .ok (.if_icmp .le 7, 3)) ∧ (decode prog_1_method_18_code 20 = .ok (.ldc2_w 224, 3)) ∧ (decode prog_1_method_18_code 23 = .ok (.lreturn, 1)) ∧ (decode prog_1_method_18_code 24 = .ok (.lconst 0, 1)) ∧ (decode prog_1_method_18_code 25 = .ok (.lstore_n 2, 1)) ∧ (decode prog_1_method_18_code 26 = .ok (.lconst 0, 1)) ∧ (decode prog_1_method_18_code 27 = .ok (.lstore 4, 2)) := by decide +kernel
theorem d89_0 : decode prog_1_method_18_code 0 = .ok (.iload_n 1, 1) := dd89_0.1
theorem d89_1 : decode prog_1_method_18_code 1 = .ok (.ifCond .eq 8, 3) := dd89_0.2.1
theorem d89_4 : decode prog_1_method_18_code 4 = .ok (.iload_n 1, 1) := dd89_0.2.2.1
theorem d89_5 : decode prog_1_method_18_code 5 = .ok (.iconst 1, 1) := dd89_0.2.2.2.1
theorem d89_6 : decode prog_1_method_18_code 6 = .ok (.if_icmp .ne 14, 3) := dd89_0.2.2.2.2.1
theorem d89_9 : decode prog_1_method_18_code 9 = .ok (.aload_n 0, 1) := dd89_0.2.2.2.2.2.1
theorem d89_10 : decode prog_1_method_18_code 10 = .ok (.getfield 17, 3) := dd89_0.2.2.2.2.2.2.1
theorem d89_13 : decode prog_1_method_18_code 13 = .ok (.getfield 177, 3) := dd89_0.2.2.2.2.2.2.2.1
theorem d89_16 : decode prog_1_method_18_code 16 = .ok (.iconst 5, 1) := dd89_0.2.2.2.2.2.2.2.2.1
theorem d89_17 : decode prog_1_method_18_code 17 = .ok (.if_icmp .le 7, 3) := dd89_0.2.2.2.2.2.2.2.2.2.1
theorem d89_20 : decode prog_1_method_18_code 20 = .ok (.ldc2_w 224, 3) := dd89_0.2.2.2.2.2.2.2.2.2.2.1
theorem d89_23 : decode prog_1_method_18_code 23 = .ok (.lreturn, 1) := dd89_0.2.2.2.2.2.2.2.2.2.2.2.1
theorem d89_24 : decode prog_1_method_18_code 24 = .ok (.lconst 0, 1) := dd89_0.2.2.2.2.2.2.2.2.2.2.2.2.1
theorem d89_25 : decode prog_1_method_18_code 25 = .ok (.lstore_n 2, 1) := dd89_0.2.2.2.2.2.2.2.2.2.2.2.2.2.1
theorem d89_26 : decode prog_1_method_18_code 26 = .ok (.lconst 0, 1) := dd89_0.2.2.2.2.2.2.2.2.2.2.2.2.2.2.1
theorem d89_27 : decode prog_1_method_18_code 27 = .ok (.lstore 4, 2) := dd89_0.2.2.2.2.2.2.2.2.2.2.2.2.2.2.2
theorem dd89_29 : (decode prog_1_method_18_code 29 = .ok (.aload_n 0, 1)) ∧ (decode prog_1_method_18_code 30 = .ok (.invokevirtual 226, 3)) ∧ (decode prog_1_method_18_code 33 = .ok (.iconst 1, 1)) ∧ (decode prog_1_method_18_code 34 = .ok (.istore 6, 2)) ∧ (decode prog_1_method_18_code 36 = .ok (.iconst 0, 1)) ∧ (decode prog_1_method_18_code 37 = .ok (.istore 7, 2)) ∧ (decode prog_1_method_18_code 39 = .ok (.iload 7, 2)) ∧ (decode prog_1_method_18_code 41 = .ok (.bipush 120, 2)) ∧ (decode prog_1_method_18_code 43 = .ok (.if_icmp .ge 48, 3)) ∧ (decode prog_1_method_18_code 46 = .ok (.iload 6, 2)) ∧ (decode prog_1_method_18_code 48 = .ok (.ifCond .eq 43, 3)) ∧ (decode prog_1_method_18_code 51 = .ok (.aload_n 0, 1)) ∧ (decode prog_1_method_18_code 52 = .ok (.invokevirtual 229, 3)) ∧ (decode prog_1_method_18_code 55 = .ok (.aload_n 0, 1)) ∧ (decode prog_1_method_18_code 56 = .ok (.getfield 26, 3)) ∧ (decode prog_1_method_18_code 59 = .ok (.invokevirtual 218, 3)) := by decide +kernel
theorem d89_29 : decode prog_1_method_18_code 29 = .ok (.aload_n 0, 1) := dd89_29.1
theorem d89_30 : decode prog_1_method_18_code 30 = .ok (.invokevirtual 226, 3) := dd89_29.2.1
theorem d89_33 : decode prog_1_method_18_code 33 = .ok (.iconst 1, 1) := dd89_29.2.2.1
theorem d89_34 : decode prog_1_method_18_code 34 = .ok (.istore 6, 2) := dd89_29.2.2.2.1
theorem d89_36 : decode prog_1_method_18_code 36 = .ok (.iconst 0, 1) := dd89_29.2.2.2.2.1
theorem d89_37 : decode prog_1_method_18_code 37 = .ok (.istore 7, 2) := dd89_29.2.2.2.2.2.1
theorem d89_39 : decode prog_1_method_18_code 39 = .ok (.iload 7, 2) := dd89_29.2.2.2.2.2.2.1
theorem d89_41 : decode prog_1_method_18_code 41 = .ok (.bipush 120, 2) := dd89_29.2.2.2.2.2.2.2.1
theorem d89_43 : decode prog_1_method_18_code 43 = .ok (.if_icmp .ge 48, 3) := dd89_29.2.2.2.2.2.2.2.2.1
theorem d89_46 : decode prog_1_method_18_code 46 = .ok (.iload 6, 2) := dd89_29.2.2.2.2.2.2.2.2.2.1
theorem d89_48 : decode prog_1_method_18_code 48 = .ok (.ifCond .eq 43, 3) := dd89_29.2.2.2.2.2.2.2.2.2.2.1
theorem d89_51 : decode prog_1_method_18_code 51 = .ok (.aload_n 0, 1) := dd89_29.2.2.2.2.2.2.2.2.2.2.2.1
theorem d89_52 : decode prog_1_method_18_code 52 = .ok (.invokevirtual 229, 3) := dd89_29.2.2.2.2.2.2.2.2.2.2.2.2.1
theorem d89_55 : decode prog_1_method_18_code 55 = .ok (.aload_n 0, 1) := dd89_29.2.2.2.2.2.2.2.2.2.2.2.2.2.1
theorem d89_56 : decode prog_1_method_18_code 56 = .ok (.getfield 26, 3) := dd89_29.2.2.2.2.2.2.2.2.2.2.2.2.2.2.1
theorem d89_59 : decode prog_1_method_18_code 59 = .ok (.invokevirtual 218, 3) := dd89_29.2.2.2.2.2.2.2.2.2.2.2.2.2.2.2
theorem dd89_62 : (decode prog_1_method_18_code 62 = .ok (.lload_n 2, 1)) ∧ (decode prog_1_method_18_code 63 = .ok (.aload_n 0, 1)) ∧ (decode prog_1_method_18_code 64 = .ok (.getfield 26, 3)) ∧ (decode prog_1_method_18_code 67 = .ok (.getfield 171, 3)) ∧ (decode prog_1_method_18_code 70 = .ok (.i2l, 1)) ∧ (decode prog_1_method_18_code 71 = .ok (.ladd, 1)) ∧ (decode prog_1_method_18_code 72 = .ok (.lstore_n 2, 1)) ∧ (decode prog_1_method_18_code 73 = .ok (.lload 4, 2)) ∧ (decode prog_1_method_18_code 75 = .ok (.lconst 1, 1)) ∧ (decode prog_1_method_18_code 76 = .ok (.ladd, 1)) ∧ (decode prog_1_method_18_code 77 = .ok (.lstore 4, 2)) ∧ (decode prog_1_method_18_code 79 = .ok (.aload_n 0, 1)) ∧ (decode prog_1_method_18_code 80 = .ok (.invokevirtual 232, 3)) ∧ (decode prog_1_method_18_code 83 = .ok (.istore 6, 2)) ∧ (decode prog_1_method_18_code 85 = .ok (.iinc 7 1, 3)) ∧ (decode prog_1_method_18_code 88 = .ok (.goto (-49), 3)) := by decide +kernel
theorem d89_62 : decode prog_1_method_18_code 62 = .ok (.lload_n 2, 1) := dd89_62.1
theorem d89_63 : decode prog_1_method_18_code 63 = .ok (.aload_n 0, 1) := dd89_62.2.1
theorem d89_64 : decode prog_1_method_18_code 64 = .ok (.getfield 26, 3) := dd89_62.2.2.1
theorem d89_67 : decode prog_1_method_18_code 67 = .ok (.getfield 171, 3) := dd89_62.2.2.2.1
theorem d89_70 : decode prog_1_method_18_code 70 = .ok (.i2l, 1) := dd89_62.2.2.2.2.1
theorem d89_71 : decode prog_1_method_18_code 71 = .ok (.ladd, 1) := dd89_62.2.2.2.2.2.1
theorem d89_72 : decode prog_1_method_18_code 72 = .ok (.lstore_n 2, 1) := dd89_62.2.2.2.2.2.2.1
theorem d89_73 : decode prog_1_method_18_code 73 = .ok (.lload 4, 2) := dd89_62.2.2.2.2.2.2.2.1
theorem d89_75 : decode prog_1_method_18_code 75 = .ok (.lconst 1, 1) := dd89_62.2.2.2.2.2.2.2.2.1
theorem d89_76 : decode prog_1_method_18_code 76 = .ok (.ladd, 1) := dd89_62.2.2.2.2.2.2.2.2.2.1
theorem d89_77 : decode prog_1_method_18_code 77 = .ok (.lstore 4, 2) := dd89_62.2.2.2.2.2.2.2.2.2.2.1
theorem d89_79 : decode prog_1_method_18_code 79 = .ok (.aload_n 0, 1) := dd89_62.2.2.2.2.2.2.2.2.2.2.2.1
theorem d89_80 : decode prog_1_method_18_code 80 = .ok (.invokevirtual 232, 3) := dd89_62.2.2.2.2.2.2.2.2.2.2.2.2.1
theorem d89_83 : decode prog_1_method_18_code 83 = .ok (.istore 6, 2) := dd89_62.2.2.2.2.2.2.2.2.2.2.2.2.2.1
theorem d89_85 : decode prog_1_method_18_code 85 = .ok (.iinc 7 1, 3) := dd89_62.2.2.2.2.2.2.2.2.2.2.2.2.2.2.1
theorem d89_88 : decode prog_1_method_18_code 88 = .ok (.goto (-49), 3) := dd89_62.2.2.2.2.2.2.2.2.2.2.2.2.2.2.2
theorem dd89_91 : (decode prog_1_method_18_code 91 = .ok (.lload_n 2, 1)) ∧ (decode prog_1_method_18_code 92 = .ok (.lload 4, 2)) ∧ (decode prog_1_method_18_code 94 = .ok (.iload_n 1, 1)) ∧ (decode prog_1_method_18_code 95 = .ok (.invokestatic 235, 3)) ∧ (decode prog_1_method_18_code 98 = .ok (.lreturn, 1)) := by decide +kernel
theorem d89_91 : decode prog_1_method_18_code 91 = .ok (.lload_n 2, 1) := dd89_91.1
theorem d89_92 : decode prog_1_method_18_code 92 = .ok (.lload 4, 2) := dd89_91.2.1
theorem d89_94 : decode prog_1_method_18_code 94 = .ok (.iload_n 1, 1) := dd89_91.2.2.1
theorem d89_95 : decode prog_1_method_18_code 95 = .ok (.invokestatic 235, 3) := dd89_91.2.2.2.1
theorem d89_98 : decode prog_1_method_18_code 98 = .ok (.lreturn, 1) := dd89_91.2.2.2.2
theorem b89_0 {d : Nat} {S : mm_S} {a0 : Nat} {x1 : Int32} : mm_ex d 89 0 [.ref a0, .int x1, .null, .null, .null, .null, .null, .null] [] S =
    if x1 = nI 0 then mm_ex d 89 9 [.ref a0, .int x1, .null, .null, .null, .null, .null, .null] [] S else mm_ex d 89 4 [.ref a0, .int x1, .null, .null, .null, .null, .null, .null] [] S :=
  Eq.trans (mx_iload_n t89 d89_0 (x := x1) rfl) <|
  (mx_ieq t89 d89_1 (tgt := 9) (by decide))
theorem b89_4 {d : Nat} {S : mm_S} {a0 : Nat} {x1 : Int32} : mm_ex d 89 4 [.ref a0, .int x1, .null, .null, .null, .null, .null, .null] [] S =
    if x1 = (nI 1) then mm_ex d 89 9 [.ref a0, .int x1, .null, .null, .null, .null, .null, .null] [] S else mm_ex d 89 20 [.ref a0, .int x1, .null, .null, .null, .null, .null, .null] [] S :=
  Eq.trans (mx_iload_n t89 d89_4 (x := x1) rfl) <|
  Eq.trans (mx_iconst t89 d89_5 (v := nI 1) rfl) <|
  (mx_cne t89 d89_6 (tgt := 20) (by decide))
theorem b89_9 {d : Nat} {S : mm_S} {a0 : Nat} {x1 : Int32} (h0 : mm_obj S a0 11 = true) (h1 : (mm_R S a0 0).isSome = true) (h2 : mm_obj S (mm_rg S a0 0) 1 = true) : mm_ex d 89 9 [.ref a0, .int x1, .null, .null, .null, .null, .null, .null] [] S =
    if (mm_M S (mm_rg S a0 0) 11) ≤ (nI 5) then mm_ex d 89 24 [.ref a0, .int x1, .null, .null, .null, .null, .null, .null] [] S else mm_ex d 89 20 [.ref a0, .int x1, .null, .null, .null, .null, .null, .null] [] S :=
  Eq.trans (mx_aload_n t89 d89_9 (x := a0) rfl) <|
  Eq.trans (mx_getR t89 d89_10 rfl fl11_17 h0 h1) <|
  Eq.trans (mx_geti t89 d89_13 rfl fl11_177 h2) <|
  Eq.trans (mx_iconst t89 d89_16 (v := nI 5) rfl) <|
  (mx_cle t89 d89_17 (tgt := 24) (by decide))
theorem b89_20 {d : Nat} {S : mm_S} {a0 : Nat} {x1 : Int32} : mm_ex d 89 20 [.ref a0, .int x1, .null, .null, .null, .null, .null, .null] [] S =
    some (some (.long (-9223372036854775808)), S) :=
  Eq.trans (mx_ldc2_w t89 d89_20 (v := -9223372036854775808) l211_224) <|
  (mx_lret t89 d89_23 rfl)
theorem b89_24 {d : Nat} {S : mm_S} {a0 : Nat} {x1 : Int32} (h0 : mm_rk S a0 = 11) : mm_ex (d + 1) 89 24 [.ref a0, .int x1, .null, .null, .null, .null, .null, .null] [] S =
    mm_bd (mm_cl d 120 [.ref a0] S) (fun v S2 => mm_ex (d + 1) 89 33 [.ref a0, .int x1, .long 0, .null, .long 0, .null, .null, .null] (v.toList ++ []) S2) :=
  Eq.trans (mx_lconst t89 d89_24 (v := 0) rfl) <|
  Eq.trans (mx_lstore_n t89 d89_25 (ls' := [.ref a0, .int x1, .long 0, .null, .null, .null, .null, .null]) rfl rfl) <|
  Eq.trans (mx_lconst t89 d89_26 (v := 0) rfl) <|
  Eq.trans (mx_lstore t89 d89_27 (ls' := [.ref a0, .int x1, .long 0, .null, .long 0, .null, .null, .null]) rfl rfl) <|
  Eq.trans (mx_aload_n t89 d89_29 (x := a0) rfl) <|
  (mx_virt (st := []) (k := 11) t89 [] d89_30 vt11_226 rfl rfl (Nat.le_of_ble_eq_true rfl) (Nat.le_of_ble_eq_true rfl) h0)
theorem b89_33 {d : Nat} {S : mm_S} {a0 : Nat} {x1 : Int32} {j2 : Int64} {j4 : Int64} : mm_ex d 89 33 [.ref a0, .int x1, .long j2, .null, .long j4, .null, .null, .null] [] S =
    mm_ex d 89 39 [.ref a0, .int x1, .long j2, .null, .long j4, .null, .int (nI 1), .int (nI 0)] [] S :=
  Eq.trans (mx_iconst t89 d89_33 (v := nI 1) rfl) <|
  Eq.trans (mx_istore t89 d89_34 (ls' := [.ref a0, .int x1, .long j2, .null, .long j4, .null, .int (nI 1), .null]) rfl rfl) <|
  Eq.trans (mx_iconst t89 d89_36 (v := nI 0) rfl) <|
  (mx_istore t89 d89_37 (ls' := [.ref a0, .int x1, .long j2, .null, .long j4, .null, .int (nI 1), .int (nI 0)]) rfl rfl)
theorem b89_39 {d : Nat} {S : mm_S} {a0 : Nat} {x1 : Int32} {j2 : Int64} {j4 : Int64} {x6 : Int32} {x7 : Int32} : mm_ex d 89 39 [.ref a0, .int x1, .long j2, .null, .long j4, .null, .int x6, .int x7] [] S =
    if (nI 120) ≤ x7 then mm_ex d 89 91 [.ref a0, .int x1, .long j2, .null, .long j4, .null, .int x6, .int x7] [] S else mm_ex d 89 46 [.ref a0, .int x1, .long j2, .null, .long j4, .null, .int x6, .int x7] [] S :=
  Eq.trans (mx_iload t89 d89_39 (x := x7) rfl) <|
  Eq.trans (mx_bipush t89 d89_41 (v := nI 120) rfl) <|
  (mx_cge t89 d89_43 (tgt := 91) (by decide))
theorem b89_46 {d : Nat} {S : mm_S} {a0 : Nat} {x1 : Int32} {j2 : Int64} {j4 : Int64} {x6 : Int32} {x7 : Int32} : mm_ex d 89 46 [.ref a0, .int x1, .long j2, .null, .long j4, .null, .int x6, .int x7] [] S =
    if x6 = nI 0 then mm_ex d 89 91 [.ref a0, .int x1, .long j2, .null, .long j4, .null, .int x6, .int x7] [] S else mm_ex d 89 51 [.ref a0, .int x1, .long j2, .null, .long j4, .null, .int x6, .int x7] [] S :=
  Eq.trans (mx_iload t89 d89_46 (x := x6) rfl) <|
  (mx_ieq t89 d89_48 (tgt := 91) (by decide))
theorem b89_51 {d : Nat} {S : mm_S} {a0 : Nat} {x1 : Int32} {j2 : Int64} {j4 : Int64} {x6 : Int32} {x7 : Int32} (h0 : mm_rk S a0 = 11) : mm_ex (d + 1) 89 51 [.ref a0, .int x1, .long j2, .null, .long j4, .null, .int x6, .int x7] [] S =
    mm_bd (mm_cl d 121 [.ref a0] S) (fun v S2 => mm_ex (d + 1) 89 55 [.ref a0, .int x1, .long j2, .null, .long j4, .null, .int x6, .int x7] (v.toList ++ []) S2) :=
  Eq.trans (mx_aload_n t89 d89_51 (x := a0) rfl) <|
  (mx_virt (st := []) (k := 11) t89 [] d89_52 vt11_229 rfl rfl (Nat.le_of_ble_eq_true rfl) (Nat.le_of_ble_eq_true rfl) h0)
theorem b89_55 {d : Nat} {S : mm_S} {a0 : Nat} {x1 : Int32} {j2 : Int64} {j4 : Int64} {x6 : Int32} {x7 : Int32} (h0 : mm_obj S a0 11 = true) (h1 : (mm_R S a0 2).isSome = true) (h2 : mm_rk S (mm_rg S a0 2) = 1) : mm_ex (d + 1) 89 55 [.ref a0, .int x1, .long j2, .null, .long j4, .null, .int x6, .int x7] [] S =
    mm_bd (mm_cl d 23 [.ref (mm_rg S a0 2)] S) (fun v S2 => mm_ex (d + 1) 89 62 [.ref a0, .int x1, .long j2, .null, .long j4, .null, .int x6, .int x7] (v.toList ++ []) S2) :=
  Eq.trans (mx_aload_n t89 d89_55 (x := a0) rfl) <|
  Eq.trans (mx_getR t89 d89_56 rfl fl11_26 h0 h1) <|
  (mx_virt (st := []) (k := 1) t89 [] d89_59 vt11_218 rfl rfl (Nat.le_of_ble_eq_true rfl) (Nat.le_of_ble_eq_true rfl) h2)
theorem b89_62 {d : Nat} {S : mm_S} {a0 : Nat} {x1 : Int32} {j2 : Int64} {j4 : Int64} {x6 : Int32} {x7 : Int32} (h0 : mm_obj S a0 11 = true) (h1 : (mm_R S a0 2).isSome = true) (h2 : mm_obj S (mm_rg S a0 2) 1 = true) (h3 : mm_rk S a0 = 11) : mm_ex (d + 1) 89 62 [.ref a0, .int x1, .long j2, .null, .long j4, .null, .int x6, .int x7] [] S =
    mm_bd (mm_cl d 122 [.ref a0] S) (fun v S2 => mm_ex (d + 1) 89 83 [.ref a0, .int x1, .long (j2 + ((mm_M S (mm_rg S a0 2) 14).toInt64)), .null, .long (j4 + 1), .null, .int x6, .int x7] (v.toList ++ []) S2) :=
  Eq.trans (mx_lload_n t89 d89_62 (x := j2) rfl) <|
  Eq.trans (mx_aload_n t89 d89_63 (x := a0) rfl) <|
  Eq.trans (mx_getR t89 d89_64 rfl fl11_26 h0 h1) <|
  Eq.trans (mx_geti t89 d89_67 rfl fl11_171 h2) <|
  Eq.trans (mx_i2l t89 d89_70) <|
  Eq.trans (mx_ladd t89 d89_71) <|
  Eq.trans (mx_lstore_n t89 d89_72 (ls' := [.ref a0, .int x1, .long (j2 + ((mm_M S (mm_rg S a0 2) 14).toInt64)), .null, .long j4, .null, .int x6, .int x7]) rfl rfl) <|
  Eq.trans (mx_lload t89 d89_73 (x := j4) rfl) <|
  Eq.trans (mx_lconst t89 d89_75 (v := 1) rfl) <|
  Eq.trans (mx_ladd t89 d89_76) <|
  Eq.trans (mx_lstore t89 d89_77 (ls' := [.ref a0, .int x1, .long (j2 + ((mm_M S (mm_rg S a0 2) 14).toInt64)), .null, .long (j4 + 1), .null, .int x6, .int x7]) rfl rfl) <|
  Eq.trans (mx_aload_n t89 d89_79 (x := a0) rfl) <|
  (mx_virt (st := []) (k := 11) t89 [] d89_80 vt11_232 rfl rfl (Nat.le_of_ble_eq_true rfl) (Nat.le_of_ble_eq_true rfl) h3)
theorem b89_83 {d : Nat} {S : mm_S} {a0 : Nat} {x1 : Int32} {j2 : Int64} {j4 : Int64} {x6 : Int32} {x7 : Int32} {p0 : Int32} : mm_ex d 89 83 [.ref a0, .int x1, .long j2, .null, .long j4, .null, .int x6, .int x7] [.int p0] S =
    mm_ex d 89 39 [.ref a0, .int x1, .long j2, .null, .long j4, .null, .int p0, .int (x7 + nI 1)] [] S :=
  Eq.trans (mx_istore t89 d89_83 (ls' := [.ref a0, .int x1, .long j2, .null, .long j4, .null, .int p0, .int x7]) rfl rfl) <|
  Eq.trans (mx_iinc t89 d89_85 (x := x7) (v := nI 1) (ls' := [.ref a0, .int x1, .long j2, .null, .long j4, .null, .int p0, .int (x7 + nI 1)]) rfl rfl rfl rfl) <|
  (mx_goto t89 d89_88 (tgt := 39) (by decide))
theorem b89_91 {d : Nat} {S : mm_S} {a0 : Nat} {x1 : Int32} {j2 : Int64} {j4 : Int64} {x6 : Int32} {x7 : Int32} : mm_ex (d + 1) 89 91 [.ref a0, .int x1, .long j2, .null, .long j4, .null, .int x6, .int x7] [] S =
    mm_bd (mm_cl d 126 [.long j2, .long j4, .int x1] S) (fun v S2 => mm_ex (d + 1) 89 98 [.ref a0, .int x1, .long j2, .null, .long j4, .null, .int x6, .int x7] (v.toList ++ []) S2) :=
  Eq.trans (mx_lload_n t89 d89_91 (x := j2) rfl) <|
  Eq.trans (mx_lload t89 d89_92 (x := j4) rfl) <|
  Eq.trans (mx_iload_n t89 d89_94 (x := x1) rfl) <|
  (mx_stat (st := []) t89 [.long j2, .long j4, .int x1] d89_95 acn11_235 mxn11_235 st11_235 rfl (Nat.le_of_ble_eq_true rfl) (Nat.le_of_ble_eq_true rfl))
theorem b89_98 {d : Nat} {S : mm_S} {a0 : Nat} {x1 : Int32} {j2 : Int64} {j4 : Int64} {x6 : Int32} {x7 : Int32} {p0 : Int64} : mm_ex d 89 98 [.ref a0, .int x1, .long j2, .null, .long j4, .null, .int x6, .int x7] [.long p0] S =
    some (some (.long p0), S) :=
  (mx_lret t89 d89_98 rfl)
theorem e89 {d : Nat} {S : mm_S} {a0 : Nat} {x1 : Int32} : mm_cl d 89 [.ref a0, .int x1] S = mm_ex d 89 0 [.ref a0, .int x1, .null, .null, .null, .null, .null, .null] [] S := mm_cl_eq t89 (Nat.le_of_ble_eq_true rfl) rfl
/-! X11_fee -/
theorem d90_0 : decode prog_1_method_19_code 0 = .ok (.iconst 0, 1) := by decide +kernel
theorem d90_1 : decode prog_1_method_19_code 1 = .ok (.istore_n 1, 1) := by decide +kernel
theorem d90_2 : decode prog_1_method_19_code 2 = .ok (.iload_n 1, 1) := by decide +kernel
theorem d90_3 : decode prog_1_method_19_code 3 = .ok (.bipush 20, 2) := by decide +kernel
theorem d90_5 : decode prog_1_method_19_code 5 = .ok (.if_icmp .gt 19, 3) := by decide +kernel
theorem d90_8 : decode prog_1_method_19_code 8 = .ok (.aload_n 0, 1) := by decide +kernel
theorem d90_9 : decode prog_1_method_19_code 9 = .ok (.iload_n 1, 1) := by decide +kernel
theorem d90_10 : decode prog_1_method_19_code 10 = .ok (.invokevirtual 239, 3) := by decide +kernel
theorem d90_13 : decode prog_1_method_19_code 13 = .ok (.ifCond .eq 5, 3) := by decide +kernel
theorem d90_16 : decode prog_1_method_19_code 16 = .ok (.iload_n 1, 1) := by decide +kernel
theorem d90_17 : decode prog_1_method_19_code 17 = .ok (.ireturn, 1) := by decide +kernel
theorem d90_18 : decode prog_1_method_19_code 18 = .ok (.iinc 1 1, 3) := by decide +kernel
theorem d90_21 : decode prog_1_method_19_code 21 = .ok (.goto (-19), 3) := by decide +kernel
theorem d90_24 : decode prog_1_method_19_code 24 = .ok (.bipush (-5), 2) := by decide +kernel
theorem d90_26 : decode prog_1_method_19_code 26 = .ok (.ireturn, 1) := by decide +kernel
theorem b90_0 {d : Nat} {S : mm_S} {a0 : Nat} : mm_ex d 90 0 [.ref a0, .null] [] S =
    mm_ex d 90 2 [.ref a0, .int (nI 0)] [] S :=
  Eq.trans (mx_iconst t90 d90_0 (v := nI 0) rfl) <|
  (mx_istore_n t90 d90_1 (ls' := [.ref a0, .int (nI 0)]) rfl rfl)
theorem b90_2 {d : Nat} {S : mm_S} {a0 : Nat} {x1 : Int32} : mm_ex d 90 2 [.ref a0, .int x1] [] S =
    if (nI 20) < x1 then mm_ex d 90 24 [.ref a0, .int x1] [] S else mm_ex d 90 8 [.ref a0, .int x1] [] S :=
  Eq.trans (mx_iload_n t90 d90_2 (x := x1) rfl) <|
  Eq.trans (mx_bipush t90 d90_3 (v := nI 20) rfl) <|
  (mx_cgt t90 d90_5 (tgt := 24) (by decide))
theorem b90_8 {d : Nat} {S : mm_S} {a0 : Nat} {x1 : Int32} (h0 : mm_rk S a0 = 11) : mm_ex (d + 1) 90 8 [.ref a0, .int x1] [] S =
    mm_bd (mm_cl d 115 [.ref a0, .int x1] S) (fun v S2 => mm_ex (d + 1) 90 13 [.ref a0, .int x1] (v.toList ++ []) S2) :=
  Eq.trans (mx_aload_n t90 d90_8 (x := a0) rfl) <|
  Eq.trans (mx_iload_n t90 d90_9 (x := x1) rfl) <|
  (mx_virt (st := []) (k := 11) t90 [.int x1] d90_10 vt11_239 rfl rfl (Nat.le_of_ble_eq_true rfl) (Nat.le_of_ble_eq_true rfl) h0)
theorem b90_13 {d : Nat} {S : mm_S} {a0 : Nat} {x1 : Int32} {p0 : Int32} : mm_ex d 90 13 [.ref a0, .int x1] [.int p0] S =
    if p0 = nI 0 then mm_ex d 90 18 [.ref a0, .int x1] [] S else mm_ex d 90 16 [.ref a0, .int x1] [] S :=
  (mx_ieq t90 d90_13 (tgt := 18) (by decide))
theorem b90_16 {d : Nat} {S : mm_S} {a0 : Nat} {x1 : Int32} : mm_ex d 90 16 [.ref a0, .int x1] [] S =
    some (some (.int x1), S) :=
  Eq.trans (mx_iload_n t90 d90_16 (x := x1) rfl) <|
  (mx_iret t90 d90_17 (ty := .int) rfl rfl (fun h => nomatch h))
theorem b90_18 {d : Nat} {S : mm_S} {a0 : Nat} {x1 : Int32} : mm_ex d 90 18 [.ref a0, .int x1] [] S =
    mm_ex d 90 2 [.ref a0, .int (x1 + nI 1)] [] S :=
  Eq.trans (mx_iinc t90 d90_18 (x := x1) (v := nI 1) (ls' := [.ref a0, .int (x1 + nI 1)]) rfl rfl rfl rfl) <|
  (mx_goto t90 d90_21 (tgt := 2) (by decide))
theorem b90_24 {d : Nat} {S : mm_S} {a0 : Nat} {x1 : Int32} : mm_ex d 90 24 [.ref a0, .int x1] [] S =
    some (some (.int (-5)), S) :=
  Eq.trans (mx_bipush t90 d90_24 (v := -5) rfl) <|
  (mx_iret t90 d90_26 (ty := .int) rfl rfl (fun h => nomatch h))
theorem e90 {d : Nat} {S : mm_S} {a0 : Nat} : mm_cl d 90 [.ref a0] S = mm_ex d 90 0 [.ref a0, .null] [] S := mm_cl_eq t90 (Nat.le_of_ble_eq_true rfl) rfl
/-! X11_onePrice -/
theorem dd91_0 : (decode prog_1_method_20_code 0 = .ok (.iload_n 1, 1)) ∧ (decode prog_1_method_20_code 1 = .ok (.ifCond .eq 10, 3)) ∧ (decode prog_1_method_20_code 4 = .ok (.iload_n 1, 1)) ∧ (decode prog_1_method_20_code 5 = .ok (.iconst 1, 1)) ∧ (decode prog_1_method_20_code 6 = .ok (.if_icmp .eq 5, 3)) ∧ (decode prog_1_method_20_code 9 = .ok (.iconst (-1), 1)) ∧ (decode prog_1_method_20_code 10 = .ok (.ireturn, 1)) ∧ (decode prog_1_method_20_code 11 = .ok (.iconst 0, 1)) ∧ (decode prog_1_method_20_code 12 = .ok (.istore_n 2, 1)) ∧ (decode prog_1_method_20_code 13 = .ok (.iload_n 2, 1)) ∧ (decode prog_1_method_20_code 14 = .ok (.aload_n 0, 1)) ∧ (decode prog_1_method_20_code 15 = .ok (.getfield 17, 3)) ∧ (decode prog_1_method_20_code 18 = .ok (.getfield 177, 3)) ∧ (decode prog_1_method_20_code 21 = .ok (.if_icmp .ge 38, 3)) ∧ (decode prog_1_method_20_code 24 = .ok (.aload_n 0, 1)) ∧ (decode prog_1_method_20_code 25 = .ok (.getfield 17, 3)) := by decide +kernel
theorem d91_0 : decode prog_1_method_20_code 0 = .ok (.iload_n 1, 1) := dd91_0.1
theorem d91_1 : decode prog_1_method_20_code 1 = .ok (.ifCond .eq 10, 3) := dd91_0.2.1
theorem d91_4 : decode prog_1_method_20_code 4 = .ok (.iload_n 1, 1) := dd91_0.2.2.1
theorem d91_5 : decode prog_1_method_20_code 5 = .ok (.iconst 1, 1) := dd91_0.2.2.2.1
theorem d91_6 : decode prog_1_method_20_code 6 = .ok (.if_icmp .eq 5, 3) := dd91_0.2.2.2.2.1
theorem d91_9 : decode prog_1_method_20_code 9 = .ok (.iconst (-1), 1) := dd91_0.2.2.2.2.2.1
theorem d91_10 : decode prog_1_method_20_code 10 = .ok (.ireturn, 1) := dd91_0.2.2.2.2.2.2.1
theorem d91_11 : decode prog_1_method_20_code 11 = .ok (.iconst 0, 1) := dd91_0.2.2.2.2.2.2.2.1
theorem d91_12 : decode prog_1_method_20_code 12 = .ok (.istore_n 2, 1) := dd91_0.2.2.2.2.2.2.2.2.1
theorem d91_13 : decode prog_1_method_20_code 13 = .ok (.iload_n 2, 1) := dd91_0.2.2.2.2.2.2.2.2.2.1
theorem d91_14 : decode prog_1_method_20_code 14 = .ok (.aload_n 0, 1) := dd91_0.2.2.2.2.2.2.2.2.2.2.1
theorem d91_15 : decode prog_1_method_20_code 15 = .ok (.getfield 17, 3) := dd91_0.2.2.2.2.2.2.2.2.2.2.2.1
theorem d91_18 : decode prog_1_method_20_code 18 = .ok (.getfield 177, 3) := dd91_0.2.2.2.2.2.2.2.2.2.2.2.2.1
theorem d91_21 : decode prog_1_method_20_code 21 = .ok (.if_icmp .ge 38, 3) := dd91_0.2.2.2.2.2.2.2.2.2.2.2.2.2.1
theorem d91_24 : decode prog_1_method_20_code 24 = .ok (.aload_n 0, 1) := dd91_0.2.2.2.2.2.2.2.2.2.2.2.2.2.2.1
theorem d91_25 : decode prog_1_method_20_code 25 = .ok (.getfield 17, 3) := dd91_0.2.2.2.2.2.2.2.2.2.2.2.2.2.2.2
theorem dd91_28 : (decode prog_1_method_20_code 28 = .ok (.aload_n 0, 1)) ∧ (decode prog_1_method_20_code 29 = .ok (.getfield 17, 3)) ∧ (decode prog_1_method_20_code 32 = .ok (.getfield 242, 3)) ∧ (decode prog_1_method_20_code 35 = .ok (.iload_n 2, 1)) ∧ (decode prog_1_method_20_code 36 = .ok (.iaload, 1)) ∧ (decode prog_1_method_20_code 37 = .ok (.invokevirtual 107, 3)) ∧ (decode prog_1_method_20_code 40 = .ok (.aload_n 0, 1)) ∧ (decode prog_1_method_20_code 41 = .ok (.getfield 60, 3)) ∧ (decode prog_1_method_20_code 44 = .ok (.iload_n 2, 1)) ∧ (decode prog_1_method_20_code 45 = .ok (.aload_n 0, 1)) ∧ (decode prog_1_method_20_code 46 = .ok (.getfield 17, 3)) ∧ (decode prog_1_method_20_code 49 = .ok (.getfield 111, 3)) ∧ (decode prog_1_method_20_code 52 = .ok (.iastore, 1)) ∧ (decode prog_1_method_20_code 53 = .ok (.iinc 2 1, 3)) ∧ (decode prog_1_method_20_code 56 = .ok (.goto (-43), 3)) ∧ (decode prog_1_method_20_code 59 = .ok (.iconst 0, 1)) := by decide +kernel
theorem d91_28 : decode prog_1_method_20_code 28 = .ok (.aload_n 0, 1) := dd91_28.1
theorem d91_29 : decode prog_1_method_20_code 29 = .ok (.getfield 17, 3) := dd91_28.2.1
theorem d91_32 : decode prog_1_method_20_code 32 = .ok (.getfield 242, 3) := dd91_28.2.2.1
theorem d91_35 : decode prog_1_method_20_code 35 = .ok (.iload_n 2, 1) := dd91_28.2.2.2.1
theorem d91_36 : decode prog_1_method_20_code 36 = .ok (.iaload, 1) := dd91_28.2.2.2.2.1
theorem d91_37 : decode prog_1_method_20_code 37 = .ok (.invokevirtual 107, 3) := dd91_28.2.2.2.2.2.1
theorem d91_40 : decode prog_1_method_20_code 40 = .ok (.aload_n 0, 1) := dd91_28.2.2.2.2.2.2.1
theorem d91_41 : decode prog_1_method_20_code 41 = .ok (.getfield 60, 3) := dd91_28.2.2.2.2.2.2.2.1
theorem d91_44 : decode prog_1_method_20_code 44 = .ok (.iload_n 2, 1) := dd91_28.2.2.2.2.2.2.2.2.1
theorem d91_45 : decode prog_1_method_20_code 45 = .ok (.aload_n 0, 1) := dd91_28.2.2.2.2.2.2.2.2.2.1
theorem d91_46 : decode prog_1_method_20_code 46 = .ok (.getfield 17, 3) := dd91_28.2.2.2.2.2.2.2.2.2.2.1
theorem d91_49 : decode prog_1_method_20_code 49 = .ok (.getfield 111, 3) := dd91_28.2.2.2.2.2.2.2.2.2.2.2.1
theorem d91_52 : decode prog_1_method_20_code 52 = .ok (.iastore, 1) := dd91_28.2.2.2.2.2.2.2.2.2.2.2.2.1
theorem d91_53 : decode prog_1_method_20_code 53 = .ok (.iinc 2 1, 3) := dd91_28.2.2.2.2.2.2.2.2.2.2.2.2.2.1
theorem d91_56 : decode prog_1_method_20_code 56 = .ok (.goto (-43), 3) := dd91_28.2.2.2.2.2.2.2.2.2.2.2.2.2.2.1
theorem d91_59 : decode prog_1_method_20_code 59 = .ok (.iconst 0, 1) := dd91_28.2.2.2.2.2.2.2.2.2.2.2.2.2.2.2
theorem dd91_60 : (decode prog_1_method_20_code 60 = .ok (.istore_n 2, 1)) ∧ (decode prog_1_method_20_code 61 = .ok (.iconst 0, 1)) ∧ (decode prog_1_method_20_code 62 = .ok (.istore_n 3, 1)) ∧ (decode prog_1_method_20_code 63 = .ok (.iconst 0, 1)) ∧ (decode prog_1_method_20_code 64 = .ok (.istore 4, 2)) ∧ (decode prog_1_method_20_code 66 = .ok (.iload 4, 2)) ∧ (decode prog_1_method_20_code 68 = .ok (.bipush 99, 2)) ∧ (decode prog_1_method_20_code 70 = .ok (.if_icmp .gt 42, 3)) ∧ (decode prog_1_method_20_code 73 = .ok (.iload 4, 2)) ∧ (decode prog_1_method_20_code 75 = .ok (.aload_n 0, 1)) ∧ (decode prog_1_method_20_code 76 = .ok (.getfield 17, 3)) ∧ (decode prog_1_method_20_code 79 = .ok (.getfield 133, 3)) ∧ (decode prog_1_method_20_code 82 = .ok (.aload_n 0, 1)) ∧ (decode prog_1_method_20_code 83 = .ok (.iload 4, 2)) ∧ (decode prog_1_method_20_code 85 = .ok (.invokevirtual 245, 3)) ∧ (decode prog_1_method_20_code 88 = .ok (.invokestatic 248, 3)) := by decide +kernel
theorem d91_60 : decode prog_1_method_20_code 60 = .ok (.istore_n 2, 1) := dd91_60.1
theorem d91_61 : decode prog_1_method_20_code 61 = .ok (.iconst 0, 1) := dd91_60.2.1
theorem d91_62 : decode prog_1_method_20_code 62 = .ok (.istore_n 3, 1) := dd91_60.2.2.1
theorem d91_63 : decode prog_1_method_20_code 63 = .ok (.iconst 0, 1) := dd91_60.2.2.2.1
theorem d91_64 : decode prog_1_method_20_code 64 = .ok (.istore 4, 2) := dd91_60.2.2.2.2.1
theorem d91_66 : decode prog_1_method_20_code 66 = .ok (.iload 4, 2) := dd91_60.2.2.2.2.2.1
theorem d91_68 : decode prog_1_method_20_code 68 = .ok (.bipush 99, 2) := dd91_60.2.2.2.2.2.2.1
theorem d91_70 : decode prog_1_method_20_code 70 = .ok (.if_icmp .gt 42, 3) := dd91_60.2.2.2.2.2.2.2.1
theorem d91_73 : decode prog_1_method_20_code 73 = .ok (.iload 4, 2) := dd91_60.2.2.2.2.2.2.2.2.1
theorem d91_75 : decode prog_1_method_20_code 75 = .ok (.aload_n 0, 1) := dd91_60.2.2.2.2.2.2.2.2.2.1
theorem d91_76 : decode prog_1_method_20_code 76 = .ok (.getfield 17, 3) := dd91_60.2.2.2.2.2.2.2.2.2.2.1
theorem d91_79 : decode prog_1_method_20_code 79 = .ok (.getfield 133, 3) := dd91_60.2.2.2.2.2.2.2.2.2.2.2.1
theorem d91_82 : decode prog_1_method_20_code 82 = .ok (.aload_n 0, 1) := dd91_60.2.2.2.2.2.2.2.2.2.2.2.2.1
theorem d91_83 : decode prog_1_method_20_code 83 = .ok (.iload 4, 2) := dd91_60.2.2.2.2.2.2.2.2.2.2.2.2.2.1
theorem d91_85 : decode prog_1_method_20_code 85 = .ok (.invokevirtual 245, 3) := dd91_60.2.2.2.2.2.2.2.2.2.2.2.2.2.2.1
theorem d91_88 : decode prog_1_method_20_code 88 = .ok (.invokestatic 248, 3) := dd91_60.2.2.2.2.2.2.2.2.2.2.2.2.2.2.2
theorem dd91_91 : (decode prog_1_method_20_code 91 = .ok (.imul, 1)) ∧ (decode prog_1_method_20_code 92 = .ok (.istore 5, 2)) ∧ (decode prog_1_method_20_code 94 = .ok (.iload 5, 2)) ∧ (decode prog_1_method_20_code 96 = .ok (.iload_n 3, 1)) ∧ (decode prog_1_method_20_code 97 = .ok (.if_icmp .le 9, 3)) ∧ (decode prog_1_method_20_code 100 = .ok (.iload 4, 2)) ∧ (decode prog_1_method_20_code 102 = .ok (.istore_n 2, 1)) ∧ (decode prog_1_method_20_code 103 = .ok (.iload 5, 2)) ∧ (decode prog_1_method_20_code 105 = .ok (.istore_n 3, 1)) ∧ (decode prog_1_method_20_code 106 = .ok (.iinc 4 1, 3)) ∧ (decode prog_1_method_20_code 109 = .ok (.goto (-43), 3)) ∧ (decode prog_1_method_20_code 112 = .ok (.iload_n 1, 1)) ∧ (decode prog_1_method_20_code 113 = .ok (.ifCond .ne 7, 3)) ∧ (decode prog_1_method_20_code 116 = .ok (.iload_n 2, 1)) ∧ (decode prog_1_method_20_code 117 = .ok (.goto 4, 3)) ∧ (decode prog_1_method_20_code 120 = .ok (.iload_n 3, 1)) := by decide +kernel
theorem d91_91 : decode prog_1_method_20_code 91 = .ok (.imul, 1) := dd91_91.1
theorem d91_92 : decode prog_1_method_20_code 92 = .ok (.istore 5, 2) := dd91_91.2.1
theorem d91_94 : decode prog_1_method_20_code 94 = .ok (.iload 5, 2) := dd91_91.2.2.1
theorem d91_96 : decode prog_1_method_20_code 96 = .ok (.iload_n 3, 1) := dd91_91.2.2.2.1
theorem d91_97 : decode prog_1_method_20_code 97 = .ok (.if_icmp .le 9, 3) := dd91_91.2.2.2.2.1
theorem d91_100 : decode prog_1_method_20_code 100 = .ok (.iload 4, 2) := dd91_91.2.2.2.2.2.1
theorem d91_102 : decode prog_1_method_20_code 102 = .ok (.istore_n 2, 1) := dd91_91.2.2.2.2.2.2.1
theorem d91_103 : decode prog_1_method_20_code 103 = .ok (.iload 5, 2) := dd91_91.2.2.2.2.2.2.2.1
theorem d91_105 : decode prog_1_method_20_code 105 = .ok (.istore_n 3, 1) := dd91_91.2.2.2.2.2.2.2.2.1
theorem d91_106 : decode prog_1_method_20_code 106 = .ok (.iinc 4 1, 3) := dd91_91.2.2.2.2.2.2.2.2.2.1
theorem d91_109 : decode prog_1_method_20_code 109 = .ok (.goto (-43), 3) := dd91_91.2.2.2.2.2.2.2.2.2.2.1
theorem d91_112 : decode prog_1_method_20_code 112 = .ok (.iload_n 1, 1) := dd91_91.2.2.2.2.2.2.2.2.2.2.2.1
theorem d91_113 : decode prog_1_method_20_code 113 = .ok (.ifCond .ne 7, 3) := dd91_91.2.2.2.2.2.2.2.2.2.2.2.2.1
theorem d91_116 : decode prog_1_method_20_code 116 = .ok (.iload_n 2, 1) := dd91_91.2.2.2.2.2.2.2.2.2.2.2.2.2.1
theorem d91_117 : decode prog_1_method_20_code 117 = .ok (.goto 4, 3) := dd91_91.2.2.2.2.2.2.2.2.2.2.2.2.2.2.1
theorem d91_120 : decode prog_1_method_20_code 120 = .ok (.iload_n 3, 1) := dd91_91.2.2.2.2.2.2.2.2.2.2.2.2.2.2.2
theorem d91_121 : decode prog_1_method_20_code 121 = .ok (.ireturn, 1) := by decide +kernel
theorem b91_0 {d : Nat} {S : mm_S} {a0 : Nat} {x1 : Int32} : mm_ex d 91 0 [.ref a0, .int x1, .null, .null, .null, .null] [] S =
    if x1 = nI 0 then mm_ex d 91 11 [.ref a0, .int x1, .null, .null, .null, .null] [] S else mm_ex d 91 4 [.ref a0, .int x1, .null, .null, .null, .null] [] S :=
  Eq.trans (mx_iload_n t91 d91_0 (x := x1) rfl) <|
  (mx_ieq t91 d91_1 (tgt := 11) (by decide))
theorem b91_4 {d : Nat} {S : mm_S} {a0 : Nat} {x1 : Int32} : mm_ex d 91 4 [.ref a0, .int x1, .null, .null, .null, .null] [] S =
    if x1 = (nI 1) then mm_ex d 91 11 [.ref a0, .int x1, .null, .null, .null, .null] [] S else mm_ex d 91 9 [.ref a0, .int x1, .null, .null, .null, .null] [] S :=
  Eq.trans (mx_iload_n t91 d91_4 (x := x1) rfl) <|
  Eq.trans (mx_iconst t91 d91_5 (v := nI 1) rfl) <|
  (mx_ceq t91 d91_6 (tgt := 11) (by decide))
theorem b91_9 {d : Nat} {S : mm_S} {a0 : Nat} {x1 : Int32} : mm_ex d 91 9 [.ref a0, .int x1, .null, .null, .null, .null] [] S =
    some (some (.int (-1)), S) :=
  Eq.trans (mx_iconst t91 d91_9 (v := -1) rfl) <|
  (mx_iret t91 d91_10 (ty := .int) rfl rfl (fun h => nomatch h))
theorem b91_11 {d : Nat} {S : mm_S} {a0 : Nat} {x1 : Int32} : mm_ex d 91 11 [.ref a0, .int x1, .null, .null, .null, .null] [] S =
    mm_ex d 91 13 [.ref a0, .int x1, .int (nI 0), .null, .null, .null] [] S :=
  Eq.trans (mx_iconst t91 d91_11 (v := nI 0) rfl) <|
  (mx_istore_n t91 d91_12 (ls' := [.ref a0, .int x1, .int (nI 0), .null, .null, .null]) rfl rfl)
theorem b91_13 {d : Nat} {S : mm_S} {a0 : Nat} {x1 : Int32} {x2 : Int32} (h0 : mm_obj S a0 11 = true) (h1 : (mm_R S a0 0).isSome = true) (h2 : mm_obj S (mm_rg S a0 0) 1 = true) : mm_ex d 91 13 [.ref a0, .int x1, .int x2, .null, .null, .null] [] S =
    if (mm_M S (mm_rg S a0 0) 11) ≤ x2 then mm_ex d 91 59 [.ref a0, .int x1, .int x2, .null, .null, .null] [] S else mm_ex d 91 24 [.ref a0, .int x1, .int x2, .null, .null, .null] [] S :=
  Eq.trans (mx_iload_n t91 d91_13 (x := x2) rfl) <|
  Eq.trans (mx_aload_n t91 d91_14 (x := a0) rfl) <|
  Eq.trans (mx_getR t91 d91_15 rfl fl11_17 h0 h1) <|
  Eq.trans (mx_geti t91 d91_18 rfl fl11_177 h2) <|
  (mx_cge t91 d91_21 (tgt := 59) (by decide))
theorem b91_24 {d : Nat} {S : mm_S} {a0 : Nat} {x1 : Int32} {x2 : Int32} (h0 : mm_obj S a0 11 = true) (h1 : (mm_R S a0 0).isSome = true) (h2 : mm_obj S (mm_rg S a0 0) 1 = true) (h3 : (mm_R S (mm_rg S a0 0) 5).isSome = true) (h4 : mm_inb x2 (mm_N S (mm_rg S (mm_rg S a0 0) 5)) = true) (h5 : mm_arr S (mm_rg S (mm_rg S a0 0) 5) 13 = true) (h6 : mm_rk S (mm_rg S a0 0) = 1) : mm_ex (d + 1) 91 24 [.ref a0, .int x1, .int x2, .null, .null, .null] [] S =
    mm_bd (mm_cl d 19 [.ref (mm_rg S a0 0), .int (mm_M S (mm_rg S (mm_rg S a0 0) 5) (x2).toNatClampNeg)] S) (fun v S2 => mm_ex (d + 1) 91 40 [.ref a0, .int x1, .int x2, .null, .null, .null] (v.toList ++ []) S2) :=
  Eq.trans (mx_aload_n t91 d91_24 (x := a0) rfl) <|
  Eq.trans (mx_getR t91 d91_25 rfl fl11_17 h0 h1) <|
  Eq.trans (mx_aload_n t91 d91_28 (x := a0) rfl) <|
  Eq.trans (mx_getR t91 d91_29 rfl fl11_17 h0 h1) <|
  Eq.trans (mx_getR t91 d91_32 rfl fl11_242 h2 h3) <|
  Eq.trans (mx_iload_n t91 d91_35 (x := x2) rfl) <|
  Eq.trans (mx_iald t91 d91_36 h5 h4) <|
  (mx_virt (st := []) (k := 1) t91 [.int (mm_M S (mm_rg S (mm_rg S a0 0) 5) (x2).toNatClampNeg)] d91_37 vt11_107 rfl rfl (Nat.le_of_ble_eq_true rfl) (Nat.le_of_ble_eq_true rfl) h6)
theorem b91_40 {d : Nat} {S : mm_S} {a0 : Nat} {x1 : Int32} {x2 : Int32} (h0 : mm_obj S a0 11 = true) (h1 : (mm_R S a0 10).isSome = true) (h2 : (mm_R S a0 0).isSome = true) (h3 : mm_obj S (mm_rg S a0 0) 1 = true) (h4 : mm_arr S (mm_rg S a0 10) 13 = true) (h5 : mm_inb x2 (mm_N S (mm_rg S a0 10)) = true) : mm_ex d 91 40 [.ref a0, .int x1, .int x2, .null, .null, .null] [] S =
    mm_ex d 91 13 [.ref a0, .int x1, .int (x2 + nI 1), .null, .null, .null] [] (mm_uM S (mm_rg S a0 10) (x2).toNatClampNeg (mm_M S (mm_rg S a0 0) 18)) :=
  Eq.trans (mx_aload_n t91 d91_40 (x := a0) rfl) <|
  Eq.trans (mx_getR t91 d91_41 rfl fl11_60 h0 h1) <|
  Eq.trans (mx_iload_n t91 d91_44 (x := x2) rfl) <|
  Eq.trans (mx_aload_n t91 d91_45 (x := a0) rfl) <|
  Eq.trans (mx_getR t91 d91_46 rfl fl11_17 h0 h2) <|
  Eq.trans (mx_geti t91 d91_49 rfl fl11_111 h3) <|
  Eq.trans (mx_iast2 t91 d91_52 h4 h5) <|
  Eq.trans (mx_iinc t91 d91_53 (x := x2) (v := nI 1) (ls' := [.ref a0, .int x1, .int (x2 + nI 1), .null, .null, .null]) rfl rfl rfl rfl) <|
  (mx_goto t91 d91_56 (tgt := 13) (by decide))
theorem b91_59 {d : Nat} {S : mm_S} {a0 : Nat} {x1 : Int32} {x2 : Int32} : mm_ex d 91 59 [.ref a0, .int x1, .int x2, .null, .null, .null] [] S =
    mm_ex d 91 66 [.ref a0, .int x1, .int (nI 0), .int (nI 0), .int (nI 0), .null] [] S :=
  Eq.trans (mx_iconst t91 d91_59 (v := nI 0) rfl) <|
  Eq.trans (mx_istore_n t91 d91_60 (ls' := [.ref a0, .int x1, .int (nI 0), .null, .null, .null]) rfl rfl) <|
  Eq.trans (mx_iconst t91 d91_61 (v := nI 0) rfl) <|
  Eq.trans (mx_istore_n t91 d91_62 (ls' := [.ref a0, .int x1, .int (nI 0), .int (nI 0), .null, .null]) rfl rfl) <|
  Eq.trans (mx_iconst t91 d91_63 (v := nI 0) rfl) <|
  (mx_istore t91 d91_64 (ls' := [.ref a0, .int x1, .int (nI 0), .int (nI 0), .int (nI 0), .null]) rfl rfl)
theorem b91_66 {d : Nat} {S : mm_S} {a0 : Nat} {x1 : Int32} {x2 : Int32} {x3 : Int32} {x4 : Int32} {v5 : Value} : mm_ex d 91 66 [.ref a0, .int x1, .int x2, .int x3, .int x4, v5] [] S =
    if (nI 99) < x4 then mm_ex d 91 112 [.ref a0, .int x1, .int x2, .int x3, .int x4, v5] [] S else mm_ex d 91 73 [.ref a0, .int x1, .int x2, .int x3, .int x4, v5] [] S :=
  Eq.trans (mx_iload t91 d91_66 (x := x4) rfl) <|
  Eq.trans (mx_bipush t91 d91_68 (v := nI 99) rfl) <|
  (mx_cgt t91 d91_70 (tgt := 112) (by decide))
theorem b91_73 {d : Nat} {S : mm_S} {a0 : Nat} {x1 : Int32} {x2 : Int32} {x3 : Int32} {x4 : Int32} {v5 : Value} (h0 : mm_obj S a0 11 = true) (h1 : (mm_R S a0 0).isSome = true) (h2 : mm_obj S (mm_rg S a0 0) 1 = true) (h3 : mm_rk S a0 = 11) : mm_ex (d + 1) 91 73 [.ref a0, .int x1, .int x2, .int x3, .int x4, v5] [] S =
    mm_bd (mm_cl d 118 [.ref a0, .int x4] S) (fun v S2 => mm_ex (d + 1) 91 88 [.ref a0, .int x1, .int x2, .int x3, .int x4, v5] (v.toList ++ [.int (mm_M S (mm_rg S a0 0) 13), .int x4]) S2) :=
  Eq.trans (mx_iload t91 d91_73 (x := x4) rfl) <|
  Eq.trans (mx_aload_n t91 d91_75 (x := a0) rfl) <|
  Eq.trans (mx_getR t91 d91_76 rfl fl11_17 h0 h1) <|
  Eq.trans (mx_geti t91 d91_79 rfl fl11_133 h2) <|
  Eq.trans (mx_aload_n t91 d91_82 (x := a0) rfl) <|
  Eq.trans (mx_iload t91 d91_83 (x := x4) rfl) <|
  (mx_virt (st := [.int (mm_M S (mm_rg S a0 0) 13), .int x4]) (k := 11) t91 [.int x4] d91_85 vt11_245 rfl rfl (Nat.le_of_ble_eq_true rfl) (Nat.le_of_ble_eq_true rfl) h3)
theorem b91_88 {d : Nat} {S : mm_S} {a0 : Nat} {x1 : Int32} {x2 : Int32} {x3 : Int32} {x4 : Int32} {v5 : Value} {p0 : Int32} {p1 : Int32} {p2 : Int32} : mm_ex (d + 1) 91 88 [.ref a0, .int x1, .int x2, .int x3, .int x4, v5] [.int p0, .int p1, .int p2] S =
    if (p2 * (if p0 < p1 then p0 else p1)) ≤ x3 then mm_ex (d + 1) 91 106 [.ref a0, .int x1, .int x2, .int x3, .int x4, .int (p2 * (if p0 < p1 then p0 else p1))] [] S else mm_ex (d + 1) 91 100 [.ref a0, .int x1, .int x2, .int x3, .int x4, .int (p2 * (if p0 < p1 then p0 else p1))] [] S :=
  Eq.trans (mx_math t91 d91_88 (k := 0) acn11_248 mxx11_248 (Nat.le_of_ble_eq_true rfl)) <|
  Eq.trans (mx_imul t91 d91_91) <|
  Eq.trans (mx_istore t91 d91_92 (ls' := [.ref a0, .int x1, .int x2, .int x3, .int x4, .int (p2 * (if p0 < p1 then p0 else p1))]) rfl rfl) <|
  Eq.trans (mx_iload t91 d91_94 (x := p2 * (if p0 < p1 then p0 else p1)) rfl) <|
  Eq.trans (mx_iload_n t91 d91_96 (x := x3) rfl) <|
  (mx_cle t91 d91_97 (tgt := 106) (by decide))
theorem b91_100 {d : Nat} {S : mm_S} {a0 : Nat} {x1 : Int32} {x2 : Int32} {x3 : Int32} {x4 : Int32} {x5 : Int32} : mm_ex d 91 100 [.ref a0, .int x1, .int x2, .int x3, .int x4, .int x5] [] S =
    mm_ex d 91 66 [.ref a0, .int x1, .int x4, .int x5, .int (x4 + nI 1), .int x5] [] S :=
  Eq.trans (mx_iload t91 d91_100 (x := x4) rfl) <|
  Eq.trans (mx_istore_n t91 d91_102 (ls' := [.ref a0, .int x1, .int x4, .int x3, .int x4, .int x5]) rfl rfl) <|
  Eq.trans (mx_iload t91 d91_103 (x := x5) rfl) <|
  Eq.trans (mx_istore_n t91 d91_105 (ls' := [.ref a0, .int x1, .int x4, .int x5, .int x4, .int x5]) rfl rfl) <|
  Eq.trans (mx_iinc t91 d91_106 (x := x4) (v := nI 1) (ls' := [.ref a0, .int x1, .int x4, .int x5, .int (x4 + nI 1), .int x5]) rfl rfl rfl rfl) <|
  (mx_goto t91 d91_109 (tgt := 66) (by decide))
theorem b91_106 {d : Nat} {S : mm_S} {a0 : Nat} {x1 : Int32} {x2 : Int32} {x3 : Int32} {x4 : Int32} {x5 : Int32} : mm_ex d 91 106 [.ref a0, .int x1, .int x2, .int x3, .int x4, .int x5] [] S =
    mm_ex d 91 66 [.ref a0, .int x1, .int x2, .int x3, .int (x4 + nI 1), .int x5] [] S :=
  Eq.trans (mx_iinc t91 d91_106 (x := x4) (v := nI 1) (ls' := [.ref a0, .int x1, .int x2, .int x3, .int (x4 + nI 1), .int x5]) rfl rfl rfl rfl) <|
  (mx_goto t91 d91_109 (tgt := 66) (by decide))
theorem b91_112 {d : Nat} {S : mm_S} {a0 : Nat} {x1 : Int32} {x2 : Int32} {x3 : Int32} {x4 : Int32} {v5 : Value} : mm_ex d 91 112 [.ref a0, .int x1, .int x2, .int x3, .int x4, v5] [] S =
    if x1 = nI 0 then mm_ex d 91 116 [.ref a0, .int x1, .int x2, .int x3, .int x4, v5] [] S else mm_ex d 91 120 [.ref a0, .int x1, .int x2, .int x3, .int x4, v5] [] S :=
  Eq.trans (mx_iload_n t91 d91_112 (x := x1) rfl) <|
  (mx_ine t91 d91_113 (tgt := 120) (by decide))
theorem b91_116 {d : Nat} {S : mm_S} {a0 : Nat} {x1 : Int32} {x2 : Int32} {x3 : Int32} {x4 : Int32} {v5 : Value} : mm_ex d 91 116 [.ref a0, .int x1, .int x2, .int x3, .int x4, v5] [] S =
    some (some (.int x2), S) :=
  Eq.trans (mx_iload_n t91 d91_116 (x := x2) rfl) <|
  Eq.trans (mx_goto t91 d91_117 (tgt := 121) (by decide)) <|
  (mx_iret t91 d91_121 (ty := .int) rfl rfl (fun h => nomatch h))
theorem b91_120 {d : Nat} {S : mm_S} {a0 : Nat} {x1 : Int32} {x2 : Int32} {x3 : Int32} {x4 : Int32} {v5 : Value} : mm_ex d 91 120 [.ref a0, .int x1, .int x2, .int x3, .int x4, v5] [] S =
    some (some (.int x3), S) :=
  Eq.trans (mx_iload_n t91 d91_120 (x := x3) rfl) <|
  (mx_iret t91 d91_121 (ty := .int) rfl rfl (fun h => nomatch h))
theorem e91 {d : Nat} {S : mm_S} {a0 : Nat} {x1 : Int32} : mm_cl d 91 [.ref a0, .int x1] S = mm_ex d 91 0 [.ref a0, .int x1, .null, .null, .null, .null] [] S := mm_cl_eq t91 (Nat.le_of_ble_eq_true rfl) rfl
/-! X11_aunt -/
theorem dd92_0 : (decode prog_1_method_21_code 0 = .ok (.aload_n 0, 1)) ∧ (decode prog_1_method_21_code 1 = .ok (.getfield 17, 3)) ∧ (decode prog_1_method_21_code 4 = .ok (.iload_n 1, 1)) ∧ (decode prog_1_method_21_code 5 = .ok (.invokevirtual 77, 3)) ∧ (decode prog_1_method_21_code 8 = .ok (.ifCond .ne 6, 3)) ∧ (decode prog_1_method_21_code 11 = .ok (.ldc 123, 2)) ∧ (decode prog_1_method_21_code 13 = .ok (.ireturn, 1)) ∧ (decode prog_1_method_21_code 14 = .ok (.aload_n 0, 1)) ∧ (decode prog_1_method_21_code 15 = .ok (.getfield 17, 3)) ∧ (decode prog_1_method_21_code 18 = .ok (.iload_n 1, 1)) ∧ (decode prog_1_method_21_code 19 = .ok (.invokevirtual 104, 3)) ∧ (decode prog_1_method_21_code 22 = .ok (.istore_n 2, 1)) ∧ (decode prog_1_method_21_code 23 = .ok (.iload_n 2, 1)) ∧ (decode prog_1_method_21_code 24 = .ok (.ifCond .ge 6, 3)) ∧ (decode prog_1_method_21_code 27 = .ok (.ldc 254, 2)) ∧ (decode prog_1_method_21_code 29 = .ok (.ireturn, 1)) := by decide +kernel
theorem d92_0 : decode prog_1_method_21_code 0 = .ok (.aload_n 0, 1) := dd92_0.1
theorem d92_1 : decode prog_1_method_21_code 1 = .ok (.getfield 17, 3) := dd92_0.2.1
theorem d92_4 : decode prog_1_method_21_code 4 = .ok (.iload_n 1, 1) := dd92_0.2.2.1
theorem d92_5 : decode prog_1_method_21_code 5 = .ok (.invokevirtual 77, 3) := dd92_0.2.2.2.1
theorem d92_8 : decode prog_1_method_21_code 8 = .ok (.ifCond .ne 6, 3) := dd92_0.2.2.2.2.1
theorem d92_11 : decode prog_1_method_21_code 11 = .ok (.ldc 123, 2) := dd92_0.2.2.2.2.2.1
theorem d92_13 : decode prog_1_method_21_code 13 = .ok (.ireturn, 1) := dd92_0.2.2.2.2.2.2.1
theorem d92_14 : decode prog_1_method_21_code 14 = .ok (.aload_n 0, 1) := dd92_0.2.2.2.2.2.2.2.1
theorem d92_15 : decode prog_1_method_21_code 15 = .ok (.getfield 17, 3) := dd92_0.2.2.2.2.2.2.2.2.1
theorem d92_18 : decode prog_1_method_21_code 18 = .ok (.iload_n 1, 1) := dd92_0.2.2.2.2.2.2.2.2.2.1
theorem d92_19 : decode prog_1_method_21_code 19 = .ok (.invokevirtual 104, 3) := dd92_0.2.2.2.2.2.2.2.2.2.2.1
theorem d92_22 : decode prog_1_method_21_code 22 = .ok (.istore_n 2, 1) := dd92_0.2.2.2.2.2.2.2.2.2.2.2.1
theorem d92_23 : decode prog_1_method_21_code 23 = .ok (.iload_n 2, 1) := dd92_0.2.2.2.2.2.2.2.2.2.2.2.2.1
theorem d92_24 : decode prog_1_method_21_code 24 = .ok (.ifCond .ge 6, 3) := dd92_0.2.2.2.2.2.2.2.2.2.2.2.2.2.1
theorem d92_27 : decode prog_1_method_21_code 27 = .ok (.ldc 254, 2) := dd92_0.2.2.2.2.2.2.2.2.2.2.2.2.2.2.1
theorem d92_29 : decode prog_1_method_21_code 29 = .ok (.ireturn, 1) := dd92_0.2.2.2.2.2.2.2.2.2.2.2.2.2.2.2
theorem dd92_30 : (decode prog_1_method_21_code 30 = .ok (.aload_n 0, 1)) ∧ (decode prog_1_method_21_code 31 = .ok (.invokevirtual 202, 3)) ∧ (decode prog_1_method_21_code 34 = .ok (.aload_n 0, 1)) ∧ (decode prog_1_method_21_code 35 = .ok (.getfield 29, 3)) ∧ (decode prog_1_method_21_code 38 = .ok (.aload_n 0, 1)) ∧ (decode prog_1_method_21_code 39 = .ok (.getfield 17, 3)) ∧ (decode prog_1_method_21_code 42 = .ok (.invokevirtual 184, 3)) ∧ (decode prog_1_method_21_code 45 = .ok (.aload_n 0, 1)) ∧ (decode prog_1_method_21_code 46 = .ok (.getfield 29, 3)) ∧ (decode prog_1_method_21_code 49 = .ok (.iload_n 2, 1)) ∧ (decode prog_1_method_21_code 50 = .ok (.invokevirtual 255, 3)) ∧ (decode prog_1_method_21_code 53 = .ok (.aload_n 0, 1)) ∧ (decode prog_1_method_21_code 54 = .ok (.getfield 29, 3)) ∧ (decode prog_1_method_21_code 57 = .ok (.invokevirtual 218, 3)) ∧ (decode prog_1_method_21_code 60 = .ok (.iconst 0, 1)) ∧ (decode prog_1_method_21_code 61 = .ok (.istore_n 3, 1)) := by decide +kernel
theorem d92_30 : decode prog_1_method_21_code 30 = .ok (.aload_n 0, 1) := dd92_30.1
theorem d92_31 : decode prog_1_method_21_code 31 = .ok (.invokevirtual 202, 3) := dd92_30.2.1
theorem d92_34 : decode prog_1_method_21_code 34 = .ok (.aload_n 0, 1) := dd92_30.2.2.1
theorem d92_35 : decode prog_1_method_21_code 35 = .ok (.getfield 29, 3) := dd92_30.2.2.2.1
theorem d92_38 : decode prog_1_method_21_code 38 = .ok (.aload_n 0, 1) := dd92_30.2.2.2.2.1
theorem d92_39 : decode prog_1_method_21_code 39 = .ok (.getfield 17, 3) := dd92_30.2.2.2.2.2.1
theorem d92_42 : decode prog_1_method_21_code 42 = .ok (.invokevirtual 184, 3) := dd92_30.2.2.2.2.2.2.1
theorem d92_45 : decode prog_1_method_21_code 45 = .ok (.aload_n 0, 1) := dd92_30.2.2.2.2.2.2.2.1
theorem d92_46 : decode prog_1_method_21_code 46 = .ok (.getfield 29, 3) := dd92_30.2.2.2.2.2.2.2.2.1
theorem d92_49 : decode prog_1_method_21_code 49 = .ok (.iload_n 2, 1) := dd92_30.2.2.2.2.2.2.2.2.2.1
theorem d92_50 : decode prog_1_method_21_code 50 = .ok (.invokevirtual 255, 3) := dd92_30.2.2.2.2.2.2.2.2.2.2.1
theorem d92_53 : decode prog_1_method_21_code 53 = .ok (.aload_n 0, 1) := dd92_30.2.2.2.2.2.2.2.2.2.2.2.1
theorem d92_54 : decode prog_1_method_21_code 54 = .ok (.getfield 29, 3) := dd92_30.2.2.2.2.2.2.2.2.2.2.2.2.1
theorem d92_57 : decode prog_1_method_21_code 57 = .ok (.invokevirtual 218, 3) := dd92_30.2.2.2.2.2.2.2.2.2.2.2.2.2.1
theorem d92_60 : decode prog_1_method_21_code 60 = .ok (.iconst 0, 1) := dd92_30.2.2.2.2.2.2.2.2.2.2.2.2.2.2.1
theorem d92_61 : decode prog_1_method_21_code 61 = .ok (.istore_n 3, 1) := dd92_30.2.2.2.2.2.2.2.2.2.2.2.2.2.2.2
theorem dd92_62 : (decode prog_1_method_21_code 62 = .ok (.iconst 0, 1)) ∧ (decode prog_1_method_21_code 63 = .ok (.istore 4, 2)) ∧ (decode prog_1_method_21_code 65 = .ok (.iload 4, 2)) ∧ (decode prog_1_method_21_code 67 = .ok (.aload_n 0, 1)) ∧ (decode prog_1_method_21_code 68 = .ok (.getfield 17, 3)) ∧ (decode prog_1_method_21_code 71 = .ok (.getfield 177, 3)) ∧ (decode prog_1_method_21_code 74 = .ok (.if_icmp .ge 51, 3)) ∧ (decode prog_1_method_21_code 77 = .ok (.aload_n 0, 1)) ∧ (decode prog_1_method_21_code 78 = .ok (.getfield 17, 3)) ∧ (decode prog_1_method_21_code 81 = .ok (.getfield 242, 3)) ∧ (decode prog_1_method_21_code 84 = .ok (.iload 4, 2)) ∧ (decode prog_1_method_21_code 86 = .ok (.iaload, 1)) ∧ (decode prog_1_method_21_code 87 = .ok (.istore 5, 2)) ∧ (decode prog_1_method_21_code 89 = .ok (.iload 5, 2)) ∧ (decode prog_1_method_21_code 91 = .ok (.iload_n 1, 1)) ∧ (decode prog_1_method_21_code 92 = .ok (.if_icmp .eq 27, 3)) := by decide +kernel
theorem d92_62 : decode prog_1_method_21_code 62 = .ok (.iconst 0, 1) := dd92_62.1
theorem d92_63 : decode prog_1_method_21_code 63 = .ok (.istore 4, 2) := dd92_62.2.1
theorem d92_65 : decode prog_1_method_21_code 65 = .ok (.iload 4, 2) := dd92_62.2.2.1
theorem d92_67 : decode prog_1_method_21_code 67 = .ok (.aload_n 0, 1) := dd92_62.2.2.2.1
theorem d92_68 : decode prog_1_method_21_code 68 = .ok (.getfield 17, 3) := dd92_62.2.2.2.2.1
theorem d92_71 : decode prog_1_method_21_code 71 = .ok (.getfield 177, 3) := dd92_62.2.2.2.2.2.1
theorem d92_74 : decode prog_1_method_21_code 74 = .ok (.if_icmp .ge 51, 3) := dd92_62.2.2.2.2.2.2.1
theorem d92_77 : decode prog_1_method_21_code 77 = .ok (.aload_n 0, 1) := dd92_62.2.2.2.2.2.2.2.1
theorem d92_78 : decode prog_1_method_21_code 78 = .ok (.getfield 17, 3) := dd92_62.2.2.2.2.2.2.2.2.1
theorem d92_81 : decode prog_1_method_21_code 81 = .ok (.getfield 242, 3) := dd92_62.2.2.2.2.2.2.2.2.2.1
theorem d92_84 : decode prog_1_method_21_code 84 = .ok (.iload 4, 2) := dd92_62.2.2.2.2.2.2.2.2.2.2.1
theorem d92_86 : decode prog_1_method_21_code 86 = .ok (.iaload, 1) := dd92_62.2.2.2.2.2.2.2.2.2.2.2.1
theorem d92_87 : decode prog_1_method_21_code 87 = .ok (.istore 5, 2) := dd92_62.2.2.2.2.2.2.2.2.2.2.2.2.1
theorem d92_89 : decode prog_1_method_21_code 89 = .ok (.iload 5, 2) := dd92_62.2.2.2.2.2.2.2.2.2.2.2.2.2.1
theorem d92_91 : decode prog_1_method_21_code 91 = .ok (.iload_n 1, 1) := dd92_62.2.2.2.2.2.2.2.2.2.2.2.2.2.2.1
theorem d92_92 : decode prog_1_method_21_code 92 = .ok (.if_icmp .eq 27, 3) := dd92_62.2.2.2.2.2.2.2.2.2.2.2.2.2.2.2
theorem dd92_95 : (decode prog_1_method_21_code 95 = .ok (.iload_n 3, 1)) ∧ (decode prog_1_method_21_code 96 = .ok (.aload_n 0, 1)) ∧ (decode prog_1_method_21_code 97 = .ok (.getfield 26, 3)) ∧ (decode prog_1_method_21_code 100 = .ok (.getfield 120, 3)) ∧ (decode prog_1_method_21_code 103 = .ok (.iload 5, 2)) ∧ (decode prog_1_method_21_code 105 = .ok (.iaload, 1)) ∧ (decode prog_1_method_21_code 106 = .ok (.aload_n 0, 1)) ∧ (decode prog_1_method_21_code 107 = .ok (.getfield 29, 3)) ∧ (decode prog_1_method_21_code 110 = .ok (.getfield 120, 3)) ∧ (decode prog_1_method_21_code 113 = .ok (.iload 5, 2)) ∧ (decode prog_1_method_21_code 115 = .ok (.iaload, 1)) ∧ (decode prog_1_method_21_code 116 = .ok (.isub, 1)) ∧ (decode prog_1_method_21_code 117 = .ok (.iadd, 1)) ∧ (decode prog_1_method_21_code 118 = .ok (.istore_n 3, 1)) ∧ (decode prog_1_method_21_code 119 = .ok (.iinc 4 1, 3)) ∧ (decode prog_1_method_21_code 122 = .ok (.goto (-57), 3)) := by decide +kernel
theorem d92_95 : decode prog_1_method_21_code 95 = .ok (.iload_n 3, 1) := dd92_95.1
theorem d92_96 : decode prog_1_method_21_code 96 = .ok (.aload_n 0, 1) := dd92_95.2.1
theorem d92_97 : decode prog_1_method_21_code 97 = .ok (.getfield 26, 3) := dd92_95.2.2.1
theorem d92_100 : decode prog_1_method_21_code 100 = .ok (.getfield 120, 3) := dd92_95.2.2.2.1
theorem d92_103 : decode prog_1_method_21_code 103 = .ok (.iload 5, 2) := dd92_95.2.2.2.2.1
theorem d92_105 : decode prog_1_method_21_code 105 = .ok (.iaload, 1) := dd92_95.2.2.2.2.2.1
theorem d92_106 : decode prog_1_method_21_code 106 = .ok (.aload_n 0, 1) := dd92_95.2.2.2.2.2.2.1
theorem d92_107 : decode prog_1_method_21_code 107 = .ok (.getfield 29, 3) := dd92_95.2.2.2.2.2.2.2.1
theorem d92_110 : decode prog_1_method_21_code 110 = .ok (.getfield 120, 3) := dd92_95.2.2.2.2.2.2.2.2.1
theorem d92_113 : decode prog_1_method_21_code 113 = .ok (.iload 5, 2) := dd92_95.2.2.2.2.2.2.2.2.2.1
theorem d92_115 : decode prog_1_method_21_code 115 = .ok (.iaload, 1) := dd92_95.2.2.2.2.2.2.2.2.2.2.1
theorem d92_116 : decode prog_1_method_21_code 116 = .ok (.isub, 1) := dd92_95.2.2.2.2.2.2.2.2.2.2.2.1
theorem d92_117 : decode prog_1_method_21_code 117 = .ok (.iadd, 1) := dd92_95.2.2.2.2.2.2.2.2.2.2.2.2.1
theorem d92_118 : decode prog_1_method_21_code 118 = .ok (.istore_n 3, 1) := dd92_95.2.2.2.2.2.2.2.2.2.2.2.2.2.1
theorem d92_119 : decode prog_1_method_21_code 119 = .ok (.iinc 4 1, 3) := dd92_95.2.2.2.2.2.2.2.2.2.2.2.2.2.2.1
theorem d92_122 : decode prog_1_method_21_code 122 = .ok (.goto (-57), 3) := dd92_95.2.2.2.2.2.2.2.2.2.2.2.2.2.2.2
theorem dd92_125 : (decode prog_1_method_21_code 125 = .ok (.iload_n 3, 1)) ∧ (decode prog_1_method_21_code 126 = .ok (.ireturn, 1)) := by decide +kernel
theorem d92_125 : decode prog_1_method_21_code 125 = .ok (.iload_n 3, 1) := dd92_125.1
theorem d92_126 : decode prog_1_method_21_code 126 = .ok (.ireturn, 1) := dd92_125.2
theorem b92_0 {d : Nat} {S : mm_S} {a0 : Nat} {x1 : Int32} (h0 : mm_obj S a0 11 = true) (h1 : (mm_R S a0 0).isSome = true) (h2 : mm_rk S (mm_rg S a0 0) = 1) : mm_ex (d + 1) 92 0 [.ref a0, .int x1, .null, .null, .null, .null] [] S =
    mm_bd (mm_cl d 8 [.ref (mm_rg S a0 0), .int x1] S) (fun v S2 => mm_ex (d + 1) 92 8 [.ref a0, .int x1, .null, .null, .null, .null] (v.toList ++ []) S2) :=
  Eq.trans (mx_aload_n t92 d92_0 (x := a0) rfl) <|
  Eq.trans (mx_getR t92 d92_1 rfl fl11_17 h0 h1) <|
  Eq.trans (mx_iload_n t92 d92_4 (x := x1) rfl) <|
  (mx_virt (st := []) (k := 1) t92 [.int x1] d92_5 vt11_77 rfl rfl (Nat.le_of_ble_eq_true rfl) (Nat.le_of_ble_eq_true rfl) h2)
theorem b92_8 {d : Nat} {S : mm_S} {a0 : Nat} {x1 : Int32} {p0 : Int32} : mm_ex d 92 8 [.ref a0, .int x1, .null, .null, .null, .null] [.int p0] S =
    if p0 = nI 0 then mm_ex d 92 11 [.ref a0, .int x1, .null, .null, .null, .null] [] S else mm_ex d 92 14 [.ref a0, .int x1, .null, .null, .null, .null] [] S :=
  (mx_ine t92 d92_8 (tgt := 14) (by decide))
theorem b92_11 {d : Nat} {S : mm_S} {a0 : Nat} {x1 : Int32} : mm_ex d 92 11 [.ref a0, .int x1, .null, .null, .null, .null] [] S =
    some (some (.int (-100001)), S) :=
  Eq.trans (mx_ldc t92 d92_11 (v := .int (-100001)) lc11_123) <|
  (mx_iret t92 d92_13 (ty := .int) rfl rfl (fun h => nomatch h))
theorem b92_14 {d : Nat} {S : mm_S} {a0 : Nat} {x1 : Int32} (h0 : mm_obj S a0 11 = true) (h1 : (mm_R S a0 0).isSome = true) (h2 : mm_rk S (mm_rg S a0 0) = 1) : mm_ex (d + 1) 92 14 [.ref a0, .int x1, .null, .null, .null, .null] [] S =
    mm_bd (mm_cl d 12 [.ref (mm_rg S a0 0), .int x1] S) (fun v S2 => mm_ex (d + 1) 92 22 [.ref a0, .int x1, .null, .null, .null, .null] (v.toList ++ []) S2) :=
  Eq.trans (mx_aload_n t92 d92_14 (x := a0) rfl) <|
  Eq.trans (mx_getR t92 d92_15 rfl fl11_17 h0 h1) <|
  Eq.trans (mx_iload_n t92 d92_18 (x := x1) rfl) <|
  (mx_virt (st := []) (k := 1) t92 [.int x1] d92_19 vt11_104 rfl rfl (Nat.le_of_ble_eq_true rfl) (Nat.le_of_ble_eq_true rfl) h2)
theorem b92_22 {d : Nat} {S : mm_S} {a0 : Nat} {x1 : Int32} {p0 : Int32} : mm_ex d 92 22 [.ref a0, .int x1, .null, .null, .null, .null] [.int p0] S =
    if nI 0 ≤ p0 then mm_ex d 92 30 [.ref a0, .int x1, .int p0, .null, .null, .null] [] S else mm_ex d 92 27 [.ref a0, .int x1, .int p0, .null, .null, .null] [] S :=
  Eq.trans (mx_istore_n t92 d92_22 (ls' := [.ref a0, .int x1, .int p0, .null, .null, .null]) rfl rfl) <|
  Eq.trans (mx_iload_n t92 d92_23 (x := p0) rfl) <|
  (mx_ige t92 d92_24 (tgt := 30) (by decide))
theorem b92_27 {d : Nat} {S : mm_S} {a0 : Nat} {x1 : Int32} {x2 : Int32} : mm_ex d 92 27 [.ref a0, .int x1, .int x2, .null, .null, .null] [] S =
    some (some (.int (-100003)), S) :=
  Eq.trans (mx_ldc t92 d92_27 (v := .int (-100003)) lc11_254) <|
  (mx_iret t92 d92_29 (ty := .int) rfl rfl (fun h => nomatch h))
theorem b92_30 {d : Nat} {S : mm_S} {a0 : Nat} {x1 : Int32} {x2 : Int32} (h0 : mm_rk S a0 = 11) : mm_ex (d + 1) 92 30 [.ref a0, .int x1, .int x2, .null, .null, .null] [] S =
    mm_bd (mm_cl d 113 [.ref a0] S) (fun v S2 => mm_ex (d + 1) 92 34 [.ref a0, .int x1, .int x2, .null, .null, .null] (v.toList ++ []) S2) :=
  Eq.trans (mx_aload_n t92 d92_30 (x := a0) rfl) <|
  (mx_virt (st := []) (k := 11) t92 [] d92_31 vt11_202 rfl rfl (Nat.le_of_ble_eq_true rfl) (Nat.le_of_ble_eq_true rfl) h0)
theorem b92_34 {d : Nat} {S : mm_S} {a0 : Nat} {x1 : Int32} {x2 : Int32} (h0 : mm_obj S a0 11 = true) (h1 : (mm_R S a0 3).isSome = true) (h2 : (mm_R S a0 0).isSome = true) (h3 : mm_rk S (mm_rg S a0 3) = 1) : mm_ex (d + 1) 92 34 [.ref a0, .int x1, .int x2, .null, .null, .null] [] S =
    mm_bd (mm_cl d 7 [.ref (mm_rg S a0 3), .ref (mm_rg S a0 0)] S) (fun v S2 => mm_ex (d + 1) 92 45 [.ref a0, .int x1, .int x2, .null, .null, .null] (v.toList ++ []) S2) :=
  Eq.trans (mx_aload_n t92 d92_34 (x := a0) rfl) <|
  Eq.trans (mx_getR t92 d92_35 rfl fl11_29 h0 h1) <|
  Eq.trans (mx_aload_n t92 d92_38 (x := a0) rfl) <|
  Eq.trans (mx_getR t92 d92_39 rfl fl11_17 h0 h2) <|
  (mx_virt (st := []) (k := 1) t92 [.ref (mm_rg S a0 0)] d92_42 vt11_184 rfl rfl (Nat.le_of_ble_eq_true rfl) (Nat.le_of_ble_eq_true rfl) h3)
theorem b92_45 {d : Nat} {S : mm_S} {a0 : Nat} {x1 : Int32} {x2 : Int32} (h0 : mm_obj S a0 11 = true) (h1 : (mm_R S a0 3).isSome = true) (h2 : mm_rk S (mm_rg S a0 3) = 1) : mm_ex (d + 1) 92 45 [.ref a0, .int x1, .int x2, .null, .null, .null] [] S =
    mm_bd (mm_cl d 14 [.ref (mm_rg S a0 3), .int x2] S) (fun v S2 => mm_ex (d + 1) 92 53 [.ref a0, .int x1, .int x2, .null, .null, .null] (v.toList ++ []) S2) :=
  Eq.trans (mx_aload_n t92 d92_45 (x := a0) rfl) <|
  Eq.trans (mx_getR t92 d92_46 rfl fl11_29 h0 h1) <|
  Eq.trans (mx_iload_n t92 d92_49 (x := x2) rfl) <|
  (mx_virt (st := []) (k := 1) t92 [.int x2] d92_50 vt11_255 rfl rfl (Nat.le_of_ble_eq_true rfl) (Nat.le_of_ble_eq_true rfl) h2)
theorem b92_53 {d : Nat} {S : mm_S} {a0 : Nat} {x1 : Int32} {x2 : Int32} (h0 : mm_obj S a0 11 = true) (h1 : (mm_R S a0 3).isSome = true) (h2 : mm_rk S (mm_rg S a0 3) = 1) : mm_ex (d + 1) 92 53 [.ref a0, .int x1, .int x2, .null, .null, .null] [] S =
    mm_bd (mm_cl d 23 [.ref (mm_rg S a0 3)] S) (fun v S2 => mm_ex (d + 1) 92 60 [.ref a0, .int x1, .int x2, .null, .null, .null] (v.toList ++ []) S2) :=
  Eq.trans (mx_aload_n t92 d92_53 (x := a0) rfl) <|
  Eq.trans (mx_getR t92 d92_54 rfl fl11_29 h0 h1) <|
  (mx_virt (st := []) (k := 1) t92 [] d92_57 vt11_218 rfl rfl (Nat.le_of_ble_eq_true rfl) (Nat.le_of_ble_eq_true rfl) h2)
theorem b92_60 {d : Nat} {S : mm_S} {a0 : Nat} {x1 : Int32} {x2 : Int32} : mm_ex d 92 60 [.ref a0, .int x1, .int x2, .null, .null, .null] [] S =
    mm_ex d 92 65 [.ref a0, .int x1, .int x2, .int (nI 0), .int (nI 0), .null] [] S :=
  Eq.trans (mx_iconst t92 d92_60 (v := nI 0) rfl) <|
  Eq.trans (mx_istore_n t92 d92_61 (ls' := [.ref a0, .int x1, .int x2, .int (nI 0), .null, .null]) rfl rfl) <|
  Eq.trans (mx_iconst t92 d92_62 (v := nI 0) rfl) <|
  (mx_istore t92 d92_63 (ls' := [.ref a0, .int x1, .int x2, .int (nI 0), .int (nI 0), .null]) rfl rfl)
theorem b92_65 {d : Nat} {S : mm_S} {a0 : Nat} {x1 : Int32} {x2 : Int32} {x3 : Int32} {x4 : Int32} {v5 : Value} (h0 : mm_obj S a0 11 = true) (h1 : (mm_R S a0 0).isSome = true) (h2 : mm_obj S (mm_rg S a0 0) 1 = true) : mm_ex d 92 65 [.ref a0, .int x1, .int x2, .int x3, .int x4, v5] [] S =
    if (mm_M S (mm_rg S a0 0) 11) ≤ x4 then mm_ex d 92 125 [.ref a0, .int x1, .int x2, .int x3, .int x4, v5] [] S else mm_ex d 92 77 [.ref a0, .int x1, .int x2, .int x3, .int x4, v5] [] S :=
  Eq.trans (mx_iload t92 d92_65 (x := x4) rfl) <|
  Eq.trans (mx_aload_n t92 d92_67 (x := a0) rfl) <|
  Eq.trans (mx_getR t92 d92_68 rfl fl11_17 h0 h1) <|
  Eq.trans (mx_geti t92 d92_71 rfl fl11_177 h2) <|
  (mx_cge t92 d92_74 (tgt := 125) (by decide))
theorem b92_77 {d : Nat} {S : mm_S} {a0 : Nat} {x1 : Int32} {x2 : Int32} {x3 : Int32} {x4 : Int32} {v5 : Value} (h0 : mm_obj S a0 11 = true) (h1 : (mm_R S a0 0).isSome = true) (h2 : mm_obj S (mm_rg S a0 0) 1 = true) (h3 : (mm_R S (mm_rg S a0 0) 5).isSome = true) (h4 : mm_inb x4 (mm_N S (mm_rg S (mm_rg S a0 0) 5)) = true) (h5 : mm_arr S (mm_rg S (mm_rg S a0 0) 5) 13 = true) : mm_ex d 92 77 [.ref a0, .int x1, .int x2, .int x3, .int x4, v5] [] S =
    if (mm_M S (mm_rg S (mm_rg S a0 0) 5) (x4).toNatClampNeg) = x1 then mm_ex d 92 119 [.ref a0, .int x1, .int x2, .int x3, .int x4, .int (mm_M S (mm_rg S (mm_rg S a0 0) 5) (x4).toNatClampNeg)] [] S else mm_ex d 92 95 [.ref a0, .int x1, .int x2, .int x3, .int x4, .int (mm_M S (mm_rg S (mm_rg S a0 0) 5) (x4).toNatClampNeg)] [] S :=
  Eq.trans (mx_aload_n t92 d92_77 (x := a0) rfl) <|
  Eq.trans (mx_getR t92 d92_78 rfl fl11_17 h0 h1) <|
  Eq.trans (mx_getR t92 d92_81 rfl fl11_242 h2 h3) <|
  Eq.trans (mx_iload t92 d92_84 (x := x4) rfl) <|
  Eq.trans (mx_iald t92 d92_86 h5 h4) <|
  Eq.trans (mx_istore t92 d92_87 (ls' := [.ref a0, .int x1, .int x2, .int x3, .int x4, .int (mm_M S (mm_rg S (mm_rg S a0 0) 5) (x4).toNatClampNeg)]) rfl rfl) <|
  Eq.trans (mx_iload t92 d92_89 (x := mm_M S (mm_rg S (mm_rg S a0 0) 5) (x4).toNatClampNeg) rfl) <|
  Eq.trans (mx_iload_n t92 d92_91 (x := x1) rfl) <|
  (mx_ceq t92 d92_92 (tgt := 119) (by decide))
theorem b92_95 {d : Nat} {S : mm_S} {a0 : Nat} {x1 : Int32} {x2 : Int32} {x3 : Int32} {x4 : Int32} {x5 : Int32} (h0 : mm_obj S a0 11 = true) (h1 : (mm_R S a0 2).isSome = true) (h2 : mm_obj S (mm_rg S a0 2) 1 = true) (h3 : (mm_R S (mm_rg S a0 2) 4).isSome = true) (h4 : mm_inb x5 (mm_N S (mm_rg S (mm_rg S a0 2) 4)) = true) (h5 : mm_arr S (mm_rg S (mm_rg S a0 2) 4) 13 = true) (h6 : (mm_R S a0 3).isSome = true) (h7 : mm_obj S (mm_rg S a0 3) 1 = true) (h8 : (mm_R S (mm_rg S a0 3) 4).isSome = true) (h9 : mm_inb x5 (mm_N S (mm_rg S (mm_rg S a0 3) 4)) = true) (h10 : mm_arr S (mm_rg S (mm_rg S a0 3) 4) 13 = true) : mm_ex d 92 95 [.ref a0, .int x1, .int x2, .int x3, .int x4, .int x5] [] S =
    mm_ex d 92 65 [.ref a0, .int x1, .int x2, .int (x3 + ((mm_M S (mm_rg S (mm_rg S a0 2) 4) (x5).toNatClampNeg) - (mm_M S (mm_rg S (mm_rg S a0 3) 4) (x5).toNatClampNeg))), .int (x4 + nI 1), .int x5] [] S :=
  Eq.trans (mx_iload_n t92 d92_95 (x := x3) rfl) <|
  Eq.trans (mx_aload_n t92 d92_96 (x := a0) rfl) <|
  Eq.trans (mx_getR t92 d92_97 rfl fl11_26 h0 h1) <|
  Eq.trans (mx_getR t92 d92_100 rfl fl11_120 h2 h3) <|
  Eq.trans (mx_iload t92 d92_103 (x := x5) rfl) <|
  Eq.trans (mx_iald t92 d92_105 h5 h4) <|
  Eq.trans (mx_aload_n t92 d92_106 (x := a0) rfl) <|
  Eq.trans (mx_getR t92 d92_107 rfl fl11_29 h0 h6) <|
  Eq.trans (mx_getR t92 d92_110 rfl fl11_120 h7 h8) <|
  Eq.trans (mx_iload t92 d92_113 (x := x5) rfl) <|
  Eq.trans (mx_iald t92 d92_115 h10 h9) <|
  Eq.trans (mx_isub t92 d92_116) <|
  Eq.trans (mx_iadd t92 d92_117) <|
  Eq.trans (mx_istore_n t92 d92_118 (ls' := [.ref a0, .int x1, .int x2, .int (x3 + ((mm_M S (mm_rg S (mm_rg S a0 2) 4) (x5).toNatClampNeg) - (mm_M S (mm_rg S (mm_rg S a0 3) 4) (x5).toNatClampNeg))), .int x4, .int x5]) rfl rfl) <|
  Eq.trans (mx_iinc t92 d92_119 (x := x4) (v := nI 1) (ls' := [.ref a0, .int x1, .int x2, .int (x3 + ((mm_M S (mm_rg S (mm_rg S a0 2) 4) (x5).toNatClampNeg) - (mm_M S (mm_rg S (mm_rg S a0 3) 4) (x5).toNatClampNeg))), .int (x4 + nI 1), .int x5]) rfl rfl rfl rfl) <|
  (mx_goto t92 d92_122 (tgt := 65) (by decide))
theorem b92_119 {d : Nat} {S : mm_S} {a0 : Nat} {x1 : Int32} {x2 : Int32} {x3 : Int32} {x4 : Int32} {x5 : Int32} : mm_ex d 92 119 [.ref a0, .int x1, .int x2, .int x3, .int x4, .int x5] [] S =
    mm_ex d 92 65 [.ref a0, .int x1, .int x2, .int x3, .int (x4 + nI 1), .int x5] [] S :=
  Eq.trans (mx_iinc t92 d92_119 (x := x4) (v := nI 1) (ls' := [.ref a0, .int x1, .int x2, .int x3, .int (x4 + nI 1), .int x5]) rfl rfl rfl rfl) <|
  (mx_goto t92 d92_122 (tgt := 65) (by decide))
theorem b92_125 {d : Nat} {S : mm_S} {a0 : Nat} {x1 : Int32} {x2 : Int32} {x3 : Int32} {x4 : Int32} {v5 : Value} : mm_ex d 92 125 [.ref a0, .int x1, .int x2, .int x3, .int x4, v5] [] S =
    some (some (.int x3), S) :=
  Eq.trans (mx_iload_n t92 d92_125 (x := x3) rfl) <|
  (mx_iret t92 d92_126 (ty := .int) rfl rfl (fun h => nomatch h))
theorem e92 {d : Nat} {S : mm_S} {a0 : Nat} {x1 : Int32} : mm_cl d 92 [.ref a0, .int x1] S = mm_ex d 92 0 [.ref a0, .int x1, .null, .null, .null, .null] [] S := mm_cl_eq t92 (Nat.le_of_ble_eq_true rfl) rfl
/-! X11_slips -/
theorem d93_0 : decode prog_1_method_22_code 0 = .ok (.iload_n 1, 1) := by decide +kernel
theorem d93_1 : decode prog_1_method_22_code 1 = .ok (.ifCond .lt 9, 3) := by decide +kernel
theorem d93_4 : decode prog_1_method_22_code 4 = .ok (.iload_n 1, 1) := by decide +kernel
theorem d93_5 : decode prog_1_method_22_code 5 = .ok (.bipush 10, 2) := by decide +kernel
theorem d93_7 : decode prog_1_method_22_code 7 = .ok (.if_icmp .le 6, 3) := by decide +kernel
theorem d93_10 : decode prog_1_method_22_code 10 = .ok (.bipush (-2), 2) := by decide +kernel
theorem d93_12 : decode prog_1_method_22_code 12 = .ok (.ireturn, 1) := by decide +kernel
theorem d93_13 : decode prog_1_method_22_code 13 = .ok (.aload_n 0, 1) := by decide +kernel
theorem d93_14 : decode prog_1_method_22_code 14 = .ok (.getfield 17, 3) := by decide +kernel
theorem d93_17 : decode prog_1_method_22_code 17 = .ok (.getfield 258, 3) := by decide +kernel
theorem d93_20 : decode prog_1_method_22_code 20 = .ok (.istore_n 2, 1) := by decide +kernel
theorem d93_21 : decode prog_1_method_22_code 21 = .ok (.aload_n 0, 1) := by decide +kernel
theorem d93_22 : decode prog_1_method_22_code 22 = .ok (.getfield 17, 3) := by decide +kernel
theorem d93_25 : decode prog_1_method_22_code 25 = .ok (.iload_n 1, 1) := by decide +kernel
theorem d93_26 : decode prog_1_method_22_code 26 = .ok (.putfield 258, 3) := by decide +kernel
theorem d93_29 : decode prog_1_method_22_code 29 = .ok (.iload_n 2, 1) := by decide +kernel
theorem d93_30 : decode prog_1_method_22_code 30 = .ok (.ireturn, 1) := by decide +kernel
theorem b93_0 {d : Nat} {S : mm_S} {a0 : Nat} {x1 : Int32} : mm_ex d 93 0 [.ref a0, .int x1, .null] [] S =
    if x1 < nI 0 then mm_ex d 93 10 [.ref a0, .int x1, .null] [] S else mm_ex d 93 4 [.ref a0, .int x1, .null] [] S :=
  Eq.trans (mx_iload_n t93 d93_0 (x := x1) rfl) <|
  (mx_ilt t93 d93_1 (tgt := 10) (by decide))
theorem b93_4 {d : Nat} {S : mm_S} {a0 : Nat} {x1 : Int32} : mm_ex d 93 4 [.ref a0, .int x1, .null] [] S =
    if x1 ≤ (nI 10) then mm_ex d 93 13 [.ref a0, .int x1, .null] [] S else mm_ex d 93 10 [.ref a0, .int x1, .null] [] S :=
  Eq.trans (mx_iload_n t93 d93_4 (x := x1) rfl) <|
  Eq.trans (mx_bipush t93 d93_5 (v := nI 10) rfl) <|
  (mx_cle t93 d93_7 (tgt := 13) (by decide))
theorem b93_10 {d : Nat} {S : mm_S} {a0 : Nat} {x1 : Int32} : mm_ex d 93 10 [.ref a0, .int x1, .null] [] S =
    some (some (.int (-2)), S) :=
  Eq.trans (mx_bipush t93 d93_10 (v := -2) rfl) <|
  (mx_iret t93 d93_12 (ty := .int) rfl rfl (fun h => nomatch h))
theorem b93_13 {d : Nat} {S : mm_S} {a0 : Nat} {x1 : Int32} (h0 : mm_obj S a0 11 = true) (h1 : (mm_R S a0 0).isSome = true) (h2 : mm_obj S (mm_rg S a0 0) 1 = true) : mm_ex d 93 13 [.ref a0, .int x1, .null] [] S =
    some (some (.int (mm_M S (mm_rg S a0 0) 16)), (mm_uM S (mm_rg S a0 0) 16 x1)) :=
  Eq.trans (mx_aload_n t93 d93_13 (x := a0) rfl) <|
  Eq.trans (mx_getR t93 d93_14 rfl fl11_17 h0 h1) <|
  Eq.trans (mx_geti t93 d93_17 rfl fl11_258 h2) <|
  Eq.trans (mx_istore_n t93 d93_20 (ls' := [.ref a0, .int x1, .int (mm_M S (mm_rg S a0 0) 16)]) rfl rfl) <|
  Eq.trans (mx_aload_n t93 d93_21 (x := a0) rfl) <|
  Eq.trans (mx_getR t93 d93_22 rfl fl11_17 h0 h1) <|
  Eq.trans (mx_iload_n t93 d93_25 (x := x1) rfl) <|
  Eq.trans (mx_puti2 t93 d93_26 fl11_258 rfl h2) <|
  Eq.trans (mx_iload_n t93 d93_29 (x := mm_M S (mm_rg S a0 0) 16) rfl) <|
  (mx_iret t93 d93_30 (ty := .int) rfl rfl (fun h => nomatch h))
theorem e93 {d : Nat} {S : mm_S} {a0 : Nat} {x1 : Int32} : mm_cl d 93 [.ref a0, .int x1] S = mm_ex d 93 0 [.ref a0, .int x1, .null] [] S := mm_cl_eq t93 (Nat.le_of_ble_eq_true rfl) rfl
/-! X11_sure -/
theorem dd94_0 : (decode prog_1_method_23_code 0 = .ok (.aload_n 0, 1)) ∧ (decode prog_1_method_23_code 1 = .ok (.getfield 17, 3)) ∧ (decode prog_1_method_23_code 4 = .ok (.iload_n 1, 1)) ∧ (decode prog_1_method_23_code 5 = .ok (.invokevirtual 77, 3)) ∧ (decode prog_1_method_23_code 8 = .ok (.ifCond .eq 12, 3)) ∧ (decode prog_1_method_23_code 11 = .ok (.iload_n 2, 1)) ∧ (decode prog_1_method_23_code 12 = .ok (.ifCond .eq 12, 3)) ∧ (decode prog_1_method_23_code 15 = .ok (.iload_n 2, 1)) ∧ (decode prog_1_method_23_code 16 = .ok (.iconst 1, 1)) ∧ (decode prog_1_method_23_code 17 = .ok (.if_icmp .eq 7, 3)) ∧ (decode prog_1_method_23_code 20 = .ok (.ldc2_w 224, 3)) ∧ (decode prog_1_method_23_code 23 = .ok (.lreturn, 1)) ∧ (decode prog_1_method_23_code 24 = .ok (.iconst 1, 1)) ∧ (decode prog_1_method_23_code 25 = .ok (.aload_n 0, 1)) ∧ (decode prog_1_method_23_code 26 = .ok (.getfield 17, 3)) ∧ (decode prog_1_method_23_code 29 = .ok (.getfield 177, 3)) := by decide +kernel
theorem d94_0 : decode prog_1_method_23_code 0 = .ok (.aload_n 0, 1) := dd94_0.1
theorem d94_1 : decode prog_1_method_23_code 1 = .ok (.getfield 17, 3) := dd94_0.2.1
theorem d94_4 : decode prog_1_method_23_code 4 = .ok (.iload_n 1, 1) := dd94_0.2.2.1
theorem d94_5 : decode prog_1_method_23_code 5 = .ok (.invokevirtual 77, 3) := dd94_0.2.2.2.1
theorem d94_8 : decode prog_1_method_23_code 8 = .ok (.ifCond .eq 12, 3) := dd94_0.2.2.2.2.1
theorem d94_11 : decode prog_1_method_23_code 11 = .ok (.iload_n 2, 1) := dd94_0.2.2.2.2.2.1
theorem d94_12 : decode prog_1_method_23_code 12 = .ok (.ifCond .eq 12, 3) := dd94_0.2.2.2.2.2.2.1
theorem d94_15 : decode prog_1_method_23_code 15 = .ok (.iload_n 2, 1) := dd94_0.2.2.2.2.2.2.2.1
theorem d94_16 : decode prog_1_method_23_code 16 = .ok (.iconst 1, 1) := dd94_0.2.2.2.2.2.2.2.2.1
theorem d94_17 : decode prog_1_method_23_code 17 = .ok (.if_icmp .eq 7, 3) := dd94_0.2.2.2.2.2.2.2.2.2.1
theorem d94_20 : decode prog_1_method_23_code 20 = .ok (.ldc2_w 224, 3) := dd94_0.2.2.2.2.2.2.2.2.2.2.1
theorem d94_23 : decode prog_1_method_23_code 23 = .ok (.lreturn, 1) := dd94_0.2.2.2.2.2.2.2.2.2.2.2.1
theorem d94_24 : decode prog_1_method_23_code 24 = .ok (.iconst 1, 1) := dd94_0.2.2.2.2.2.2.2.2.2.2.2.2.1
theorem d94_25 : decode prog_1_method_23_code 25 = .ok (.aload_n 0, 1) := dd94_0.2.2.2.2.2.2.2.2.2.2.2.2.2.1
theorem d94_26 : decode prog_1_method_23_code 26 = .ok (.getfield 17, 3) := dd94_0.2.2.2.2.2.2.2.2.2.2.2.2.2.2.1
theorem d94_29 : decode prog_1_method_23_code 29 = .ok (.getfield 177, 3) := dd94_0.2.2.2.2.2.2.2.2.2.2.2.2.2.2.2
theorem dd94_32 : (decode prog_1_method_23_code 32 = .ok (.ishl, 1)) ∧ (decode prog_1_method_23_code 33 = .ok (.istore_n 3, 1)) ∧ (decode prog_1_method_23_code 34 = .ok (.lconst 0, 1)) ∧ (decode prog_1_method_23_code 35 = .ok (.lstore 4, 2)) ∧ (decode prog_1_method_23_code 37 = .ok (.lconst 0, 1)) ∧ (decode prog_1_method_23_code 38 = .ok (.lstore 6, 2)) ∧ (decode prog_1_method_23_code 40 = .ok (.iconst 0, 1)) ∧ (decode prog_1_method_23_code 41 = .ok (.istore 8, 2)) ∧ (decode prog_1_method_23_code 43 = .ok (.iload 8, 2)) ∧ (decode prog_1_method_23_code 45 = .ok (.iload_n 3, 1)) ∧ (decode prog_1_method_23_code 46 = .ok (.if_icmp .ge 65, 3)) ∧ (decode prog_1_method_23_code 49 = .ok (.aload_n 0, 1)) ∧ (decode prog_1_method_23_code 50 = .ok (.iload 8, 2)) ∧ (decode prog_1_method_23_code 52 = .ok (.invokevirtual 261, 3)) ∧ (decode prog_1_method_23_code 55 = .ok (.lstore 9, 2)) ∧ (decode prog_1_method_23_code 57 = .ok (.lload 9, 2)) := by decide +kernel
theorem d94_32 : decode prog_1_method_23_code 32 = .ok (.ishl, 1) := dd94_32.1
theorem d94_33 : decode prog_1_method_23_code 33 = .ok (.istore_n 3, 1) := dd94_32.2.1
theorem d94_34 : decode prog_1_method_23_code 34 = .ok (.lconst 0, 1) := dd94_32.2.2.1
theorem d94_35 : decode prog_1_method_23_code 35 = .ok (.lstore 4, 2) := dd94_32.2.2.2.1
theorem d94_37 : decode prog_1_method_23_code 37 = .ok (.lconst 0, 1) := dd94_32.2.2.2.2.1
theorem d94_38 : decode prog_1_method_23_code 38 = .ok (.lstore 6, 2) := dd94_32.2.2.2.2.2.1
theorem d94_40 : decode prog_1_method_23_code 40 = .ok (.iconst 0, 1) := dd94_32.2.2.2.2.2.2.1
theorem d94_41 : decode prog_1_method_23_code 41 = .ok (.istore 8, 2) := dd94_32.2.2.2.2.2.2.2.1
theorem d94_43 : decode prog_1_method_23_code 43 = .ok (.iload 8, 2) := dd94_32.2.2.2.2.2.2.2.2.1
theorem d94_45 : decode prog_1_method_23_code 45 = .ok (.iload_n 3, 1) := dd94_32.2.2.2.2.2.2.2.2.2.1
theorem d94_46 : decode prog_1_method_23_code 46 = .ok (.if_icmp .ge 65, 3) := dd94_32.2.2.2.2.2.2.2.2.2.2.1
theorem d94_49 : decode prog_1_method_23_code 49 = .ok (.aload_n 0, 1) := dd94_32.2.2.2.2.2.2.2.2.2.2.2.1
theorem d94_50 : decode prog_1_method_23_code 50 = .ok (.iload 8, 2) := dd94_32.2.2.2.2.2.2.2.2.2.2.2.2.1
theorem d94_52 : decode prog_1_method_23_code 52 = .ok (.invokevirtual 261, 3) := dd94_32.2.2.2.2.2.2.2.2.2.2.2.2.2.1
theorem d94_55 : decode prog_1_method_23_code 55 = .ok (.lstore 9, 2) := dd94_32.2.2.2.2.2.2.2.2.2.2.2.2.2.2.1
theorem d94_57 : decode prog_1_method_23_code 57 = .ok (.lload 9, 2) := dd94_32.2.2.2.2.2.2.2.2.2.2.2.2.2.2.2
theorem dd94_59 : (decode prog_1_method_23_code 59 = .ok (.lconst 0, 1)) ∧ (decode prog_1_method_23_code 60 = .ok (.lcmp, 1)) ∧ (decode prog_1_method_23_code 61 = .ok (.ifCond .le 44, 3)) ∧ (decode prog_1_method_23_code 64 = .ok (.aload_n 0, 1)) ∧ (decode prog_1_method_23_code 65 = .ok (.iload 8, 2)) ∧ (decode prog_1_method_23_code 67 = .ok (.invokevirtual 265, 3)) ∧ (decode prog_1_method_23_code 70 = .ok (.istore 11, 2)) ∧ (decode prog_1_method_23_code 72 = .ok (.iload 11, 2)) ∧ (decode prog_1_method_23_code 74 = .ok (.ifCond .ge 7, 3)) ∧ (decode prog_1_method_23_code 77 = .ok (.ldc2_w 224, 3)) ∧ (decode prog_1_method_23_code 80 = .ok (.lreturn, 1)) ∧ (decode prog_1_method_23_code 81 = .ok (.lload 6, 2)) ∧ (decode prog_1_method_23_code 83 = .ok (.lload 9, 2)) ∧ (decode prog_1_method_23_code 85 = .ok (.ladd, 1)) ∧ (decode prog_1_method_23_code 86 = .ok (.lstore 6, 2)) ∧ (decode prog_1_method_23_code 88 = .ok (.iload 11, 2)) := by decide +kernel
theorem d94_59 : decode prog_1_method_23_code 59 = .ok (.lconst 0, 1) := dd94_59.1
theorem d94_60 : decode prog_1_method_23_code 60 = .ok (.lcmp, 1) := dd94_59.2.1
theorem d94_61 : decode prog_1_method_23_code 61 = .ok (.ifCond .le 44, 3) := dd94_59.2.2.1
theorem d94_64 : decode prog_1_method_23_code 64 = .ok (.aload_n 0, 1) := dd94_59.2.2.2.1
theorem d94_65 : decode prog_1_method_23_code 65 = .ok (.iload 8, 2) := dd94_59.2.2.2.2.1
theorem d94_67 : decode prog_1_method_23_code 67 = .ok (.invokevirtual 265, 3) := dd94_59.2.2.2.2.2.1
theorem d94_70 : decode prog_1_method_23_code 70 = .ok (.istore 11, 2) := dd94_59.2.2.2.2.2.2.1
theorem d94_72 : decode prog_1_method_23_code 72 = .ok (.iload 11, 2) := dd94_59.2.2.2.2.2.2.2.1
theorem d94_74 : decode prog_1_method_23_code 74 = .ok (.ifCond .ge 7, 3) := dd94_59.2.2.2.2.2.2.2.2.1
theorem d94_77 : decode prog_1_method_23_code 77 = .ok (.ldc2_w 224, 3) := dd94_59.2.2.2.2.2.2.2.2.2.1
theorem d94_80 : decode prog_1_method_23_code 80 = .ok (.lreturn, 1) := dd94_59.2.2.2.2.2.2.2.2.2.2.1
theorem d94_81 : decode prog_1_method_23_code 81 = .ok (.lload 6, 2) := dd94_59.2.2.2.2.2.2.2.2.2.2.2.1
theorem d94_83 : decode prog_1_method_23_code 83 = .ok (.lload 9, 2) := dd94_59.2.2.2.2.2.2.2.2.2.2.2.2.1
theorem d94_85 : decode prog_1_method_23_code 85 = .ok (.ladd, 1) := dd94_59.2.2.2.2.2.2.2.2.2.2.2.2.2.1
theorem d94_86 : decode prog_1_method_23_code 86 = .ok (.lstore 6, 2) := dd94_59.2.2.2.2.2.2.2.2.2.2.2.2.2.2.1
theorem d94_88 : decode prog_1_method_23_code 88 = .ok (.iload 11, 2) := dd94_59.2.2.2.2.2.2.2.2.2.2.2.2.2.2.2
theorem dd94_90 : (decode prog_1_method_23_code 90 = .ok (.iload_n 1, 1)) ∧ (decode prog_1_method_23_code 91 = .ok (.ishr, 1)) ∧ (decode prog_1_method_23_code 92 = .ok (.iconst 1, 1)) ∧ (decode prog_1_method_23_code 93 = .ok (.iand, 1)) ∧ (decode prog_1_method_23_code 94 = .ok (.iconst 1, 1)) ∧ (decode prog_1_method_23_code 95 = .ok (.if_icmp .ne 10, 3)) ∧ (decode prog_1_method_23_code 98 = .ok (.lload 4, 2)) ∧ (decode prog_1_method_23_code 100 = .ok (.lload 9, 2)) ∧ (decode prog_1_method_23_code 102 = .ok (.ladd, 1)) ∧ (decode prog_1_method_23_code 103 = .ok (.lstore 4, 2)) ∧ (decode prog_1_method_23_code 105 = .ok (.iinc 8 1, 3)) ∧ (decode prog_1_method_23_code 108 = .ok (.goto (-65), 3)) ∧ (decode prog_1_method_23_code 111 = .ok (.lload 4, 2)) ∧ (decode prog_1_method_23_code 113 = .ok (.lload 6, 2)) ∧ (decode prog_1_method_23_code 115 = .ok (.iload_n 2, 1)) ∧ (decode prog_1_method_23_code 116 = .ok (.invokestatic 235, 3)) := by decide +kernel
theorem d94_90 : decode prog_1_method_23_code 90 = .ok (.iload_n 1, 1) := dd94_90.1
theorem d94_91 : decode prog_1_method_23_code 91 = .ok (.ishr, 1) := dd94_90.2.1
theorem d94_92 : decode prog_1_method_23_code 92 = .ok (.iconst 1, 1) := dd94_90.2.2.1
theorem d94_93 : decode prog_1_method_23_code 93 = .ok (.iand, 1) := dd94_90.2.2.2.1
theorem d94_94 : decode prog_1_method_23_code 94 = .ok (.iconst 1, 1) := dd94_90.2.2.2.2.1
theorem d94_95 : decode prog_1_method_23_code 95 = .ok (.if_icmp .ne 10, 3) := dd94_90.2.2.2.2.2.1
theorem d94_98 : decode prog_1_method_23_code 98 = .ok (.lload 4, 2) := dd94_90.2.2.2.2.2.2.1
theorem d94_100 : decode prog_1_method_23_code 100 = .ok (.lload 9, 2) := dd94_90.2.2.2.2.2.2.2.1
theorem d94_102 : decode prog_1_method_23_code 102 = .ok (.ladd, 1) := dd94_90.2.2.2.2.2.2.2.2.1
theorem d94_103 : decode prog_1_method_23_code 103 = .ok (.lstore 4, 2) := dd94_90.2.2.2.2.2.2.2.2.2.1
theorem d94_105 : decode prog_1_method_23_code 105 = .ok (.iinc 8 1, 3) := dd94_90.2.2.2.2.2.2.2.2.2.2.1
theorem d94_108 : decode prog_1_method_23_code 108 = .ok (.goto (-65), 3) := dd94_90.2.2.2.2.2.2.2.2.2.2.2.1
theorem d94_111 : decode prog_1_method_23_code 111 = .ok (.lload 4, 2) := dd94_90.2.2.2.2.2.2.2.2.2.2.2.2.1
theorem d94_113 : decode prog_1_method_23_code 113 = .ok (.lload 6, 2) := dd94_90.2.2.2.2.2.2.2.2.2.2.2.2.2.1
theorem d94_115 : decode prog_1_method_23_code 115 = .ok (.iload_n 2, 1) := dd94_90.2.2.2.2.2.2.2.2.2.2.2.2.2.2.1
theorem d94_116 : decode prog_1_method_23_code 116 = .ok (.invokestatic 235, 3) := dd94_90.2.2.2.2.2.2.2.2.2.2.2.2.2.2.2
theorem d94_119 : decode prog_1_method_23_code 119 = .ok (.lreturn, 1) := by decide +kernel
theorem b94_0 {d : Nat} {S : mm_S} {a0 : Nat} {x1 : Int32} {x2 : Int32} (h0 : mm_obj S a0 11 = true) (h1 : (mm_R S a0 0).isSome = true) (h2 : mm_rk S (mm_rg S a0 0) = 1) : mm_ex (d + 1) 94 0 [.ref a0, .int x1, .int x2, .null, .null, .null, .null, .null, .null, .null, .null, .null] [] S =
    mm_bd (mm_cl d 8 [.ref (mm_rg S a0 0), .int x1] S) (fun v S2 => mm_ex (d + 1) 94 8 [.ref a0, .int x1, .int x2, .null, .null, .null, .null, .null, .null, .null, .null, .null] (v.toList ++ []) S2) :=
  Eq.trans (mx_aload_n t94 d94_0 (x := a0) rfl) <|
  Eq.trans (mx_getR t94 d94_1 rfl fl11_17 h0 h1) <|
  Eq.trans (mx_iload_n t94 d94_4 (x := x1) rfl) <|
  (mx_virt (st := []) (k := 1) t94 [.int x1] d94_5 vt11_77 rfl rfl (Nat.le_of_ble_eq_true rfl) (Nat.le_of_ble_eq_true rfl) h2)
theorem b94_8 {d : Nat} {S : mm_S} {a0 : Nat} {x1 : Int32} {x2 : Int32} {p0 : Int32} : mm_ex d 94 8 [.ref a0, .int x1, .int x2, .null, .null, .null, .null, .null, .null, .null, .null, .null] [.int p0] S =
    if p0 = nI 0 then mm_ex d 94 20 [.ref a0, .int x1, .int x2, .null, .null, .null, .null, .null, .null, .null, .null, .null] [] S else mm_ex d 94 11 [.ref a0, .int x1, .int x2, .null, .null, .null, .null, .null, .null, .null, .null, .null] [] S :=
  (mx_ieq t94 d94_8 (tgt := 20) (by decide))
theorem b94_11 {d : Nat} {S : mm_S} {a0 : Nat} {x1 : Int32} {x2 : Int32} : mm_ex d 94 11 [.ref a0, .int x1, .int x2, .null, .null, .null, .null, .null, .null, .null, .null, .null] [] S =
    if x2 = nI 0 then mm_ex d 94 24 [.ref a0, .int x1, .int x2, .null, .null, .null, .null, .null, .null, .null, .null, .null] [] S else mm_ex d 94 15 [.ref a0, .int x1, .int x2, .null, .null, .null, .null, .null, .null, .null, .null, .null] [] S :=
  Eq.trans (mx_iload_n t94 d94_11 (x := x2) rfl) <|
  (mx_ieq t94 d94_12 (tgt := 24) (by decide))
theorem b94_15 {d : Nat} {S : mm_S} {a0 : Nat} {x1 : Int32} {x2 : Int32} : mm_ex d 94 15 [.ref a0, .int x1, .int x2, .null, .null, .null, .null, .null, .null, .null, .null, .null] [] S =
    if x2 = (nI 1) then mm_ex d 94 24 [.ref a0, .int x1, .int x2, .null, .null, .null, .null, .null, .null, .null, .null, .null] [] S else mm_ex d 94 20 [.ref a0, .int x1, .int x2, .null, .null, .null, .null, .null, .null, .null, .null, .null] [] S :=
  Eq.trans (mx_iload_n t94 d94_15 (x := x2) rfl) <|
  Eq.trans (mx_iconst t94 d94_16 (v := nI 1) rfl) <|
  (mx_ceq t94 d94_17 (tgt := 24) (by decide))
theorem b94_20 {d : Nat} {S : mm_S} {a0 : Nat} {x1 : Int32} {x2 : Int32} : mm_ex d 94 20 [.ref a0, .int x1, .int x2, .null, .null, .null, .null, .null, .null, .null, .null, .null] [] S =
    some (some (.long (-9223372036854775808)), S) :=
  Eq.trans (mx_ldc2_w t94 d94_20 (v := -9223372036854775808) l211_224) <|
  (mx_lret t94 d94_23 rfl)
theorem b94_24 {d : Nat} {S : mm_S} {a0 : Nat} {x1 : Int32} {x2 : Int32} (h0 : mm_obj S a0 11 = true) (h1 : (mm_R S a0 0).isSome = true) (h2 : mm_obj S (mm_rg S a0 0) 1 = true) : mm_ex d 94 24 [.ref a0, .int x1, .int x2, .null, .null, .null, .null, .null, .null, .null, .null, .null] [] S =
    mm_ex d 94 43 [.ref a0, .int x1, .int x2, .int ((nI 1) <<< ((mm_M S (mm_rg S a0 0) 11) &&& 31)), .long 0, .null, .long 0, .null, .int (nI 0), .null, .null, .null] [] S :=
  Eq.trans (mx_iconst t94 d94_24 (v := nI 1) rfl) <|
  Eq.trans (mx_aload_n t94 d94_25 (x := a0) rfl) <|
  Eq.trans (mx_getR t94 d94_26 rfl fl11_17 h0 h1) <|
  Eq.trans (mx_geti t94 d94_29 rfl fl11_177 h2) <|
  Eq.trans (mx_ishl t94 d94_32) <|
  Eq.trans (mx_istore_n t94 d94_33 (ls' := [.ref a0, .int x1, .int x2, .int ((nI 1) <<< ((mm_M S (mm_rg S a0 0) 11) &&& 31)), .null, .null, .null, .null, .null, .null, .null, .null]) rfl rfl) <|
  Eq.trans (mx_lconst t94 d94_34 (v := 0) rfl) <|
  Eq.trans (mx_lstore t94 d94_35 (ls' := [.ref a0, .int x1, .int x2, .int ((nI 1) <<< ((mm_M S (mm_rg S a0 0) 11) &&& 31)), .long 0, .null, .null, .null, .null, .null, .null, .null]) rfl rfl) <|
  Eq.trans (mx_lconst t94 d94_37 (v := 0) rfl) <|
  Eq.trans (mx_lstore t94 d94_38 (ls' := [.ref a0, .int x1, .int x2, .int ((nI 1) <<< ((mm_M S (mm_rg S a0 0) 11) &&& 31)), .long 0, .null, .long 0, .null, .null, .null, .null, .null]) rfl rfl) <|
  Eq.trans (mx_iconst t94 d94_40 (v := nI 0) rfl) <|
  (mx_istore t94 d94_41 (ls' := [.ref a0, .int x1, .int x2, .int ((nI 1) <<< ((mm_M S (mm_rg S a0 0) 11) &&& 31)), .long 0, .null, .long 0, .null, .int (nI 0), .null, .null, .null]) rfl rfl)
theorem b94_43 {d : Nat} {S : mm_S} {a0 : Nat} {x1 : Int32} {x2 : Int32} {x3 : Int32} {j4 : Int64} {j6 : Int64} {x8 : Int32} {v9 : Value} {v11 : Value} : mm_ex d 94 43 [.ref a0, .int x1, .int x2, .int x3, .long j4, .null, .long j6, .null, .int x8, v9, .null, v11] [] S =
    if x3 ≤ x8 then mm_ex d 94 111 [.ref a0, .int x1, .int x2, .int x3, .long j4, .null, .long j6, .null, .int x8, v9, .null, v11] [] S else mm_ex d 94 49 [.ref a0, .int x1, .int x2, .int x3, .long j4, .null, .long j6, .null, .int x8, v9, .null, v11] [] S :=
  Eq.trans (mx_iload t94 d94_43 (x := x8) rfl) <|
  Eq.trans (mx_iload_n t94 d94_45 (x := x3) rfl) <|
  (mx_cge t94 d94_46 (tgt := 111) (by decide))
theorem b94_49 {d : Nat} {S : mm_S} {a0 : Nat} {x1 : Int32} {x2 : Int32} {x3 : Int32} {j4 : Int64} {j6 : Int64} {x8 : Int32} {v9 : Value} {v11 : Value} (h0 : mm_rk S a0 = 11) : mm_ex (d + 1) 94 49 [.ref a0, .int x1, .int x2, .int x3, .long j4, .null, .long j6, .null, .int x8, v9, .null, v11] [] S =
    mm_bd (mm_cl d 124 [.ref a0, .int x8] S) (fun v S2 => mm_ex (d + 1) 94 55 [.ref a0, .int x1, .int x2, .int x3, .long j4, .null, .long j6, .null, .int x8, v9, .null, v11] (v.toList ++ []) S2) :=
  Eq.trans (mx_aload_n t94 d94_49 (x := a0) rfl) <|
  Eq.trans (mx_iload t94 d94_50 (x := x8) rfl) <|
  (mx_virt (st := []) (k := 11) t94 [.int x8] d94_52 vt11_261 rfl rfl (Nat.le_of_ble_eq_true rfl) (Nat.le_of_ble_eq_true rfl) h0)
theorem b94_55 {d : Nat} {S : mm_S} {a0 : Nat} {x1 : Int32} {x2 : Int32} {x3 : Int32} {j4 : Int64} {j6 : Int64} {x8 : Int32} {v9 : Value} {v11 : Value} {p0 : Int64} : mm_ex d 94 55 [.ref a0, .int x1, .int x2, .int x3, .long j4, .null, .long j6, .null, .int x8, v9, .null, v11] [.long p0] S =
    if (lg_cmp p0 0) ≤ nI 0 then mm_ex d 94 105 [.ref a0, .int x1, .int x2, .int x3, .long j4, .null, .long j6, .null, .int x8, .long p0, .null, v11] [] S else mm_ex d 94 64 [.ref a0, .int x1, .int x2, .int x3, .long j4, .null, .long j6, .null, .int x8, .long p0, .null, v11] [] S :=
  Eq.trans (mx_lstore t94 d94_55 (ls' := [.ref a0, .int x1, .int x2, .int x3, .long j4, .null, .long j6, .null, .int x8, .long p0, .null, v11]) rfl rfl) <|
  Eq.trans (mx_lload t94 d94_57 (x := p0) rfl) <|
  Eq.trans (mx_lconst t94 d94_59 (v := 0) rfl) <|
  Eq.trans (mx_lcmp t94 d94_60) <|
  (mx_ile t94 d94_61 (tgt := 105) (by decide))
theorem b94_64 {d : Nat} {S : mm_S} {a0 : Nat} {x1 : Int32} {x2 : Int32} {x3 : Int32} {j4 : Int64} {j6 : Int64} {x8 : Int32} {j9 : Int64} {v11 : Value} (h0 : mm_rk S a0 = 11) : mm_ex (d + 1) 94 64 [.ref a0, .int x1, .int x2, .int x3, .long j4, .null, .long j6, .null, .int x8, .long j9, .null, v11] [] S =
    mm_bd (mm_cl d 125 [.ref a0, .int x8] S) (fun v S2 => mm_ex (d + 1) 94 70 [.ref a0, .int x1, .int x2, .int x3, .long j4, .null, .long j6, .null, .int x8, .long j9, .null, v11] (v.toList ++ []) S2) :=
  Eq.trans (mx_aload_n t94 d94_64 (x := a0) rfl) <|
  Eq.trans (mx_iload t94 d94_65 (x := x8) rfl) <|
  (mx_virt (st := []) (k := 11) t94 [.int x8] d94_67 vt11_265 rfl rfl (Nat.le_of_ble_eq_true rfl) (Nat.le_of_ble_eq_true rfl) h0)
theorem b94_70 {d : Nat} {S : mm_S} {a0 : Nat} {x1 : Int32} {x2 : Int32} {x3 : Int32} {j4 : Int64} {j6 : Int64} {x8 : Int32} {j9 : Int64} {v11 : Value} {p0 : Int32} : mm_ex d 94 70 [.ref a0, .int x1, .int x2, .int x3, .long j4, .null, .long j6, .null, .int x8, .long j9, .null, v11] [.int p0] S =
    if nI 0 ≤ p0 then mm_ex d 94 81 [.ref a0, .int x1, .int x2, .int x3, .long j4, .null, .long j6, .null, .int x8, .long j9, .null, .int p0] [] S else mm_ex d 94 77 [.ref a0, .int x1, .int x2, .int x3, .long j4, .null, .long j6, .null, .int x8, .long j9, .null, .int p0] [] S :=
  Eq.trans (mx_istore t94 d94_70 (ls' := [.ref a0, .int x1, .int x2, .int x3, .long j4, .null, .long j6, .null, .int x8, .long j9, .null, .int p0]) rfl rfl) <|
  Eq.trans (mx_iload t94 d94_72 (x := p0) rfl) <|
  (mx_ige t94 d94_74 (tgt := 81) (by decide))
theorem b94_77 {d : Nat} {S : mm_S} {a0 : Nat} {x1 : Int32} {x2 : Int32} {x3 : Int32} {j4 : Int64} {j6 : Int64} {x8 : Int32} {j9 : Int64} {x11 : Int32} : mm_ex d 94 77 [.ref a0, .int x1, .int x2, .int x3, .long j4, .null, .long j6, .null, .int x8, .long j9, .null, .int x11] [] S =
    some (some (.long (-9223372036854775808)), S) :=
  Eq.trans (mx_ldc2_w t94 d94_77 (v := -9223372036854775808) l211_224) <|
  (mx_lret t94 d94_80 rfl)
theorem b94_81 {d : Nat} {S : mm_S} {a0 : Nat} {x1 : Int32} {x2 : Int32} {x3 : Int32} {j4 : Int64} {j6 : Int64} {x8 : Int32} {j9 : Int64} {x11 : Int32} : mm_ex d 94 81 [.ref a0, .int x1, .int x2, .int x3, .long j4, .null, .long j6, .null, .int x8, .long j9, .null, .int x11] [] S =
    if ((x11 >>> (x1 &&& 31)) &&& (nI 1)) = (nI 1) then mm_ex d 94 98 [.ref a0, .int x1, .int x2, .int x3, .long j4, .null, .long (j6 + j9), .null, .int x8, .long j9, .null, .int x11] [] S else mm_ex d 94 105 [.ref a0, .int x1, .int x2, .int x3, .long j4, .null, .long (j6 + j9), .null, .int x8, .long j9, .null, .int x11] [] S :=
  Eq.trans (mx_lload t94 d94_81 (x := j6) rfl) <|
  Eq.trans (mx_lload t94 d94_83 (x := j9) rfl) <|
  Eq.trans (mx_ladd t94 d94_85) <|
  Eq.trans (mx_lstore t94 d94_86 (ls' := [.ref a0, .int x1, .int x2, .int x3, .long j4, .null, .long (j6 + j9), .null, .int x8, .long j9, .null, .int x11]) rfl rfl) <|
  Eq.trans (mx_iload t94 d94_88 (x := x11) rfl) <|
  Eq.trans (mx_iload_n t94 d94_90 (x := x1) rfl) <|
  Eq.trans (mx_ishr t94 d94_91) <|
  Eq.trans (mx_iconst t94 d94_92 (v := nI 1) rfl) <|
  Eq.trans (mx_iand t94 d94_93) <|
  Eq.trans (mx_iconst t94 d94_94 (v := nI 1) rfl) <|
  (mx_cne t94 d94_95 (tgt := 105) (by decide))
theorem b94_98 {d : Nat} {S : mm_S} {a0 : Nat} {x1 : Int32} {x2 : Int32} {x3 : Int32} {j4 : Int64} {j6 : Int64} {x8 : Int32} {j9 : Int64} {x11 : Int32} : mm_ex d 94 98 [.ref a0, .int x1, .int x2, .int x3, .long j4, .null, .long j6, .null, .int x8, .long j9, .null, .int x11] [] S =
    mm_ex d 94 43 [.ref a0, .int x1, .int x2, .int x3, .long (j4 + j9), .null, .long j6, .null, .int (x8 + nI 1), .long j9, .null, .int x11] [] S :=
  Eq.trans (mx_lload t94 d94_98 (x := j4) rfl) <|
  Eq.trans (mx_lload t94 d94_100 (x := j9) rfl) <|
  Eq.trans (mx_ladd t94 d94_102) <|
  Eq.trans (mx_lstore t94 d94_103 (ls' := [.ref a0, .int x1, .int x2, .int x3, .long (j4 + j9), .null, .long j6, .null, .int x8, .long j9, .null, .int x11]) rfl rfl) <|
  Eq.trans (mx_iinc t94 d94_105 (x := x8) (v := nI 1) (ls' := [.ref a0, .int x1, .int x2, .int x3, .long (j4 + j9), .null, .long j6, .null, .int (x8 + nI 1), .long j9, .null, .int x11]) rfl rfl rfl rfl) <|
  (mx_goto t94 d94_108 (tgt := 43) (by decide))
theorem b94_105 {d : Nat} {S : mm_S} {a0 : Nat} {x1 : Int32} {x2 : Int32} {x3 : Int32} {j4 : Int64} {j6 : Int64} {x8 : Int32} {j9 : Int64} {v11 : Value} : mm_ex d 94 105 [.ref a0, .int x1, .int x2, .int x3, .long j4, .null, .long j6, .null, .int x8, .long j9, .null, v11] [] S =
    mm_ex d 94 43 [.ref a0, .int x1, .int x2, .int x3, .long j4, .null, .long j6, .null, .int (x8 + nI 1), .long j9, .null, v11] [] S :=
  Eq.trans (mx_iinc t94 d94_105 (x := x8) (v := nI 1) (ls' := [.ref a0, .int x1, .int x2, .int x3, .long j4, .null, .long j6, .null, .int (x8 + nI 1), .long j9, .null, v11]) rfl rfl rfl rfl) <|
  (mx_goto t94 d94_108 (tgt := 43) (by decide))
theorem b94_111 {d : Nat} {S : mm_S} {a0 : Nat} {x1 : Int32} {x2 : Int32} {x3 : Int32} {j4 : Int64} {j6 : Int64} {x8 : Int32} {v9 : Value} {v11 : Value} : mm_ex (d + 1) 94 111 [.ref a0, .int x1, .int x2, .int x3, .long j4, .null, .long j6, .null, .int x8, v9, .null, v11] [] S =
    mm_bd (mm_cl d 126 [.long j4, .long j6, .int x2] S) (fun v S2 => mm_ex (d + 1) 94 119 [.ref a0, .int x1, .int x2, .int x3, .long j4, .null, .long j6, .null, .int x8, v9, .null, v11] (v.toList ++ []) S2) :=
  Eq.trans (mx_lload t94 d94_111 (x := j4) rfl) <|
  Eq.trans (mx_lload t94 d94_113 (x := j6) rfl) <|
  Eq.trans (mx_iload_n t94 d94_115 (x := x2) rfl) <|
  (mx_stat (st := []) t94 [.long j4, .long j6, .int x2] d94_116 acn11_235 mxn11_235 st11_235 rfl (Nat.le_of_ble_eq_true rfl) (Nat.le_of_ble_eq_true rfl))
theorem b94_119 {d : Nat} {S : mm_S} {a0 : Nat} {x1 : Int32} {x2 : Int32} {x3 : Int32} {j4 : Int64} {j6 : Int64} {x8 : Int32} {v9 : Value} {v11 : Value} {p0 : Int64} : mm_ex d 94 119 [.ref a0, .int x1, .int x2, .int x3, .long j4, .null, .long j6, .null, .int x8, v9, .null, v11] [.long p0] S =
    some (some (.long p0), S) :=
  (mx_lret t94 d94_119 rfl)
theorem e94 {d : Nat} {S : mm_S} {a0 : Nat} {x1 : Int32} {x2 : Int32} : mm_cl d 94 [.ref a0, .int x1, .int x2] S = mm_ex d 94 0 [.ref a0, .int x1, .int x2, .null, .null, .null, .null, .null, .null, .null, .null, .null] [] S := mm_cl_eq t94 (Nat.le_of_ble_eq_true rfl) rfl
