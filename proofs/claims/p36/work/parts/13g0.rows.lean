/-! X12_init -/
theorem dd127_0 : (decode prog_14_method_1_code 0 = .ok (.aload_n 0, 1)) ∧ (decode prog_14_method_1_code 1 = .ok (.invokespecial 3, 3)) ∧ (decode prog_14_method_1_code 4 = .ok (.aload_n 0, 1)) ∧ (decode prog_14_method_1_code 5 = .ok (.bipush 6, 2)) ∧ (decode prog_14_method_1_code 7 = .ok (.newarray .int, 2)) ∧ (decode prog_14_method_1_code 9 = .ok (.putfield 9, 3)) ∧ (decode prog_14_method_1_code 12 = .ok (.aload_n 0, 1)) ∧ (decode prog_14_method_1_code 13 = .ok (.bipush 6, 2)) ∧ (decode prog_14_method_1_code 15 = .ok (.newarray .int, 2)) ∧ (decode prog_14_method_1_code 17 = .ok (.putfield 15, 3)) ∧ (decode prog_14_method_1_code 20 = .ok (.aload_n 0, 1)) ∧ (decode prog_14_method_1_code 21 = .ok (.bipush 6, 2)) ∧ (decode prog_14_method_1_code 23 = .ok (.newarray .int, 2)) ∧ (decode prog_14_method_1_code 25 = .ok (.putfield 18, 3)) ∧ (decode prog_14_method_1_code 28 = .ok (.aload_n 0, 1)) ∧ (decode prog_14_method_1_code 29 = .ok (.bipush 6, 2)) := by decide +kernel
theorem d127_0 : decode prog_14_method_1_code 0 = .ok (.aload_n 0, 1) := dd127_0.1
theorem d127_1 : decode prog_14_method_1_code 1 = .ok (.invokespecial 3, 3) := dd127_0.2.1
theorem d127_4 : decode prog_14_method_1_code 4 = .ok (.aload_n 0, 1) := dd127_0.2.2.1
theorem d127_5 : decode prog_14_method_1_code 5 = .ok (.bipush 6, 2) := dd127_0.2.2.2.1
theorem d127_7 : decode prog_14_method_1_code 7 = .ok (.newarray .int, 2) := dd127_0.2.2.2.2.1
theorem d127_9 : decode prog_14_method_1_code 9 = .ok (.putfield 9, 3) := dd127_0.2.2.2.2.2.1
theorem d127_12 : decode prog_14_method_1_code 12 = .ok (.aload_n 0, 1) := dd127_0.2.2.2.2.2.2.1
theorem d127_13 : decode prog_14_method_1_code 13 = .ok (.bipush 6, 2) := dd127_0.2.2.2.2.2.2.2.1
theorem d127_15 : decode prog_14_method_1_code 15 = .ok (.newarray .int, 2) := dd127_0.2.2.2.2.2.2.2.2.1
theorem d127_17 : decode prog_14_method_1_code 17 = .ok (.putfield 15, 3) := dd127_0.2.2.2.2.2.2.2.2.2.1
theorem d127_20 : decode prog_14_method_1_code 20 = .ok (.aload_n 0, 1) := dd127_0.2.2.2.2.2.2.2.2.2.2.1
theorem d127_21 : decode prog_14_method_1_code 21 = .ok (.bipush 6, 2) := dd127_0.2.2.2.2.2.2.2.2.2.2.2.1
theorem d127_23 : decode prog_14_method_1_code 23 = .ok (.newarray .int, 2) := dd127_0.2.2.2.2.2.2.2.2.2.2.2.2.1
theorem d127_25 : decode prog_14_method_1_code 25 = .ok (.putfield 18, 3) := dd127_0.2.2.2.2.2.2.2.2.2.2.2.2.2.1
theorem d127_28 : decode prog_14_method_1_code 28 = .ok (.aload_n 0, 1) := dd127_0.2.2.2.2.2.2.2.2.2.2.2.2.2.2.1
theorem d127_29 : decode prog_14_method_1_code 29 = .ok (.bipush 6, 2) := dd127_0.2.2.2.2.2.2.2.2.2.2.2.2.2.2.2
theorem dd127_31 : (decode prog_14_method_1_code 31 = .ok (.newarray .int, 2)) ∧ (decode prog_14_method_1_code 33 = .ok (.putfield 21, 3)) ∧ (decode prog_14_method_1_code 36 = .ok (.aload_n 0, 1)) ∧ (decode prog_14_method_1_code 37 = .ok (.bipush 6, 2)) ∧ (decode prog_14_method_1_code 39 = .ok (.newarray .int, 2)) ∧ (decode prog_14_method_1_code 41 = .ok (.putfield 24, 3)) ∧ (decode prog_14_method_1_code 44 = .ok (.aload_n 0, 1)) ∧ (decode prog_14_method_1_code 45 = .ok (.bipush 6, 2)) ∧ (decode prog_14_method_1_code 47 = .ok (.newarray .int, 2)) ∧ (decode prog_14_method_1_code 49 = .ok (.putfield 27, 3)) ∧ (decode prog_14_method_1_code 52 = .ok (.aload_n 0, 1)) ∧ (decode prog_14_method_1_code 53 = .ok (.bipush 18, 2)) ∧ (decode prog_14_method_1_code 55 = .ok (.newarray .int, 2)) ∧ (decode prog_14_method_1_code 57 = .ok (.putfield 30, 3)) ∧ (decode prog_14_method_1_code 60 = .ok (.aload_n 0, 1)) ∧ (decode prog_14_method_1_code 61 = .ok (.bipush 6, 2)) := by decide +kernel
theorem d127_31 : decode prog_14_method_1_code 31 = .ok (.newarray .int, 2) := dd127_31.1
theorem d127_33 : decode prog_14_method_1_code 33 = .ok (.putfield 21, 3) := dd127_31.2.1
theorem d127_36 : decode prog_14_method_1_code 36 = .ok (.aload_n 0, 1) := dd127_31.2.2.1
theorem d127_37 : decode prog_14_method_1_code 37 = .ok (.bipush 6, 2) := dd127_31.2.2.2.1
theorem d127_39 : decode prog_14_method_1_code 39 = .ok (.newarray .int, 2) := dd127_31.2.2.2.2.1
theorem d127_41 : decode prog_14_method_1_code 41 = .ok (.putfield 24, 3) := dd127_31.2.2.2.2.2.1
theorem d127_44 : decode prog_14_method_1_code 44 = .ok (.aload_n 0, 1) := dd127_31.2.2.2.2.2.2.1
theorem d127_45 : decode prog_14_method_1_code 45 = .ok (.bipush 6, 2) := dd127_31.2.2.2.2.2.2.2.1
theorem d127_47 : decode prog_14_method_1_code 47 = .ok (.newarray .int, 2) := dd127_31.2.2.2.2.2.2.2.2.1
theorem d127_49 : decode prog_14_method_1_code 49 = .ok (.putfield 27, 3) := dd127_31.2.2.2.2.2.2.2.2.2.1
theorem d127_52 : decode prog_14_method_1_code 52 = .ok (.aload_n 0, 1) := dd127_31.2.2.2.2.2.2.2.2.2.2.1
theorem d127_53 : decode prog_14_method_1_code 53 = .ok (.bipush 18, 2) := dd127_31.2.2.2.2.2.2.2.2.2.2.2.1
theorem d127_55 : decode prog_14_method_1_code 55 = .ok (.newarray .int, 2) := dd127_31.2.2.2.2.2.2.2.2.2.2.2.2.1
theorem d127_57 : decode prog_14_method_1_code 57 = .ok (.putfield 30, 3) := dd127_31.2.2.2.2.2.2.2.2.2.2.2.2.2.1
theorem d127_60 : decode prog_14_method_1_code 60 = .ok (.aload_n 0, 1) := dd127_31.2.2.2.2.2.2.2.2.2.2.2.2.2.2.1
theorem d127_61 : decode prog_14_method_1_code 61 = .ok (.bipush 6, 2) := dd127_31.2.2.2.2.2.2.2.2.2.2.2.2.2.2.2
theorem dd127_63 : (decode prog_14_method_1_code 63 = .ok (.newarray .int, 2)) ∧ (decode prog_14_method_1_code 65 = .ok (.putfield 33, 3)) ∧ (decode prog_14_method_1_code 68 = .ok (.aload_n 0, 1)) ∧ (decode prog_14_method_1_code 69 = .ok (.iconst 1, 1)) ∧ (decode prog_14_method_1_code 70 = .ok (.putfield 36, 3)) ∧ (decode prog_14_method_1_code 73 = .ok (.aload_n 0, 1)) ∧ (decode prog_14_method_1_code 74 = .ok (.iconst 5, 1)) ∧ (decode prog_14_method_1_code 75 = .ok (.putfield 40, 3)) ∧ (decode prog_14_method_1_code 78 = .ok (.aload_n 0, 1)) ∧ (decode prog_14_method_1_code 79 = .ok (.bipush 12, 2)) ∧ (decode prog_14_method_1_code 81 = .ok (.newarray .int, 2)) ∧ (decode prog_14_method_1_code 83 = .ok (.putfield 43, 3)) ∧ (decode prog_14_method_1_code 86 = .ok (.aload_n 0, 1)) ∧ (decode prog_14_method_1_code 87 = .ok (.iconst (-1), 1)) ∧ (decode prog_14_method_1_code 88 = .ok (.putfield 46, 3)) ∧ (decode prog_14_method_1_code 91 = .ok (.aload_n 0, 1)) := by decide +kernel
theorem d127_63 : decode prog_14_method_1_code 63 = .ok (.newarray .int, 2) := dd127_63.1
theorem d127_65 : decode prog_14_method_1_code 65 = .ok (.putfield 33, 3) := dd127_63.2.1
theorem d127_68 : decode prog_14_method_1_code 68 = .ok (.aload_n 0, 1) := dd127_63.2.2.1
theorem d127_69 : decode prog_14_method_1_code 69 = .ok (.iconst 1, 1) := dd127_63.2.2.2.1
theorem d127_70 : decode prog_14_method_1_code 70 = .ok (.putfield 36, 3) := dd127_63.2.2.2.2.1
theorem d127_73 : decode prog_14_method_1_code 73 = .ok (.aload_n 0, 1) := dd127_63.2.2.2.2.2.1
theorem d127_74 : decode prog_14_method_1_code 74 = .ok (.iconst 5, 1) := dd127_63.2.2.2.2.2.2.1
theorem d127_75 : decode prog_14_method_1_code 75 = .ok (.putfield 40, 3) := dd127_63.2.2.2.2.2.2.2.1
theorem d127_78 : decode prog_14_method_1_code 78 = .ok (.aload_n 0, 1) := dd127_63.2.2.2.2.2.2.2.2.1
theorem d127_79 : decode prog_14_method_1_code 79 = .ok (.bipush 12, 2) := dd127_63.2.2.2.2.2.2.2.2.2.1
theorem d127_81 : decode prog_14_method_1_code 81 = .ok (.newarray .int, 2) := dd127_63.2.2.2.2.2.2.2.2.2.2.1
theorem d127_83 : decode prog_14_method_1_code 83 = .ok (.putfield 43, 3) := dd127_63.2.2.2.2.2.2.2.2.2.2.2.1
theorem d127_86 : decode prog_14_method_1_code 86 = .ok (.aload_n 0, 1) := dd127_63.2.2.2.2.2.2.2.2.2.2.2.2.1
theorem d127_87 : decode prog_14_method_1_code 87 = .ok (.iconst (-1), 1) := dd127_63.2.2.2.2.2.2.2.2.2.2.2.2.2.1
theorem d127_88 : decode prog_14_method_1_code 88 = .ok (.putfield 46, 3) := dd127_63.2.2.2.2.2.2.2.2.2.2.2.2.2.2.1
theorem d127_91 : decode prog_14_method_1_code 91 = .ok (.aload_n 0, 1) := dd127_63.2.2.2.2.2.2.2.2.2.2.2.2.2.2.2
theorem dd127_92 : (decode prog_14_method_1_code 92 = .ok (.bipush 7, 2)) ∧ (decode prog_14_method_1_code 94 = .ok (.newarray .int, 2)) ∧ (decode prog_14_method_1_code 96 = .ok (.putfield 49, 3)) ∧ (decode prog_14_method_1_code 99 = .ok (.aload_n 0, 1)) ∧ (decode prog_14_method_1_code 100 = .ok (.bipush 70, 2)) ∧ (decode prog_14_method_1_code 102 = .ok (.newarray .int, 2)) ∧ (decode prog_14_method_1_code 104 = .ok (.putfield 52, 3)) ∧ (decode prog_14_method_1_code 107 = .ok (.aload_n 0, 1)) ∧ (decode prog_14_method_1_code 108 = .ok (.bipush 70, 2)) ∧ (decode prog_14_method_1_code 110 = .ok (.newarray .int, 2)) ∧ (decode prog_14_method_1_code 112 = .ok (.putfield 55, 3)) ∧ (decode prog_14_method_1_code 115 = .ok (.aload_n 0, 1)) ∧ (decode prog_14_method_1_code 116 = .ok (.bipush 70, 2)) ∧ (decode prog_14_method_1_code 118 = .ok (.newarray .int, 2)) ∧ (decode prog_14_method_1_code 120 = .ok (.putfield 58, 3)) ∧ (decode prog_14_method_1_code 123 = .ok (.aload_n 0, 1)) := by decide +kernel
theorem d127_92 : decode prog_14_method_1_code 92 = .ok (.bipush 7, 2) := dd127_92.1
theorem d127_94 : decode prog_14_method_1_code 94 = .ok (.newarray .int, 2) := dd127_92.2.1
theorem d127_96 : decode prog_14_method_1_code 96 = .ok (.putfield 49, 3) := dd127_92.2.2.1
theorem d127_99 : decode prog_14_method_1_code 99 = .ok (.aload_n 0, 1) := dd127_92.2.2.2.1
theorem d127_100 : decode prog_14_method_1_code 100 = .ok (.bipush 70, 2) := dd127_92.2.2.2.2.1
theorem d127_102 : decode prog_14_method_1_code 102 = .ok (.newarray .int, 2) := dd127_92.2.2.2.2.2.1
theorem d127_104 : decode prog_14_method_1_code 104 = .ok (.putfield 52, 3) := dd127_92.2.2.2.2.2.2.1
theorem d127_107 : decode prog_14_method_1_code 107 = .ok (.aload_n 0, 1) := dd127_92.2.2.2.2.2.2.2.1
theorem d127_108 : decode prog_14_method_1_code 108 = .ok (.bipush 70, 2) := dd127_92.2.2.2.2.2.2.2.2.1
theorem d127_110 : decode prog_14_method_1_code 110 = .ok (.newarray .int, 2) := dd127_92.2.2.2.2.2.2.2.2.2.1
theorem d127_112 : decode prog_14_method_1_code 112 = .ok (.putfield 55, 3) := dd127_92.2.2.2.2.2.2.2.2.2.2.1
theorem d127_115 : decode prog_14_method_1_code 115 = .ok (.aload_n 0, 1) := dd127_92.2.2.2.2.2.2.2.2.2.2.2.1
theorem d127_116 : decode prog_14_method_1_code 116 = .ok (.bipush 70, 2) := dd127_92.2.2.2.2.2.2.2.2.2.2.2.2.1
theorem d127_118 : decode prog_14_method_1_code 118 = .ok (.newarray .int, 2) := dd127_92.2.2.2.2.2.2.2.2.2.2.2.2.2.1
theorem d127_120 : decode prog_14_method_1_code 120 = .ok (.putfield 58, 3) := dd127_92.2.2.2.2.2.2.2.2.2.2.2.2.2.2.1
theorem d127_123 : decode prog_14_method_1_code 123 = .ok (.aload_n 0, 1) := dd127_92.2.2.2.2.2.2.2.2.2.2.2.2.2.2.2
theorem dd127_124 : (decode prog_14_method_1_code 124 = .ok (.bipush 70, 2)) ∧ (decode prog_14_method_1_code 126 = .ok (.newarray .int, 2)) ∧ (decode prog_14_method_1_code 128 = .ok (.putfield 61, 3)) ∧ (decode prog_14_method_1_code 131 = .ok (.aload_n 0, 1)) ∧ (decode prog_14_method_1_code 132 = .ok (.sipush 840, 3)) ∧ (decode prog_14_method_1_code 135 = .ok (.newarray .int, 2)) ∧ (decode prog_14_method_1_code 137 = .ok (.putfield 64, 3)) ∧ (decode prog_14_method_1_code 140 = .ok (.aload_n 0, 1)) ∧ (decode prog_14_method_1_code 141 = .ok (.bipush 100, 2)) ∧ (decode prog_14_method_1_code 143 = .ok (.newarray .int, 2)) ∧ (decode prog_14_method_1_code 145 = .ok (.putfield 67, 3)) ∧ (decode prog_14_method_1_code 148 = .ok (.aload_n 0, 1)) ∧ (decode prog_14_method_1_code 149 = .ok (.iconst (-1), 1)) ∧ (decode prog_14_method_1_code 150 = .ok (.putfield 70, 3)) ∧ (decode prog_14_method_1_code 153 = .ok (.aload_n 0, 1)) ∧ (decode prog_14_method_1_code 154 = .ok (.bipush 20, 2)) := by decide +kernel
theorem d127_124 : decode prog_14_method_1_code 124 = .ok (.bipush 70, 2) := dd127_124.1
theorem d127_126 : decode prog_14_method_1_code 126 = .ok (.newarray .int, 2) := dd127_124.2.1
theorem d127_128 : decode prog_14_method_1_code 128 = .ok (.putfield 61, 3) := dd127_124.2.2.1
theorem d127_131 : decode prog_14_method_1_code 131 = .ok (.aload_n 0, 1) := dd127_124.2.2.2.1
theorem d127_132 : decode prog_14_method_1_code 132 = .ok (.sipush 840, 3) := dd127_124.2.2.2.2.1
theorem d127_135 : decode prog_14_method_1_code 135 = .ok (.newarray .int, 2) := dd127_124.2.2.2.2.2.1
theorem d127_137 : decode prog_14_method_1_code 137 = .ok (.putfield 64, 3) := dd127_124.2.2.2.2.2.2.1
theorem d127_140 : decode prog_14_method_1_code 140 = .ok (.aload_n 0, 1) := dd127_124.2.2.2.2.2.2.2.1
theorem d127_141 : decode prog_14_method_1_code 141 = .ok (.bipush 100, 2) := dd127_124.2.2.2.2.2.2.2.2.1
theorem d127_143 : decode prog_14_method_1_code 143 = .ok (.newarray .int, 2) := dd127_124.2.2.2.2.2.2.2.2.2.1
theorem d127_145 : decode prog_14_method_1_code 145 = .ok (.putfield 67, 3) := dd127_124.2.2.2.2.2.2.2.2.2.2.1
theorem d127_148 : decode prog_14_method_1_code 148 = .ok (.aload_n 0, 1) := dd127_124.2.2.2.2.2.2.2.2.2.2.2.1
theorem d127_149 : decode prog_14_method_1_code 149 = .ok (.iconst (-1), 1) := dd127_124.2.2.2.2.2.2.2.2.2.2.2.2.1
theorem d127_150 : decode prog_14_method_1_code 150 = .ok (.putfield 70, 3) := dd127_124.2.2.2.2.2.2.2.2.2.2.2.2.2.1
theorem d127_153 : decode prog_14_method_1_code 153 = .ok (.aload_n 0, 1) := dd127_124.2.2.2.2.2.2.2.2.2.2.2.2.2.2.1
theorem d127_154 : decode prog_14_method_1_code 154 = .ok (.bipush 20, 2) := dd127_124.2.2.2.2.2.2.2.2.2.2.2.2.2.2.2
theorem dd127_156 : (decode prog_14_method_1_code 156 = .ok (.newarray .int, 2)) ∧ (decode prog_14_method_1_code 158 = .ok (.putfield 73, 3)) ∧ (decode prog_14_method_1_code 161 = .ok (.aload_n 0, 1)) ∧ (decode prog_14_method_1_code 162 = .ok (.bipush 6, 2)) ∧ (decode prog_14_method_1_code 164 = .ok (.newarray .int, 2)) ∧ (decode prog_14_method_1_code 166 = .ok (.dup, 1)) ∧ (decode prog_14_method_1_code 167 = .ok (.iconst 0, 1)) ∧ (decode prog_14_method_1_code 168 = .ok (.iconst (-1), 1)) ∧ (decode prog_14_method_1_code 169 = .ok (.iastore, 1)) ∧ (decode prog_14_method_1_code 170 = .ok (.dup, 1)) ∧ (decode prog_14_method_1_code 171 = .ok (.iconst 1, 1)) ∧ (decode prog_14_method_1_code 172 = .ok (.iconst (-1), 1)) ∧ (decode prog_14_method_1_code 173 = .ok (.iastore, 1)) ∧ (decode prog_14_method_1_code 174 = .ok (.dup, 1)) ∧ (decode prog_14_method_1_code 175 = .ok (.iconst 2, 1)) ∧ (decode prog_14_method_1_code 176 = .ok (.iconst (-1), 1)) := by decide +kernel
theorem d127_156 : decode prog_14_method_1_code 156 = .ok (.newarray .int, 2) := dd127_156.1
theorem d127_158 : decode prog_14_method_1_code 158 = .ok (.putfield 73, 3) := dd127_156.2.1
theorem d127_161 : decode prog_14_method_1_code 161 = .ok (.aload_n 0, 1) := dd127_156.2.2.1
theorem d127_162 : decode prog_14_method_1_code 162 = .ok (.bipush 6, 2) := dd127_156.2.2.2.1
theorem d127_164 : decode prog_14_method_1_code 164 = .ok (.newarray .int, 2) := dd127_156.2.2.2.2.1
theorem d127_166 : decode prog_14_method_1_code 166 = .ok (.dup, 1) := dd127_156.2.2.2.2.2.1
theorem d127_167 : decode prog_14_method_1_code 167 = .ok (.iconst 0, 1) := dd127_156.2.2.2.2.2.2.1
theorem d127_168 : decode prog_14_method_1_code 168 = .ok (.iconst (-1), 1) := dd127_156.2.2.2.2.2.2.2.1
theorem d127_169 : decode prog_14_method_1_code 169 = .ok (.iastore, 1) := dd127_156.2.2.2.2.2.2.2.2.1
theorem d127_170 : decode prog_14_method_1_code 170 = .ok (.dup, 1) := dd127_156.2.2.2.2.2.2.2.2.2.1
theorem d127_171 : decode prog_14_method_1_code 171 = .ok (.iconst 1, 1) := dd127_156.2.2.2.2.2.2.2.2.2.2.1
theorem d127_172 : decode prog_14_method_1_code 172 = .ok (.iconst (-1), 1) := dd127_156.2.2.2.2.2.2.2.2.2.2.2.1
theorem d127_173 : decode prog_14_method_1_code 173 = .ok (.iastore, 1) := dd127_156.2.2.2.2.2.2.2.2.2.2.2.2.1
theorem d127_174 : decode prog_14_method_1_code 174 = .ok (.dup, 1) := dd127_156.2.2.2.2.2.2.2.2.2.2.2.2.2.1
theorem d127_175 : decode prog_14_method_1_code 175 = .ok (.iconst 2, 1) := dd127_156.2.2.2.2.2.2.2.2.2.2.2.2.2.2.1
theorem d127_176 : decode prog_14_method_1_code 176 = .ok (.iconst (-1), 1) := dd127_156.2.2.2.2.2.2.2.2.2.2.2.2.2.2.2
theorem dd127_177 : (decode prog_14_method_1_code 177 = .ok (.iastore, 1)) ∧ (decode prog_14_method_1_code 178 = .ok (.dup, 1)) ∧ (decode prog_14_method_1_code 179 = .ok (.iconst 3, 1)) ∧ (decode prog_14_method_1_code 180 = .ok (.iconst (-1), 1)) ∧ (decode prog_14_method_1_code 181 = .ok (.iastore, 1)) ∧ (decode prog_14_method_1_code 182 = .ok (.dup, 1)) ∧ (decode prog_14_method_1_code 183 = .ok (.iconst 4, 1)) ∧ (decode prog_14_method_1_code 184 = .ok (.iconst (-1), 1)) ∧ (decode prog_14_method_1_code 185 = .ok (.iastore, 1)) ∧ (decode prog_14_method_1_code 186 = .ok (.dup, 1)) ∧ (decode prog_14_method_1_code 187 = .ok (.iconst 5, 1)) ∧ (decode prog_14_method_1_code 188 = .ok (.iconst (-1), 1)) ∧ (decode prog_14_method_1_code 189 = .ok (.iastore, 1)) ∧ (decode prog_14_method_1_code 190 = .ok (.putfield 76, 3)) ∧ (decode prog_14_method_1_code 193 = .ok (.aload_n 0, 1)) ∧ (decode prog_14_method_1_code 194 = .ok (.bipush 6, 2)) := by decide +kernel
theorem d127_177 : decode prog_14_method_1_code 177 = .ok (.iastore, 1) := dd127_177.1
theorem d127_178 : decode prog_14_method_1_code 178 = .ok (.dup, 1) := dd127_177.2.1
theorem d127_179 : decode prog_14_method_1_code 179 = .ok (.iconst 3, 1) := dd127_177.2.2.1
theorem d127_180 : decode prog_14_method_1_code 180 = .ok (.iconst (-1), 1) := dd127_177.2.2.2.1
theorem d127_181 : decode prog_14_method_1_code 181 = .ok (.iastore, 1) := dd127_177.2.2.2.2.1
theorem d127_182 : decode prog_14_method_1_code 182 = .ok (.dup, 1) := dd127_177.2.2.2.2.2.1
theorem d127_183 : decode prog_14_method_1_code 183 = .ok (.iconst 4, 1) := dd127_177.2.2.2.2.2.2.1
theorem d127_184 : decode prog_14_method_1_code 184 = .ok (.iconst (-1), 1) := dd127_177.2.2.2.2.2.2.2.1
theorem d127_185 : decode prog_14_method_1_code 185 = .ok (.iastore, 1) := dd127_177.2.2.2.2.2.2.2.2.1
theorem d127_186 : decode prog_14_method_1_code 186 = .ok (.dup, 1) := dd127_177.2.2.2.2.2.2.2.2.2.1
theorem d127_187 : decode prog_14_method_1_code 187 = .ok (.iconst 5, 1) := dd127_177.2.2.2.2.2.2.2.2.2.2.1
theorem d127_188 : decode prog_14_method_1_code 188 = .ok (.iconst (-1), 1) := dd127_177.2.2.2.2.2.2.2.2.2.2.2.1
theorem d127_189 : decode prog_14_method_1_code 189 = .ok (.iastore, 1) := dd127_177.2.2.2.2.2.2.2.2.2.2.2.2.1
theorem d127_190 : decode prog_14_method_1_code 190 = .ok (.putfield 76, 3) := dd127_177.2.2.2.2.2.2.2.2.2.2.2.2.2.1
theorem d127_193 : decode prog_14_method_1_code 193 = .ok (.aload_n 0, 1) := dd127_177.2.2.2.2.2.2.2.2.2.2.2.2.2.2.1
theorem d127_194 : decode prog_14_method_1_code 194 = .ok (.bipush 6, 2) := dd127_177.2.2.2.2.2.2.2.2.2.2.2.2.2.2.2
theorem dd127_196 : (decode prog_14_method_1_code 196 = .ok (.newarray .int, 2)) ∧ (decode prog_14_method_1_code 198 = .ok (.putfield 79, 3)) ∧ (decode prog_14_method_1_code 201 = .ok (.aload_n 0, 1)) ∧ (decode prog_14_method_1_code 202 = .ok (.sipush 360, 3)) ∧ (decode prog_14_method_1_code 205 = .ok (.newarray .long, 2)) ∧ (decode prog_14_method_1_code 207 = .ok (.putfield 82, 3)) ∧ (decode prog_14_method_1_code 210 = .ok (.aload_n 0, 1)) ∧ (decode prog_14_method_1_code 211 = .ok (.bipush 24, 2)) ∧ (decode prog_14_method_1_code 213 = .ok (.newarray .int, 2)) ∧ (decode prog_14_method_1_code 215 = .ok (.dup, 1)) ∧ (decode prog_14_method_1_code 216 = .ok (.iconst 0, 1)) ∧ (decode prog_14_method_1_code 217 = .ok (.bipush 109, 2)) ∧ (decode prog_14_method_1_code 219 = .ok (.iastore, 1)) ∧ (decode prog_14_method_1_code 220 = .ok (.dup, 1)) ∧ (decode prog_14_method_1_code 221 = .ok (.iconst 1, 1)) ∧ (decode prog_14_method_1_code 222 = .ok (.bipush 111, 2)) := by decide +kernel
theorem d127_196 : decode prog_14_method_1_code 196 = .ok (.newarray .int, 2) := dd127_196.1
theorem d127_198 : decode prog_14_method_1_code 198 = .ok (.putfield 79, 3) := dd127_196.2.1
theorem d127_201 : decode prog_14_method_1_code 201 = .ok (.aload_n 0, 1) := dd127_196.2.2.1
theorem d127_202 : decode prog_14_method_1_code 202 = .ok (.sipush 360, 3) := dd127_196.2.2.2.1
theorem d127_205 : decode prog_14_method_1_code 205 = .ok (.newarray .long, 2) := dd127_196.2.2.2.2.1
theorem d127_207 : decode prog_14_method_1_code 207 = .ok (.putfield 82, 3) := dd127_196.2.2.2.2.2.1
theorem d127_210 : decode prog_14_method_1_code 210 = .ok (.aload_n 0, 1) := dd127_196.2.2.2.2.2.2.1
theorem d127_211 : decode prog_14_method_1_code 211 = .ok (.bipush 24, 2) := dd127_196.2.2.2.2.2.2.2.1
theorem d127_213 : decode prog_14_method_1_code 213 = .ok (.newarray .int, 2) := dd127_196.2.2.2.2.2.2.2.2.1
theorem d127_215 : decode prog_14_method_1_code 215 = .ok (.dup, 1) := dd127_196.2.2.2.2.2.2.2.2.2.1
theorem d127_216 : decode prog_14_method_1_code 216 = .ok (.iconst 0, 1) := dd127_196.2.2.2.2.2.2.2.2.2.2.1
theorem d127_217 : decode prog_14_method_1_code 217 = .ok (.bipush 109, 2) := dd127_196.2.2.2.2.2.2.2.2.2.2.2.1
theorem d127_219 : decode prog_14_method_1_code 219 = .ok (.iastore, 1) := dd127_196.2.2.2.2.2.2.2.2.2.2.2.2.1
theorem d127_220 : decode prog_14_method_1_code 220 = .ok (.dup, 1) := dd127_196.2.2.2.2.2.2.2.2.2.2.2.2.2.1
theorem d127_221 : decode prog_14_method_1_code 221 = .ok (.iconst 1, 1) := dd127_196.2.2.2.2.2.2.2.2.2.2.2.2.2.2.1
theorem d127_222 : decode prog_14_method_1_code 222 = .ok (.bipush 111, 2) := dd127_196.2.2.2.2.2.2.2.2.2.2.2.2.2.2.2
theorem dd127_224 : (decode prog_14_method_1_code 224 = .ok (.iastore, 1)) ∧ (decode prog_14_method_1_code 225 = .ok (.dup, 1)) ∧ (decode prog_14_method_1_code 226 = .ok (.iconst 2, 1)) ∧ (decode prog_14_method_1_code 227 = .ok (.bipush 114, 2)) ∧ (decode prog_14_method_1_code 229 = .ok (.iastore, 1)) ∧ (decode prog_14_method_1_code 230 = .ok (.dup, 1)) ∧ (decode prog_14_method_1_code 231 = .ok (.iconst 3, 1)) ∧ (decode prog_14_method_1_code 232 = .ok (.bipush 101, 2)) ∧ (decode prog_14_method_1_code 234 = .ok (.iastore, 1)) ∧ (decode prog_14_method_1_code 235 = .ok (.dup, 1)) ∧ (decode prog_14_method_1_code 236 = .ok (.iconst 4, 1)) ∧ (decode prog_14_method_1_code 237 = .ok (.bipush 99, 2)) ∧ (decode prog_14_method_1_code 239 = .ok (.iastore, 1)) ∧ (decode prog_14_method_1_code 240 = .ok (.dup, 1)) ∧ (decode prog_14_method_1_code 241 = .ok (.iconst 5, 1)) ∧ (decode prog_14_method_1_code 242 = .ok (.bipush 111, 2)) := by decide +kernel
theorem d127_224 : decode prog_14_method_1_code 224 = .ok (.iastore, 1) := dd127_224.1
theorem d127_225 : decode prog_14_method_1_code 225 = .ok (.dup, 1) := dd127_224.2.1
theorem d127_226 : decode prog_14_method_1_code 226 = .ok (.iconst 2, 1) := dd127_224.2.2.1
theorem d127_227 : decode prog_14_method_1_code 227 = .ok (.bipush 114, 2) := dd127_224.2.2.2.1
theorem d127_229 : decode prog_14_method_1_code 229 = .ok (.iastore, 1) := dd127_224.2.2.2.2.1
theorem d127_230 : decode prog_14_method_1_code 230 = .ok (.dup, 1) := dd127_224.2.2.2.2.2.1
theorem d127_231 : decode prog_14_method_1_code 231 = .ok (.iconst 3, 1) := dd127_224.2.2.2.2.2.2.1
theorem d127_232 : decode prog_14_method_1_code 232 = .ok (.bipush 101, 2) := dd127_224.2.2.2.2.2.2.2.1
theorem d127_234 : decode prog_14_method_1_code 234 = .ok (.iastore, 1) := dd127_224.2.2.2.2.2.2.2.2.1
theorem d127_235 : decode prog_14_method_1_code 235 = .ok (.dup, 1) := dd127_224.2.2.2.2.2.2.2.2.2.1
theorem d127_236 : decode prog_14_method_1_code 236 = .ok (.iconst 4, 1) := dd127_224.2.2.2.2.2.2.2.2.2.2.1
theorem d127_237 : decode prog_14_method_1_code 237 = .ok (.bipush 99, 2) := dd127_224.2.2.2.2.2.2.2.2.2.2.2.1
theorem d127_239 : decode prog_14_method_1_code 239 = .ok (.iastore, 1) := dd127_224.2.2.2.2.2.2.2.2.2.2.2.2.1
theorem d127_240 : decode prog_14_method_1_code 240 = .ok (.dup, 1) := dd127_224.2.2.2.2.2.2.2.2.2.2.2.2.2.1
theorem d127_241 : decode prog_14_method_1_code 241 = .ok (.iconst 5, 1) := dd127_224.2.2.2.2.2.2.2.2.2.2.2.2.2.2.1
theorem d127_242 : decode prog_14_method_1_code 242 = .ok (.bipush 111, 2) := dd127_224.2.2.2.2.2.2.2.2.2.2.2.2.2.2.2
theorem dd127_244 : (decode prog_14_method_1_code 244 = .ok (.iastore, 1)) ∧ (decode prog_14_method_1_code 245 = .ok (.dup, 1)) ∧ (decode prog_14_method_1_code 246 = .ok (.bipush 6, 2)) ∧ (decode prog_14_method_1_code 248 = .ok (.bipush 115, 2)) ∧ (decode prog_14_method_1_code 250 = .ok (.iastore, 1)) ∧ (decode prog_14_method_1_code 251 = .ok (.dup, 1)) ∧ (decode prog_14_method_1_code 252 = .ok (.bipush 7, 2)) ∧ (decode prog_14_method_1_code 254 = .ok (.bipush 116, 2)) ∧ (decode prog_14_method_1_code 256 = .ok (.iastore, 1)) ∧ (decode prog_14_method_1_code 257 = .ok (.dup, 1)) ∧ (decode prog_14_method_1_code 258 = .ok (.bipush 8, 2)) ∧ (decode prog_14_method_1_code 260 = .ok (.bipush 117, 2)) ∧ (decode prog_14_method_1_code 262 = .ok (.iastore, 1)) ∧ (decode prog_14_method_1_code 263 = .ok (.dup, 1)) ∧ (decode prog_14_method_1_code 264 = .ok (.bipush 9, 2)) ∧ (decode prog_14_method_1_code 266 = .ok (.bipush 112, 2)) := by decide +kernel
theorem d127_244 : decode prog_14_method_1_code 244 = .ok (.iastore, 1) := dd127_244.1
theorem d127_245 : decode prog_14_method_1_code 245 = .ok (.dup, 1) := dd127_244.2.1
theorem d127_246 : decode prog_14_method_1_code 246 = .ok (.bipush 6, 2) := dd127_244.2.2.1
theorem d127_248 : decode prog_14_method_1_code 248 = .ok (.bipush 115, 2) := dd127_244.2.2.2.1
theorem d127_250 : decode prog_14_method_1_code 250 = .ok (.iastore, 1) := dd127_244.2.2.2.2.1
theorem d127_251 : decode prog_14_method_1_code 251 = .ok (.dup, 1) := dd127_244.2.2.2.2.2.1
theorem d127_252 : decode prog_14_method_1_code 252 = .ok (.bipush 7, 2) := dd127_244.2.2.2.2.2.2.1
theorem d127_254 : decode prog_14_method_1_code 254 = .ok (.bipush 116, 2) := dd127_244.2.2.2.2.2.2.2.1
theorem d127_256 : decode prog_14_method_1_code 256 = .ok (.iastore, 1) := dd127_244.2.2.2.2.2.2.2.2.1
theorem d127_257 : decode prog_14_method_1_code 257 = .ok (.dup, 1) := dd127_244.2.2.2.2.2.2.2.2.2.1
theorem d127_258 : decode prog_14_method_1_code 258 = .ok (.bipush 8, 2) := dd127_244.2.2.2.2.2.2.2.2.2.2.1
theorem d127_260 : decode prog_14_method_1_code 260 = .ok (.bipush 117, 2) := dd127_244.2.2.2.2.2.2.2.2.2.2.2.1
theorem d127_262 : decode prog_14_method_1_code 262 = .ok (.iastore, 1) := dd127_244.2.2.2.2.2.2.2.2.2.2.2.2.1
theorem d127_263 : decode prog_14_method_1_code 263 = .ok (.dup, 1) := dd127_244.2.2.2.2.2.2.2.2.2.2.2.2.2.1
theorem d127_264 : decode prog_14_method_1_code 264 = .ok (.bipush 9, 2) := dd127_244.2.2.2.2.2.2.2.2.2.2.2.2.2.2.1
theorem d127_266 : decode prog_14_method_1_code 266 = .ok (.bipush 112, 2) := dd127_244.2.2.2.2.2.2.2.2.2.2.2.2.2.2.2
theorem dd127_268 : (decode prog_14_method_1_code 268 = .ok (.iastore, 1)) ∧ (decode prog_14_method_1_code 269 = .ok (.dup, 1)) ∧ (decode prog_14_method_1_code 270 = .ok (.bipush 10, 2)) ∧ (decode prog_14_method_1_code 272 = .ok (.bipush 32, 2)) ∧ (decode prog_14_method_1_code 274 = .ok (.iastore, 1)) ∧ (decode prog_14_method_1_code 275 = .ok (.dup, 1)) ∧ (decode prog_14_method_1_code 276 = .ok (.bipush 11, 2)) ∧ (decode prog_14_method_1_code 278 = .ok (.bipush 32, 2)) ∧ (decode prog_14_method_1_code 280 = .ok (.iastore, 1)) ∧ (decode prog_14_method_1_code 281 = .ok (.dup, 1)) ∧ (decode prog_14_method_1_code 282 = .ok (.bipush 12, 2)) ∧ (decode prog_14_method_1_code 284 = .ok (.bipush 100, 2)) ∧ (decode prog_14_method_1_code 286 = .ok (.iastore, 1)) ∧ (decode prog_14_method_1_code 287 = .ok (.dup, 1)) ∧ (decode prog_14_method_1_code 288 = .ok (.bipush 13, 2)) ∧ (decode prog_14_method_1_code 290 = .ok (.bipush 111, 2)) := by decide +kernel
theorem d127_268 : decode prog_14_method_1_code 268 = .ok (.iastore, 1) := dd127_268.1
theorem d127_269 : decode prog_14_method_1_code 269 = .ok (.dup, 1) := dd127_268.2.1
theorem d127_270 : decode prog_14_method_1_code 270 = .ok (.bipush 10, 2) := dd127_268.2.2.1
theorem d127_272 : decode prog_14_method_1_code 272 = .ok (.bipush 32, 2) := dd127_268.2.2.2.1
theorem d127_274 : decode prog_14_method_1_code 274 = .ok (.iastore, 1) := dd127_268.2.2.2.2.1
theorem d127_275 : decode prog_14_method_1_code 275 = .ok (.dup, 1) := dd127_268.2.2.2.2.2.1
theorem d127_276 : decode prog_14_method_1_code 276 = .ok (.bipush 11, 2) := dd127_268.2.2.2.2.2.2.1
theorem d127_278 : decode prog_14_method_1_code 278 = .ok (.bipush 32, 2) := dd127_268.2.2.2.2.2.2.2.1
theorem d127_280 : decode prog_14_method_1_code 280 = .ok (.iastore, 1) := dd127_268.2.2.2.2.2.2.2.2.1
theorem d127_281 : decode prog_14_method_1_code 281 = .ok (.dup, 1) := dd127_268.2.2.2.2.2.2.2.2.2.1
theorem d127_282 : decode prog_14_method_1_code 282 = .ok (.bipush 12, 2) := dd127_268.2.2.2.2.2.2.2.2.2.2.1
theorem d127_284 : decode prog_14_method_1_code 284 = .ok (.bipush 100, 2) := dd127_268.2.2.2.2.2.2.2.2.2.2.2.1
theorem d127_286 : decode prog_14_method_1_code 286 = .ok (.iastore, 1) := dd127_268.2.2.2.2.2.2.2.2.2.2.2.2.1
theorem d127_287 : decode prog_14_method_1_code 287 = .ok (.dup, 1) := dd127_268.2.2.2.2.2.2.2.2.2.2.2.2.2.1
theorem d127_288 : decode prog_14_method_1_code 288 = .ok (.bipush 13, 2) := dd127_268.2.2.2.2.2.2.2.2.2.2.2.2.2.2.1
theorem d127_290 : decode prog_14_method_1_code 290 = .ok (.bipush 111, 2) := dd127_268.2.2.2.2.2.2.2.2.2.2.2.2.2.2.2
theorem dd127_292 : (decode prog_14_method_1_code 292 = .ok (.iastore, 1)) ∧ (decode prog_14_method_1_code 293 = .ok (.dup, 1)) ∧ (decode prog_14_method_1_code 294 = .ok (.bipush 14, 2)) ∧ (decode prog_14_method_1_code 296 = .ok (.bipush 119, 2)) ∧ (decode prog_14_method_1_code 298 = .ok (.iastore, 1)) ∧ (decode prog_14_method_1_code 299 = .ok (.dup, 1)) ∧ (decode prog_14_method_1_code 300 = .ok (.bipush 15, 2)) ∧ (decode prog_14_method_1_code 302 = .ok (.bipush 110, 2)) ∧ (decode prog_14_method_1_code 304 = .ok (.iastore, 1)) ∧ (decode prog_14_method_1_code 305 = .ok (.dup, 1)) ∧ (decode prog_14_method_1_code 306 = .ok (.bipush 16, 2)) ∧ (decode prog_14_method_1_code 308 = .ok (.bipush 97, 2)) ∧ (decode prog_14_method_1_code 310 = .ok (.iastore, 1)) ∧ (decode prog_14_method_1_code 311 = .ok (.dup, 1)) ∧ (decode prog_14_method_1_code 312 = .ok (.bipush 17, 2)) ∧ (decode prog_14_method_1_code 314 = .ok (.bipush 119, 2)) := by decide +kernel
theorem d127_292 : decode prog_14_method_1_code 292 = .ok (.iastore, 1) := dd127_292.1
theorem d127_293 : decode prog_14_method_1_code 293 = .ok (.dup, 1) := dd127_292.2.1
theorem d127_294 : decode prog_14_method_1_code 294 = .ok (.bipush 14, 2) := dd127_292.2.2.1
theorem d127_296 : decode prog_14_method_1_code 296 = .ok (.bipush 119, 2) := dd127_292.2.2.2.1
theorem d127_298 : decode prog_14_method_1_code 298 = .ok (.iastore, 1) := dd127_292.2.2.2.2.1
theorem d127_299 : decode prog_14_method_1_code 299 = .ok (.dup, 1) := dd127_292.2.2.2.2.2.1
theorem d127_300 : decode prog_14_method_1_code 300 = .ok (.bipush 15, 2) := dd127_292.2.2.2.2.2.2.1
theorem d127_302 : decode prog_14_method_1_code 302 = .ok (.bipush 110, 2) := dd127_292.2.2.2.2.2.2.2.1
theorem d127_304 : decode prog_14_method_1_code 304 = .ok (.iastore, 1) := dd127_292.2.2.2.2.2.2.2.2.1
theorem d127_305 : decode prog_14_method_1_code 305 = .ok (.dup, 1) := dd127_292.2.2.2.2.2.2.2.2.2.1
theorem d127_306 : decode prog_14_method_1_code 306 = .ok (.bipush 16, 2) := dd127_292.2.2.2.2.2.2.2.2.2.2.1
theorem d127_308 : decode prog_14_method_1_code 308 = .ok (.bipush 97, 2) := dd127_292.2.2.2.2.2.2.2.2.2.2.2.1
theorem d127_310 : decode prog_14_method_1_code 310 = .ok (.iastore, 1) := dd127_292.2.2.2.2.2.2.2.2.2.2.2.2.1
theorem d127_311 : decode prog_14_method_1_code 311 = .ok (.dup, 1) := dd127_292.2.2.2.2.2.2.2.2.2.2.2.2.2.1
theorem d127_312 : decode prog_14_method_1_code 312 = .ok (.bipush 17, 2) := dd127_292.2.2.2.2.2.2.2.2.2.2.2.2.2.2.1
theorem d127_314 : decode prog_14_method_1_code 314 = .ok (.bipush 119, 2) := dd127_292.2.2.2.2.2.2.2.2.2.2.2.2.2.2.2
theorem dd127_316 : (decode prog_14_method_1_code 316 = .ok (.iastore, 1)) ∧ (decode prog_14_method_1_code 317 = .ok (.dup, 1)) ∧ (decode prog_14_method_1_code 318 = .ok (.bipush 18, 2)) ∧ (decode prog_14_method_1_code 320 = .ok (.bipush 97, 2)) ∧ (decode prog_14_method_1_code 322 = .ok (.iastore, 1)) ∧ (decode prog_14_method_1_code 323 = .ok (.dup, 1)) ∧ (decode prog_14_method_1_code 324 = .ok (.bipush 19, 2)) ∧ (decode prog_14_method_1_code 326 = .ok (.bipush 121, 2)) ∧ (decode prog_14_method_1_code 328 = .ok (.iastore, 1)) ∧ (decode prog_14_method_1_code 329 = .ok (.dup, 1)) ∧ (decode prog_14_method_1_code 330 = .ok (.bipush 20, 2)) ∧ (decode prog_14_method_1_code 332 = .ok (.bipush 102, 2)) ∧ (decode prog_14_method_1_code 334 = .ok (.iastore, 1)) ∧ (decode prog_14_method_1_code 335 = .ok (.dup, 1)) ∧ (decode prog_14_method_1_code 336 = .ok (.bipush 21, 2)) ∧ (decode prog_14_method_1_code 338 = .ok (.bipush 101, 2)) := by decide +kernel
theorem d127_316 : decode prog_14_method_1_code 316 = .ok (.iastore, 1) := dd127_316.1
theorem d127_317 : decode prog_14_method_1_code 317 = .ok (.dup, 1) := dd127_316.2.1
theorem d127_318 : decode prog_14_method_1_code 318 = .ok (.bipush 18, 2) := dd127_316.2.2.1
theorem d127_320 : decode prog_14_method_1_code 320 = .ok (.bipush 97, 2) := dd127_316.2.2.2.1
theorem d127_322 : decode prog_14_method_1_code 322 = .ok (.iastore, 1) := dd127_316.2.2.2.2.1
theorem d127_323 : decode prog_14_method_1_code 323 = .ok (.dup, 1) := dd127_316.2.2.2.2.2.1
theorem d127_324 : decode prog_14_method_1_code 324 = .ok (.bipush 19, 2) := dd127_316.2.2.2.2.2.2.1
theorem d127_326 : decode prog_14_method_1_code 326 = .ok (.bipush 121, 2) := dd127_316.2.2.2.2.2.2.2.1
theorem d127_328 : decode prog_14_method_1_code 328 = .ok (.iastore, 1) := dd127_316.2.2.2.2.2.2.2.2.1
theorem d127_329 : decode prog_14_method_1_code 329 = .ok (.dup, 1) := dd127_316.2.2.2.2.2.2.2.2.2.1
theorem d127_330 : decode prog_14_method_1_code 330 = .ok (.bipush 20, 2) := dd127_316.2.2.2.2.2.2.2.2.2.2.1
theorem d127_332 : decode prog_14_method_1_code 332 = .ok (.bipush 102, 2) := dd127_316.2.2.2.2.2.2.2.2.2.2.2.1
theorem d127_334 : decode prog_14_method_1_code 334 = .ok (.iastore, 1) := dd127_316.2.2.2.2.2.2.2.2.2.2.2.2.1
theorem d127_335 : decode prog_14_method_1_code 335 = .ok (.dup, 1) := dd127_316.2.2.2.2.2.2.2.2.2.2.2.2.2.1
theorem d127_336 : decode prog_14_method_1_code 336 = .ok (.bipush 21, 2) := dd127_316.2.2.2.2.2.2.2.2.2.2.2.2.2.2.1
theorem d127_338 : decode prog_14_method_1_code 338 = .ok (.bipush 101, 2) := dd127_316.2.2.2.2.2.2.2.2.2.2.2.2.2.2.2
theorem dd127_340 : (decode prog_14_method_1_code 340 = .ok (.iastore, 1)) ∧ (decode prog_14_method_1_code 341 = .ok (.dup, 1)) ∧ (decode prog_14_method_1_code 342 = .ok (.bipush 22, 2)) ∧ (decode prog_14_method_1_code 344 = .ok (.bipush 101, 2)) ∧ (decode prog_14_method_1_code 346 = .ok (.iastore, 1)) ∧ (decode prog_14_method_1_code 347 = .ok (.dup, 1)) ∧ (decode prog_14_method_1_code 348 = .ok (.bipush 23, 2)) ∧ (decode prog_14_method_1_code 350 = .ok (.bipush 32, 2)) ∧ (decode prog_14_method_1_code 352 = .ok (.iastore, 1)) ∧ (decode prog_14_method_1_code 353 = .ok (.putfield 86, 3)) ∧ (decode prog_14_method_1_code 356 = .ok (.aload_n 0, 1)) ∧ (decode prog_14_method_1_code 357 = .ok (.bipush 6, 2)) ∧ (decode prog_14_method_1_code 359 = .ok (.newarray .int, 2)) ∧ (decode prog_14_method_1_code 361 = .ok (.dup, 1)) ∧ (decode prog_14_method_1_code 362 = .ok (.iconst 0, 1)) ∧ (decode prog_14_method_1_code 363 = .ok (.iconst 4, 1)) := by decide +kernel
theorem d127_340 : decode prog_14_method_1_code 340 = .ok (.iastore, 1) := dd127_340.1
theorem d127_341 : decode prog_14_method_1_code 341 = .ok (.dup, 1) := dd127_340.2.1
theorem d127_342 : decode prog_14_method_1_code 342 = .ok (.bipush 22, 2) := dd127_340.2.2.1
theorem d127_344 : decode prog_14_method_1_code 344 = .ok (.bipush 101, 2) := dd127_340.2.2.2.1
theorem d127_346 : decode prog_14_method_1_code 346 = .ok (.iastore, 1) := dd127_340.2.2.2.2.1
theorem d127_347 : decode prog_14_method_1_code 347 = .ok (.dup, 1) := dd127_340.2.2.2.2.2.1
theorem d127_348 : decode prog_14_method_1_code 348 = .ok (.bipush 23, 2) := dd127_340.2.2.2.2.2.2.1
theorem d127_350 : decode prog_14_method_1_code 350 = .ok (.bipush 32, 2) := dd127_340.2.2.2.2.2.2.2.1
theorem d127_352 : decode prog_14_method_1_code 352 = .ok (.iastore, 1) := dd127_340.2.2.2.2.2.2.2.2.1
theorem d127_353 : decode prog_14_method_1_code 353 = .ok (.putfield 86, 3) := dd127_340.2.2.2.2.2.2.2.2.2.1
theorem d127_356 : decode prog_14_method_1_code 356 = .ok (.aload_n 0, 1) := dd127_340.2.2.2.2.2.2.2.2.2.2.1
theorem d127_357 : decode prog_14_method_1_code 357 = .ok (.bipush 6, 2) := dd127_340.2.2.2.2.2.2.2.2.2.2.2.1
theorem d127_359 : decode prog_14_method_1_code 359 = .ok (.newarray .int, 2) := dd127_340.2.2.2.2.2.2.2.2.2.2.2.2.1
theorem d127_361 : decode prog_14_method_1_code 361 = .ok (.dup, 1) := dd127_340.2.2.2.2.2.2.2.2.2.2.2.2.2.1
theorem d127_362 : decode prog_14_method_1_code 362 = .ok (.iconst 0, 1) := dd127_340.2.2.2.2.2.2.2.2.2.2.2.2.2.2.1
theorem d127_363 : decode prog_14_method_1_code 363 = .ok (.iconst 4, 1) := dd127_340.2.2.2.2.2.2.2.2.2.2.2.2.2.2.2
theorem dd127_364 : (decode prog_14_method_1_code 364 = .ok (.iastore, 1)) ∧ (decode prog_14_method_1_code 365 = .ok (.dup, 1)) ∧ (decode prog_14_method_1_code 366 = .ok (.iconst 1, 1)) ∧ (decode prog_14_method_1_code 367 = .ok (.iconst 4, 1)) ∧ (decode prog_14_method_1_code 368 = .ok (.iastore, 1)) ∧ (decode prog_14_method_1_code 369 = .ok (.dup, 1)) ∧ (decode prog_14_method_1_code 370 = .ok (.iconst 2, 1)) ∧ (decode prog_14_method_1_code 371 = .ok (.iconst 2, 1)) ∧ (decode prog_14_method_1_code 372 = .ok (.iastore, 1)) ∧ (decode prog_14_method_1_code 373 = .ok (.dup, 1)) ∧ (decode prog_14_method_1_code 374 = .ok (.iconst 3, 1)) ∧ (decode prog_14_method_1_code 375 = .ok (.iconst 4, 1)) ∧ (decode prog_14_method_1_code 376 = .ok (.iastore, 1)) ∧ (decode prog_14_method_1_code 377 = .ok (.dup, 1)) ∧ (decode prog_14_method_1_code 378 = .ok (.iconst 4, 1)) ∧ (decode prog_14_method_1_code 379 = .ok (.iconst 4, 1)) := by decide +kernel
theorem d127_364 : decode prog_14_method_1_code 364 = .ok (.iastore, 1) := dd127_364.1
theorem d127_365 : decode prog_14_method_1_code 365 = .ok (.dup, 1) := dd127_364.2.1
theorem d127_366 : decode prog_14_method_1_code 366 = .ok (.iconst 1, 1) := dd127_364.2.2.1
theorem d127_367 : decode prog_14_method_1_code 367 = .ok (.iconst 4, 1) := dd127_364.2.2.2.1
theorem d127_368 : decode prog_14_method_1_code 368 = .ok (.iastore, 1) := dd127_364.2.2.2.2.1
theorem d127_369 : decode prog_14_method_1_code 369 = .ok (.dup, 1) := dd127_364.2.2.2.2.2.1
theorem d127_370 : decode prog_14_method_1_code 370 = .ok (.iconst 2, 1) := dd127_364.2.2.2.2.2.2.1
theorem d127_371 : decode prog_14_method_1_code 371 = .ok (.iconst 2, 1) := dd127_364.2.2.2.2.2.2.2.1
theorem d127_372 : decode prog_14_method_1_code 372 = .ok (.iastore, 1) := dd127_364.2.2.2.2.2.2.2.2.1
theorem d127_373 : decode prog_14_method_1_code 373 = .ok (.dup, 1) := dd127_364.2.2.2.2.2.2.2.2.2.1
theorem d127_374 : decode prog_14_method_1_code 374 = .ok (.iconst 3, 1) := dd127_364.2.2.2.2.2.2.2.2.2.2.1
theorem d127_375 : decode prog_14_method_1_code 375 = .ok (.iconst 4, 1) := dd127_364.2.2.2.2.2.2.2.2.2.2.2.1
theorem d127_376 : decode prog_14_method_1_code 376 = .ok (.iastore, 1) := dd127_364.2.2.2.2.2.2.2.2.2.2.2.2.1
theorem d127_377 : decode prog_14_method_1_code 377 = .ok (.dup, 1) := dd127_364.2.2.2.2.2.2.2.2.2.2.2.2.2.1
theorem d127_378 : decode prog_14_method_1_code 378 = .ok (.iconst 4, 1) := dd127_364.2.2.2.2.2.2.2.2.2.2.2.2.2.2.1
theorem d127_379 : decode prog_14_method_1_code 379 = .ok (.iconst 4, 1) := dd127_364.2.2.2.2.2.2.2.2.2.2.2.2.2.2.2
theorem dd127_380 : (decode prog_14_method_1_code 380 = .ok (.iastore, 1)) ∧ (decode prog_14_method_1_code 381 = .ok (.dup, 1)) ∧ (decode prog_14_method_1_code 382 = .ok (.iconst 5, 1)) ∧ (decode prog_14_method_1_code 383 = .ok (.iconst 3, 1)) ∧ (decode prog_14_method_1_code 384 = .ok (.iastore, 1)) ∧ (decode prog_14_method_1_code 385 = .ok (.putfield 89, 3)) ∧ (decode prog_14_method_1_code 388 = .ok (.aload_n 0, 1)) ∧ (decode prog_14_method_1_code 389 = .ok (.bipush 7, 2)) ∧ (decode prog_14_method_1_code 391 = .ok (.newarray .int, 2)) ∧ (decode prog_14_method_1_code 393 = .ok (.dup, 1)) ∧ (decode prog_14_method_1_code 394 = .ok (.iconst 0, 1)) ∧ (decode prog_14_method_1_code 395 = .ok (.bipush 98, 2)) ∧ (decode prog_14_method_1_code 397 = .ok (.iastore, 1)) ∧ (decode prog_14_method_1_code 398 = .ok (.dup, 1)) ∧ (decode prog_14_method_1_code 399 = .ok (.iconst 1, 1)) ∧ (decode prog_14_method_1_code 400 = .ok (.bipush 107, 2)) := by decide +kernel
theorem d127_380 : decode prog_14_method_1_code 380 = .ok (.iastore, 1) := dd127_380.1
theorem d127_381 : decode prog_14_method_1_code 381 = .ok (.dup, 1) := dd127_380.2.1
theorem d127_382 : decode prog_14_method_1_code 382 = .ok (.iconst 5, 1) := dd127_380.2.2.1
theorem d127_383 : decode prog_14_method_1_code 383 = .ok (.iconst 3, 1) := dd127_380.2.2.2.1
theorem d127_384 : decode prog_14_method_1_code 384 = .ok (.iastore, 1) := dd127_380.2.2.2.2.1
theorem d127_385 : decode prog_14_method_1_code 385 = .ok (.putfield 89, 3) := dd127_380.2.2.2.2.2.1
theorem d127_388 : decode prog_14_method_1_code 388 = .ok (.aload_n 0, 1) := dd127_380.2.2.2.2.2.2.1
theorem d127_389 : decode prog_14_method_1_code 389 = .ok (.bipush 7, 2) := dd127_380.2.2.2.2.2.2.2.1
theorem d127_391 : decode prog_14_method_1_code 391 = .ok (.newarray .int, 2) := dd127_380.2.2.2.2.2.2.2.2.1
theorem d127_393 : decode prog_14_method_1_code 393 = .ok (.dup, 1) := dd127_380.2.2.2.2.2.2.2.2.2.1
theorem d127_394 : decode prog_14_method_1_code 394 = .ok (.iconst 0, 1) := dd127_380.2.2.2.2.2.2.2.2.2.2.1
theorem d127_395 : decode prog_14_method_1_code 395 = .ok (.bipush 98, 2) := dd127_380.2.2.2.2.2.2.2.2.2.2.2.1
theorem d127_397 : decode prog_14_method_1_code 397 = .ok (.iastore, 1) := dd127_380.2.2.2.2.2.2.2.2.2.2.2.2.1
theorem d127_398 : decode prog_14_method_1_code 398 = .ok (.dup, 1) := dd127_380.2.2.2.2.2.2.2.2.2.2.2.2.2.1
theorem d127_399 : decode prog_14_method_1_code 399 = .ok (.iconst 1, 1) := dd127_380.2.2.2.2.2.2.2.2.2.2.2.2.2.2.1
theorem d127_400 : decode prog_14_method_1_code 400 = .ok (.bipush 107, 2) := dd127_380.2.2.2.2.2.2.2.2.2.2.2.2.2.2.2
theorem dd127_402 : (decode prog_14_method_1_code 402 = .ok (.iastore, 1)) ∧ (decode prog_14_method_1_code 403 = .ok (.dup, 1)) ∧ (decode prog_14_method_1_code 404 = .ok (.iconst 2, 1)) ∧ (decode prog_14_method_1_code 405 = .ok (.bipush 112, 2)) ∧ (decode prog_14_method_1_code 407 = .ok (.iastore, 1)) ∧ (decode prog_14_method_1_code 408 = .ok (.dup, 1)) ∧ (decode prog_14_method_1_code 409 = .ok (.iconst 3, 1)) ∧ (decode prog_14_method_1_code 410 = .ok (.bipush 108, 2)) ∧ (decode prog_14_method_1_code 412 = .ok (.iastore, 1)) ∧ (decode prog_14_method_1_code 413 = .ok (.dup, 1)) ∧ (decode prog_14_method_1_code 414 = .ok (.iconst 4, 1)) ∧ (decode prog_14_method_1_code 415 = .ok (.bipush 114, 2)) ∧ (decode prog_14_method_1_code 417 = .ok (.iastore, 1)) ∧ (decode prog_14_method_1_code 418 = .ok (.dup, 1)) ∧ (decode prog_14_method_1_code 419 = .ok (.iconst 5, 1)) ∧ (decode prog_14_method_1_code 420 = .ok (.bipush 97, 2)) := by decide +kernel
theorem d127_402 : decode prog_14_method_1_code 402 = .ok (.iastore, 1) := dd127_402.1
theorem d127_403 : decode prog_14_method_1_code 403 = .ok (.dup, 1) := dd127_402.2.1
theorem d127_404 : decode prog_14_method_1_code 404 = .ok (.iconst 2, 1) := dd127_402.2.2.1
theorem d127_405 : decode prog_14_method_1_code 405 = .ok (.bipush 112, 2) := dd127_402.2.2.2.1
theorem d127_407 : decode prog_14_method_1_code 407 = .ok (.iastore, 1) := dd127_402.2.2.2.2.1
theorem d127_408 : decode prog_14_method_1_code 408 = .ok (.dup, 1) := dd127_402.2.2.2.2.2.1
theorem d127_409 : decode prog_14_method_1_code 409 = .ok (.iconst 3, 1) := dd127_402.2.2.2.2.2.2.1
theorem d127_410 : decode prog_14_method_1_code 410 = .ok (.bipush 108, 2) := dd127_402.2.2.2.2.2.2.2.1
theorem d127_412 : decode prog_14_method_1_code 412 = .ok (.iastore, 1) := dd127_402.2.2.2.2.2.2.2.2.1
theorem d127_413 : decode prog_14_method_1_code 413 = .ok (.dup, 1) := dd127_402.2.2.2.2.2.2.2.2.2.1
theorem d127_414 : decode prog_14_method_1_code 414 = .ok (.iconst 4, 1) := dd127_402.2.2.2.2.2.2.2.2.2.2.1
theorem d127_415 : decode prog_14_method_1_code 415 = .ok (.bipush 114, 2) := dd127_402.2.2.2.2.2.2.2.2.2.2.2.1
theorem d127_417 : decode prog_14_method_1_code 417 = .ok (.iastore, 1) := dd127_402.2.2.2.2.2.2.2.2.2.2.2.2.1
theorem d127_418 : decode prog_14_method_1_code 418 = .ok (.dup, 1) := dd127_402.2.2.2.2.2.2.2.2.2.2.2.2.2.1
theorem d127_419 : decode prog_14_method_1_code 419 = .ok (.iconst 5, 1) := dd127_402.2.2.2.2.2.2.2.2.2.2.2.2.2.2.1
theorem d127_420 : decode prog_14_method_1_code 420 = .ok (.bipush 97, 2) := dd127_402.2.2.2.2.2.2.2.2.2.2.2.2.2.2.2
theorem dd127_422 : (decode prog_14_method_1_code 422 = .ok (.iastore, 1)) ∧ (decode prog_14_method_1_code 423 = .ok (.dup, 1)) ∧ (decode prog_14_method_1_code 424 = .ok (.bipush 6, 2)) ∧ (decode prog_14_method_1_code 426 = .ok (.bipush 102, 2)) ∧ (decode prog_14_method_1_code 428 = .ok (.iastore, 1)) ∧ (decode prog_14_method_1_code 429 = .ok (.putfield 92, 3)) ∧ (decode prog_14_method_1_code 432 = .ok (.aload_n 0, 1)) ∧ (decode prog_14_method_1_code 433 = .ok (.bipush 110, 2)) ∧ (decode prog_14_method_1_code 435 = .ok (.newarray .int, 2)) ∧ (decode prog_14_method_1_code 437 = .ok (.putfield 95, 3)) ∧ (decode prog_14_method_1_code 440 = .ok (.aload_n 0, 1)) ∧ (decode prog_14_method_1_code 441 = .ok (.bipush 110, 2)) ∧ (decode prog_14_method_1_code 443 = .ok (.newarray .boolean, 2)) ∧ (decode prog_14_method_1_code 445 = .ok (.putfield 98, 3)) ∧ (decode prog_14_method_1_code 448 = .ok (.aload_n 0, 1)) ∧ (decode prog_14_method_1_code 449 = .ok (.bipush 6, 2)) := by decide +kernel
theorem d127_422 : decode prog_14_method_1_code 422 = .ok (.iastore, 1) := dd127_422.1
theorem d127_423 : decode prog_14_method_1_code 423 = .ok (.dup, 1) := dd127_422.2.1
theorem d127_424 : decode prog_14_method_1_code 424 = .ok (.bipush 6, 2) := dd127_422.2.2.1
theorem d127_426 : decode prog_14_method_1_code 426 = .ok (.bipush 102, 2) := dd127_422.2.2.2.1
theorem d127_428 : decode prog_14_method_1_code 428 = .ok (.iastore, 1) := dd127_422.2.2.2.2.1
theorem d127_429 : decode prog_14_method_1_code 429 = .ok (.putfield 92, 3) := dd127_422.2.2.2.2.2.1
theorem d127_432 : decode prog_14_method_1_code 432 = .ok (.aload_n 0, 1) := dd127_422.2.2.2.2.2.2.1
theorem d127_433 : decode prog_14_method_1_code 433 = .ok (.bipush 110, 2) := dd127_422.2.2.2.2.2.2.2.1
theorem d127_435 : decode prog_14_method_1_code 435 = .ok (.newarray .int, 2) := dd127_422.2.2.2.2.2.2.2.2.1
theorem d127_437 : decode prog_14_method_1_code 437 = .ok (.putfield 95, 3) := dd127_422.2.2.2.2.2.2.2.2.2.1
theorem d127_440 : decode prog_14_method_1_code 440 = .ok (.aload_n 0, 1) := dd127_422.2.2.2.2.2.2.2.2.2.2.1
theorem d127_441 : decode prog_14_method_1_code 441 = .ok (.bipush 110, 2) := dd127_422.2.2.2.2.2.2.2.2.2.2.2.1
theorem d127_443 : decode prog_14_method_1_code 443 = .ok (.newarray .boolean, 2) := dd127_422.2.2.2.2.2.2.2.2.2.2.2.2.1
theorem d127_445 : decode prog_14_method_1_code 445 = .ok (.putfield 98, 3) := dd127_422.2.2.2.2.2.2.2.2.2.2.2.2.2.1
theorem d127_448 : decode prog_14_method_1_code 448 = .ok (.aload_n 0, 1) := dd127_422.2.2.2.2.2.2.2.2.2.2.2.2.2.2.1
theorem d127_449 : decode prog_14_method_1_code 449 = .ok (.bipush 6, 2) := dd127_422.2.2.2.2.2.2.2.2.2.2.2.2.2.2.2
theorem dd127_451 : (decode prog_14_method_1_code 451 = .ok (.newarray .int, 2)) ∧ (decode prog_14_method_1_code 453 = .ok (.putfield 102, 3)) ∧ (decode prog_14_method_1_code 456 = .ok (.aload_n 0, 1)) ∧ (decode prog_14_method_1_code 457 = .ok (.bipush 6, 2)) ∧ (decode prog_14_method_1_code 459 = .ok (.newarray .int, 2)) ∧ (decode prog_14_method_1_code 461 = .ok (.putfield 105, 3)) ∧ (decode prog_14_method_1_code 464 = .ok (.aload_n 0, 1)) ∧ (decode prog_14_method_1_code 465 = .ok (.bipush 6, 2)) ∧ (decode prog_14_method_1_code 467 = .ok (.newarray .int, 2)) ∧ (decode prog_14_method_1_code 469 = .ok (.putfield 108, 3)) ∧ (decode prog_14_method_1_code 472 = .ok (.aload_n 0, 1)) ∧ (decode prog_14_method_1_code 473 = .ok (.bipush 6, 2)) ∧ (decode prog_14_method_1_code 475 = .ok (.newarray .int, 2)) ∧ (decode prog_14_method_1_code 477 = .ok (.putfield 111, 3)) ∧ (decode prog_14_method_1_code 480 = .ok (.aload_n 0, 1)) ∧ (decode prog_14_method_1_code 481 = .ok (.bipush 78, 2)) := by decide +kernel
theorem d127_451 : decode prog_14_method_1_code 451 = .ok (.newarray .int, 2) := dd127_451.1
theorem d127_453 : decode prog_14_method_1_code 453 = .ok (.putfield 102, 3) := dd127_451.2.1
theorem d127_456 : decode prog_14_method_1_code 456 = .ok (.aload_n 0, 1) := dd127_451.2.2.1
theorem d127_457 : decode prog_14_method_1_code 457 = .ok (.bipush 6, 2) := dd127_451.2.2.2.1
theorem d127_459 : decode prog_14_method_1_code 459 = .ok (.newarray .int, 2) := dd127_451.2.2.2.2.1
theorem d127_461 : decode prog_14_method_1_code 461 = .ok (.putfield 105, 3) := dd127_451.2.2.2.2.2.1
theorem d127_464 : decode prog_14_method_1_code 464 = .ok (.aload_n 0, 1) := dd127_451.2.2.2.2.2.2.1
theorem d127_465 : decode prog_14_method_1_code 465 = .ok (.bipush 6, 2) := dd127_451.2.2.2.2.2.2.2.1
theorem d127_467 : decode prog_14_method_1_code 467 = .ok (.newarray .int, 2) := dd127_451.2.2.2.2.2.2.2.2.1
theorem d127_469 : decode prog_14_method_1_code 469 = .ok (.putfield 108, 3) := dd127_451.2.2.2.2.2.2.2.2.2.1
theorem d127_472 : decode prog_14_method_1_code 472 = .ok (.aload_n 0, 1) := dd127_451.2.2.2.2.2.2.2.2.2.2.1
theorem d127_473 : decode prog_14_method_1_code 473 = .ok (.bipush 6, 2) := dd127_451.2.2.2.2.2.2.2.2.2.2.2.1
theorem d127_475 : decode prog_14_method_1_code 475 = .ok (.newarray .int, 2) := dd127_451.2.2.2.2.2.2.2.2.2.2.2.2.1
theorem d127_477 : decode prog_14_method_1_code 477 = .ok (.putfield 111, 3) := dd127_451.2.2.2.2.2.2.2.2.2.2.2.2.2.1
theorem d127_480 : decode prog_14_method_1_code 480 = .ok (.aload_n 0, 1) := dd127_451.2.2.2.2.2.2.2.2.2.2.2.2.2.2.1
theorem d127_481 : decode prog_14_method_1_code 481 = .ok (.bipush 78, 2) := dd127_451.2.2.2.2.2.2.2.2.2.2.2.2.2.2.2
theorem dd127_483 : (decode prog_14_method_1_code 483 = .ok (.newarray .int, 2)) ∧ (decode prog_14_method_1_code 485 = .ok (.putfield 114, 3)) ∧ (decode prog_14_method_1_code 488 = .ok (.aload_n 0, 1)) ∧ (decode prog_14_method_1_code 489 = .ok (.bipush 78, 2)) ∧ (decode prog_14_method_1_code 491 = .ok (.newarray .int, 2)) ∧ (decode prog_14_method_1_code 493 = .ok (.putfield 117, 3)) ∧ (decode prog_14_method_1_code 496 = .ok (.aload_n 0, 1)) ∧ (decode prog_14_method_1_code 497 = .ok (.bipush 78, 2)) ∧ (decode prog_14_method_1_code 499 = .ok (.newarray .int, 2)) ∧ (decode prog_14_method_1_code 501 = .ok (.putfield 120, 3)) ∧ (decode prog_14_method_1_code 504 = .ok (.aload_n 0, 1)) ∧ (decode prog_14_method_1_code 505 = .ok (.bipush 65, 2)) ∧ (decode prog_14_method_1_code 507 = .ok (.newarray .int, 2)) ∧ (decode prog_14_method_1_code 509 = .ok (.putfield 123, 3)) ∧ (decode prog_14_method_1_code 512 = .ok (.aload_n 0, 1)) ∧ (decode prog_14_method_1_code 513 = .ok (.bipush 6, 2)) := by decide +kernel
theorem d127_483 : decode prog_14_method_1_code 483 = .ok (.newarray .int, 2) := dd127_483.1
theorem d127_485 : decode prog_14_method_1_code 485 = .ok (.putfield 114, 3) := dd127_483.2.1
theorem d127_488 : decode prog_14_method_1_code 488 = .ok (.aload_n 0, 1) := dd127_483.2.2.1
theorem d127_489 : decode prog_14_method_1_code 489 = .ok (.bipush 78, 2) := dd127_483.2.2.2.1
theorem d127_491 : decode prog_14_method_1_code 491 = .ok (.newarray .int, 2) := dd127_483.2.2.2.2.1
theorem d127_493 : decode prog_14_method_1_code 493 = .ok (.putfield 117, 3) := dd127_483.2.2.2.2.2.1
theorem d127_496 : decode prog_14_method_1_code 496 = .ok (.aload_n 0, 1) := dd127_483.2.2.2.2.2.2.1
theorem d127_497 : decode prog_14_method_1_code 497 = .ok (.bipush 78, 2) := dd127_483.2.2.2.2.2.2.2.1
theorem d127_499 : decode prog_14_method_1_code 499 = .ok (.newarray .int, 2) := dd127_483.2.2.2.2.2.2.2.2.1
theorem d127_501 : decode prog_14_method_1_code 501 = .ok (.putfield 120, 3) := dd127_483.2.2.2.2.2.2.2.2.2.1
theorem d127_504 : decode prog_14_method_1_code 504 = .ok (.aload_n 0, 1) := dd127_483.2.2.2.2.2.2.2.2.2.2.1
theorem d127_505 : decode prog_14_method_1_code 505 = .ok (.bipush 65, 2) := dd127_483.2.2.2.2.2.2.2.2.2.2.2.1
theorem d127_507 : decode prog_14_method_1_code 507 = .ok (.newarray .int, 2) := dd127_483.2.2.2.2.2.2.2.2.2.2.2.2.1
theorem d127_509 : decode prog_14_method_1_code 509 = .ok (.putfield 123, 3) := dd127_483.2.2.2.2.2.2.2.2.2.2.2.2.2.1
theorem d127_512 : decode prog_14_method_1_code 512 = .ok (.aload_n 0, 1) := dd127_483.2.2.2.2.2.2.2.2.2.2.2.2.2.2.1
theorem d127_513 : decode prog_14_method_1_code 513 = .ok (.bipush 6, 2) := dd127_483.2.2.2.2.2.2.2.2.2.2.2.2.2.2.2
theorem dd127_515 : (decode prog_14_method_1_code 515 = .ok (.newarray .int, 2)) ∧ (decode prog_14_method_1_code 517 = .ok (.putfield 126, 3)) ∧ (decode prog_14_method_1_code 520 = .ok (.aload_n 0, 1)) ∧ (decode prog_14_method_1_code 521 = .ok (.bipush 6, 2)) ∧ (decode prog_14_method_1_code 523 = .ok (.newarray .int, 2)) ∧ (decode prog_14_method_1_code 525 = .ok (.putfield 129, 3)) ∧ (decode prog_14_method_1_code 528 = .ok (.aload_n 0, 1)) ∧ (decode prog_14_method_1_code 529 = .ok (.bipush 6, 2)) ∧ (decode prog_14_method_1_code 531 = .ok (.newarray .int, 2)) ∧ (decode prog_14_method_1_code 533 = .ok (.putfield 132, 3)) ∧ (decode prog_14_method_1_code 536 = .ok (.aload_n 0, 1)) ∧ (decode prog_14_method_1_code 537 = .ok (.bipush 6, 2)) ∧ (decode prog_14_method_1_code 539 = .ok (.newarray .int, 2)) ∧ (decode prog_14_method_1_code 541 = .ok (.putfield 135, 3)) ∧ (decode prog_14_method_1_code 544 = .ok (.aload_n 0, 1)) ∧ (decode prog_14_method_1_code 545 = .ok (.bipush 6, 2)) := by decide +kernel
theorem d127_515 : decode prog_14_method_1_code 515 = .ok (.newarray .int, 2) := dd127_515.1
theorem d127_517 : decode prog_14_method_1_code 517 = .ok (.putfield 126, 3) := dd127_515.2.1
theorem d127_520 : decode prog_14_method_1_code 520 = .ok (.aload_n 0, 1) := dd127_515.2.2.1
theorem d127_521 : decode prog_14_method_1_code 521 = .ok (.bipush 6, 2) := dd127_515.2.2.2.1
theorem d127_523 : decode prog_14_method_1_code 523 = .ok (.newarray .int, 2) := dd127_515.2.2.2.2.1
theorem d127_525 : decode prog_14_method_1_code 525 = .ok (.putfield 129, 3) := dd127_515.2.2.2.2.2.1
theorem d127_528 : decode prog_14_method_1_code 528 = .ok (.aload_n 0, 1) := dd127_515.2.2.2.2.2.2.1
theorem d127_529 : decode prog_14_method_1_code 529 = .ok (.bipush 6, 2) := dd127_515.2.2.2.2.2.2.2.1
theorem d127_531 : decode prog_14_method_1_code 531 = .ok (.newarray .int, 2) := dd127_515.2.2.2.2.2.2.2.2.1
theorem d127_533 : decode prog_14_method_1_code 533 = .ok (.putfield 132, 3) := dd127_515.2.2.2.2.2.2.2.2.2.1
theorem d127_536 : decode prog_14_method_1_code 536 = .ok (.aload_n 0, 1) := dd127_515.2.2.2.2.2.2.2.2.2.2.1
theorem d127_537 : decode prog_14_method_1_code 537 = .ok (.bipush 6, 2) := dd127_515.2.2.2.2.2.2.2.2.2.2.2.1
theorem d127_539 : decode prog_14_method_1_code 539 = .ok (.newarray .int, 2) := dd127_515.2.2.2.2.2.2.2.2.2.2.2.2.1
theorem d127_541 : decode prog_14_method_1_code 541 = .ok (.putfield 135, 3) := dd127_515.2.2.2.2.2.2.2.2.2.2.2.2.2.1
theorem d127_544 : decode prog_14_method_1_code 544 = .ok (.aload_n 0, 1) := dd127_515.2.2.2.2.2.2.2.2.2.2.2.2.2.2.1
theorem d127_545 : decode prog_14_method_1_code 545 = .ok (.bipush 6, 2) := dd127_515.2.2.2.2.2.2.2.2.2.2.2.2.2.2.2
theorem dd127_547 : (decode prog_14_method_1_code 547 = .ok (.newarray .int, 2)) ∧ (decode prog_14_method_1_code 549 = .ok (.putfield 138, 3)) ∧ (decode prog_14_method_1_code 552 = .ok (.aload_n 0, 1)) ∧ (decode prog_14_method_1_code 553 = .ok (.bipush 6, 2)) ∧ (decode prog_14_method_1_code 555 = .ok (.newarray .int, 2)) ∧ (decode prog_14_method_1_code 557 = .ok (.putfield 141, 3)) ∧ (decode prog_14_method_1_code 560 = .ok (.aload_n 0, 1)) ∧ (decode prog_14_method_1_code 561 = .ok (.bipush 18, 2)) ∧ (decode prog_14_method_1_code 563 = .ok (.newarray .int, 2)) ∧ (decode prog_14_method_1_code 565 = .ok (.putfield 144, 3)) ∧ (decode prog_14_method_1_code 568 = .ok (.aload_n 0, 1)) ∧ (decode prog_14_method_1_code 569 = .ok (.bipush 6, 2)) ∧ (decode prog_14_method_1_code 571 = .ok (.newarray .int, 2)) ∧ (decode prog_14_method_1_code 573 = .ok (.putfield 147, 3)) ∧ (decode prog_14_method_1_code 576 = .ok (.aload_n 0, 1)) ∧ (decode prog_14_method_1_code 577 = .ok (.iconst 5, 1)) := by decide +kernel
theorem d127_547 : decode prog_14_method_1_code 547 = .ok (.newarray .int, 2) := dd127_547.1
theorem d127_549 : decode prog_14_method_1_code 549 = .ok (.putfield 138, 3) := dd127_547.2.1
theorem d127_552 : decode prog_14_method_1_code 552 = .ok (.aload_n 0, 1) := dd127_547.2.2.1
theorem d127_553 : decode prog_14_method_1_code 553 = .ok (.bipush 6, 2) := dd127_547.2.2.2.1
theorem d127_555 : decode prog_14_method_1_code 555 = .ok (.newarray .int, 2) := dd127_547.2.2.2.2.1
theorem d127_557 : decode prog_14_method_1_code 557 = .ok (.putfield 141, 3) := dd127_547.2.2.2.2.2.1
theorem d127_560 : decode prog_14_method_1_code 560 = .ok (.aload_n 0, 1) := dd127_547.2.2.2.2.2.2.1
theorem d127_561 : decode prog_14_method_1_code 561 = .ok (.bipush 18, 2) := dd127_547.2.2.2.2.2.2.2.1
theorem d127_563 : decode prog_14_method_1_code 563 = .ok (.newarray .int, 2) := dd127_547.2.2.2.2.2.2.2.2.1
theorem d127_565 : decode prog_14_method_1_code 565 = .ok (.putfield 144, 3) := dd127_547.2.2.2.2.2.2.2.2.2.1
theorem d127_568 : decode prog_14_method_1_code 568 = .ok (.aload_n 0, 1) := dd127_547.2.2.2.2.2.2.2.2.2.2.1
theorem d127_569 : decode prog_14_method_1_code 569 = .ok (.bipush 6, 2) := dd127_547.2.2.2.2.2.2.2.2.2.2.2.1
theorem d127_571 : decode prog_14_method_1_code 571 = .ok (.newarray .int, 2) := dd127_547.2.2.2.2.2.2.2.2.2.2.2.2.1
theorem d127_573 : decode prog_14_method_1_code 573 = .ok (.putfield 147, 3) := dd127_547.2.2.2.2.2.2.2.2.2.2.2.2.2.1
theorem d127_576 : decode prog_14_method_1_code 576 = .ok (.aload_n 0, 1) := dd127_547.2.2.2.2.2.2.2.2.2.2.2.2.2.2.1
theorem d127_577 : decode prog_14_method_1_code 577 = .ok (.iconst 5, 1) := dd127_547.2.2.2.2.2.2.2.2.2.2.2.2.2.2.2
theorem dd127_578 : (decode prog_14_method_1_code 578 = .ok (.newarray .int, 2)) ∧ (decode prog_14_method_1_code 580 = .ok (.putfield 150, 3)) ∧ (decode prog_14_method_1_code 583 = .ok (.aload_n 0, 1)) ∧ (decode prog_14_method_1_code 584 = .ok (.bipush 12, 2)) ∧ (decode prog_14_method_1_code 586 = .ok (.newarray .int, 2)) ∧ (decode prog_14_method_1_code 588 = .ok (.putfield 153, 3)) ∧ (decode prog_14_method_1_code 591 = .ok (.aload_n 0, 1)) ∧ (decode prog_14_method_1_code 592 = .ok (.bipush 60, 2)) ∧ (decode prog_14_method_1_code 594 = .ok (.newarray .long, 2)) ∧ (decode prog_14_method_1_code 596 = .ok (.putfield 156, 3)) ∧ (decode prog_14_method_1_code 599 = .ok (.return_, 1)) := by decide +kernel
theorem d127_578 : decode prog_14_method_1_code 578 = .ok (.newarray .int, 2) := dd127_578.1
theorem d127_580 : decode prog_14_method_1_code 580 = .ok (.putfield 150, 3) := dd127_578.2.1
theorem d127_583 : decode prog_14_method_1_code 583 = .ok (.aload_n 0, 1) := dd127_578.2.2.1
theorem d127_584 : decode prog_14_method_1_code 584 = .ok (.bipush 12, 2) := dd127_578.2.2.2.1
theorem d127_586 : decode prog_14_method_1_code 586 = .ok (.newarray .int, 2) := dd127_578.2.2.2.2.1
theorem d127_588 : decode prog_14_method_1_code 588 = .ok (.putfield 153, 3) := dd127_578.2.2.2.2.2.1
theorem d127_591 : decode prog_14_method_1_code 591 = .ok (.aload_n 0, 1) := dd127_578.2.2.2.2.2.2.1
theorem d127_592 : decode prog_14_method_1_code 592 = .ok (.bipush 60, 2) := dd127_578.2.2.2.2.2.2.2.1
theorem d127_594 : decode prog_14_method_1_code 594 = .ok (.newarray .long, 2) := dd127_578.2.2.2.2.2.2.2.2.1
theorem d127_596 : decode prog_14_method_1_code 596 = .ok (.putfield 156, 3) := dd127_578.2.2.2.2.2.2.2.2.2.1
theorem d127_599 : decode prog_14_method_1_code 599 = .ok (.return_, 1) := dd127_578.2.2.2.2.2.2.2.2.2.2
theorem b127_0 {d : Nat} {S : mm_S} {a0 : Nat} (h0 : (!decide (nI 6 < 0) && decide ((nI 6).toNatClampNeg ≤ 1000) && decide (mm_n S < 1000000)) = true) : mm_ex (d + 1) 127 0 [.ref a0] [] S =
    mm_ex (d + 1) 127 9 [.ref a0] [.ref (mm_n S), .ref a0] (mm_nw S 13 (nI 6).toNatClampNeg) :=
  Eq.trans (mx_aload_n t127 d127_0 (x := a0) rfl) <|
  Eq.trans (mx_oinit t127 d127_1 oi12_3 (Nat.le_of_ble_eq_true rfl)) <|
  Eq.trans (mx_aload_n t127 d127_4 (x := a0) rfl) <|
  Eq.trans (mx_bipush t127 d127_5 (v := nI 6) rfl) <|
  (mx_newi t127 d127_7 h0)
theorem b127_9 {d : Nat} {S : mm_S} {a0 : Nat} {p0 : Nat} {p1 : Nat} (h0 : mm_obj S p1 12 = true) (h1 : p0 < mm_n S) : mm_ex d 127 9 [.ref a0] [.ref p0, .ref p1] S =
    mm_ex d 127 15 [.ref a0] [.int (nI 6), .ref a0] (mm_uR S p1 1 (some p0)) :=
  Eq.trans (mx_putr2 t127 d127_9 fl12_9 rfl h0 h1) <|
  Eq.trans (mx_aload_n t127 d127_12 (x := a0) rfl) <|
  (mx_bipush t127 d127_13 (v := nI 6) rfl)
theorem b127_15 {d : Nat} {S : mm_S} {a0 : Nat} {p0 : Int32} {p1 : Nat} (h0 : (!decide (p0 < 0) && decide ((p0).toNatClampNeg ≤ 1000) && decide (mm_n S < 1000000)) = true) : mm_ex d 127 15 [.ref a0] [.int p0, .ref p1] S =
    mm_ex d 127 17 [.ref a0] [.ref (mm_n S), .ref p1] (mm_nw S 13 (p0).toNatClampNeg) :=
  (mx_newi t127 d127_15 h0)
theorem b127_17 {d : Nat} {S : mm_S} {a0 : Nat} {p0 : Nat} {p1 : Nat} (h0 : mm_obj S p1 12 = true) (h1 : p0 < mm_n S) : mm_ex d 127 17 [.ref a0] [.ref p0, .ref p1] S =
    mm_ex d 127 23 [.ref a0] [.int (nI 6), .ref a0] (mm_uR S p1 2 (some p0)) :=
  Eq.trans (mx_putr2 t127 d127_17 fl12_15 rfl h0 h1) <|
  Eq.trans (mx_aload_n t127 d127_20 (x := a0) rfl) <|
  (mx_bipush t127 d127_21 (v := nI 6) rfl)
theorem b127_23 {d : Nat} {S : mm_S} {a0 : Nat} {p0 : Int32} {p1 : Nat} (h0 : (!decide (p0 < 0) && decide ((p0).toNatClampNeg ≤ 1000) && decide (mm_n S < 1000000)) = true) : mm_ex d 127 23 [.ref a0] [.int p0, .ref p1] S =
    mm_ex d 127 25 [.ref a0] [.ref (mm_n S), .ref p1] (mm_nw S 13 (p0).toNatClampNeg) :=
  (mx_newi t127 d127_23 h0)
theorem b127_25 {d : Nat} {S : mm_S} {a0 : Nat} {p0 : Nat} {p1 : Nat} (h0 : mm_obj S p1 12 = true) (h1 : p0 < mm_n S) : mm_ex d 127 25 [.ref a0] [.ref p0, .ref p1] S =
    mm_ex d 127 31 [.ref a0] [.int (nI 6), .ref a0] (mm_uR S p1 3 (some p0)) :=
  Eq.trans (mx_putr2 t127 d127_25 fl12_18 rfl h0 h1) <|
  Eq.trans (mx_aload_n t127 d127_28 (x := a0) rfl) <|
  (mx_bipush t127 d127_29 (v := nI 6) rfl)
theorem b127_31 {d : Nat} {S : mm_S} {a0 : Nat} {p0 : Int32} {p1 : Nat} (h0 : (!decide (p0 < 0) && decide ((p0).toNatClampNeg ≤ 1000) && decide (mm_n S < 1000000)) = true) : mm_ex d 127 31 [.ref a0] [.int p0, .ref p1] S =
    mm_ex d 127 33 [.ref a0] [.ref (mm_n S), .ref p1] (mm_nw S 13 (p0).toNatClampNeg) :=
  (mx_newi t127 d127_31 h0)
theorem b127_33 {d : Nat} {S : mm_S} {a0 : Nat} {p0 : Nat} {p1 : Nat} (h0 : mm_obj S p1 12 = true) (h1 : p0 < mm_n S) : mm_ex d 127 33 [.ref a0] [.ref p0, .ref p1] S =
    mm_ex d 127 39 [.ref a0] [.int (nI 6), .ref a0] (mm_uR S p1 4 (some p0)) :=
  Eq.trans (mx_putr2 t127 d127_33 fl12_21 rfl h0 h1) <|
  Eq.trans (mx_aload_n t127 d127_36 (x := a0) rfl) <|
  (mx_bipush t127 d127_37 (v := nI 6) rfl)
theorem b127_39 {d : Nat} {S : mm_S} {a0 : Nat} {p0 : Int32} {p1 : Nat} (h0 : (!decide (p0 < 0) && decide ((p0).toNatClampNeg ≤ 1000) && decide (mm_n S < 1000000)) = true) : mm_ex d 127 39 [.ref a0] [.int p0, .ref p1] S =
    mm_ex d 127 41 [.ref a0] [.ref (mm_n S), .ref p1] (mm_nw S 13 (p0).toNatClampNeg) :=
  (mx_newi t127 d127_39 h0)
theorem b127_41 {d : Nat} {S : mm_S} {a0 : Nat} {p0 : Nat} {p1 : Nat} (h0 : mm_obj S p1 12 = true) (h1 : p0 < mm_n S) : mm_ex d 127 41 [.ref a0] [.ref p0, .ref p1] S =
    mm_ex d 127 47 [.ref a0] [.int (nI 6), .ref a0] (mm_uR S p1 5 (some p0)) :=
  Eq.trans (mx_putr2 t127 d127_41 fl12_24 rfl h0 h1) <|
  Eq.trans (mx_aload_n t127 d127_44 (x := a0) rfl) <|
  (mx_bipush t127 d127_45 (v := nI 6) rfl)
theorem b127_47 {d : Nat} {S : mm_S} {a0 : Nat} {p0 : Int32} {p1 : Nat} (h0 : (!decide (p0 < 0) && decide ((p0).toNatClampNeg ≤ 1000) && decide (mm_n S < 1000000)) = true) : mm_ex d 127 47 [.ref a0] [.int p0, .ref p1] S =
    mm_ex d 127 49 [.ref a0] [.ref (mm_n S), .ref p1] (mm_nw S 13 (p0).toNatClampNeg) :=
  (mx_newi t127 d127_47 h0)
theorem b127_49 {d : Nat} {S : mm_S} {a0 : Nat} {p0 : Nat} {p1 : Nat} (h0 : mm_obj S p1 12 = true) (h1 : p0 < mm_n S) : mm_ex d 127 49 [.ref a0] [.ref p0, .ref p1] S =
    mm_ex d 127 55 [.ref a0] [.int (nI 18), .ref a0] (mm_uR S p1 6 (some p0)) :=
  Eq.trans (mx_putr2 t127 d127_49 fl12_27 rfl h0 h1) <|
  Eq.trans (mx_aload_n t127 d127_52 (x := a0) rfl) <|
  (mx_bipush t127 d127_53 (v := nI 18) rfl)
theorem b127_55 {d : Nat} {S : mm_S} {a0 : Nat} {p0 : Int32} {p1 : Nat} (h0 : (!decide (p0 < 0) && decide ((p0).toNatClampNeg ≤ 1000) && decide (mm_n S < 1000000)) = true) : mm_ex d 127 55 [.ref a0] [.int p0, .ref p1] S =
    mm_ex d 127 57 [.ref a0] [.ref (mm_n S), .ref p1] (mm_nw S 13 (p0).toNatClampNeg) :=
  (mx_newi t127 d127_55 h0)
theorem b127_57 {d : Nat} {S : mm_S} {a0 : Nat} {p0 : Nat} {p1 : Nat} (h0 : mm_obj S p1 12 = true) (h1 : p0 < mm_n S) : mm_ex d 127 57 [.ref a0] [.ref p0, .ref p1] S =
    mm_ex d 127 63 [.ref a0] [.int (nI 6), .ref a0] (mm_uR S p1 7 (some p0)) :=
  Eq.trans (mx_putr2 t127 d127_57 fl12_30 rfl h0 h1) <|
  Eq.trans (mx_aload_n t127 d127_60 (x := a0) rfl) <|
  (mx_bipush t127 d127_61 (v := nI 6) rfl)
theorem b127_63 {d : Nat} {S : mm_S} {a0 : Nat} {p0 : Int32} {p1 : Nat} (h0 : (!decide (p0 < 0) && decide ((p0).toNatClampNeg ≤ 1000) && decide (mm_n S < 1000000)) = true) : mm_ex d 127 63 [.ref a0] [.int p0, .ref p1] S =
    mm_ex d 127 65 [.ref a0] [.ref (mm_n S), .ref p1] (mm_nw S 13 (p0).toNatClampNeg) :=
  (mx_newi t127 d127_63 h0)
theorem b127_65 {d : Nat} {S : mm_S} {a0 : Nat} {p0 : Nat} {p1 : Nat} (h0 : mm_obj S p1 12 = true) (h1 : p0 < mm_n S) (h2 : mm_obj S a0 12 = true) : mm_ex d 127 65 [.ref a0] [.ref p0, .ref p1] S =
    mm_ex d 127 81 [.ref a0] [.int (nI 12), .ref a0] (mm_uM (mm_uM (mm_uR S p1 9 (some p0)) a0 10 (nI 1)) a0 11 (nI 5)) :=
  Eq.trans (mx_putr2 t127 d127_65 fl12_33 rfl h0 h1) <|
  Eq.trans (mx_aload_n t127 d127_68 (x := a0) rfl) <|
  Eq.trans (mx_iconst t127 d127_69 (v := nI 1) rfl) <|
  Eq.trans (mx_puti2 t127 d127_70 fl12_36 rfl h2) <|
  Eq.trans (mx_aload_n t127 d127_73 (x := a0) rfl) <|
  Eq.trans (mx_iconst t127 d127_74 (v := nI 5) rfl) <|
  Eq.trans (mx_puti2 t127 d127_75 fl12_40 rfl h2) <|
  Eq.trans (mx_aload_n t127 d127_78 (x := a0) rfl) <|
  (mx_bipush t127 d127_79 (v := nI 12) rfl)
theorem b127_81 {d : Nat} {S : mm_S} {a0 : Nat} {p0 : Int32} {p1 : Nat} (h0 : (!decide (p0 < 0) && decide ((p0).toNatClampNeg ≤ 1000) && decide (mm_n S < 1000000)) = true) : mm_ex d 127 81 [.ref a0] [.int p0, .ref p1] S =
    mm_ex d 127 83 [.ref a0] [.ref (mm_n S), .ref p1] (mm_nw S 13 (p0).toNatClampNeg) :=
  (mx_newi t127 d127_81 h0)
theorem b127_83 {d : Nat} {S : mm_S} {a0 : Nat} {p0 : Nat} {p1 : Nat} (h0 : mm_obj S p1 12 = true) (h1 : p0 < mm_n S) (h2 : mm_obj S a0 12 = true) : mm_ex d 127 83 [.ref a0] [.ref p0, .ref p1] S =
    mm_ex d 127 94 [.ref a0] [.int (nI 7), .ref a0] (mm_uM (mm_uR S p1 16 (some p0)) a0 18 (-1)) :=
  Eq.trans (mx_putr2 t127 d127_83 fl12_43 rfl h0 h1) <|
  Eq.trans (mx_aload_n t127 d127_86 (x := a0) rfl) <|
  Eq.trans (mx_iconst t127 d127_87 (v := -1) rfl) <|
  Eq.trans (mx_puti2 t127 d127_88 fl12_46 rfl h2) <|
  Eq.trans (mx_aload_n t127 d127_91 (x := a0) rfl) <|
  (mx_bipush t127 d127_92 (v := nI 7) rfl)
theorem b127_94 {d : Nat} {S : mm_S} {a0 : Nat} {p0 : Int32} {p1 : Nat} (h0 : (!decide (p0 < 0) && decide ((p0).toNatClampNeg ≤ 1000) && decide (mm_n S < 1000000)) = true) : mm_ex d 127 94 [.ref a0] [.int p0, .ref p1] S =
    mm_ex d 127 96 [.ref a0] [.ref (mm_n S), .ref p1] (mm_nw S 13 (p0).toNatClampNeg) :=
  (mx_newi t127 d127_94 h0)
theorem b127_96 {d : Nat} {S : mm_S} {a0 : Nat} {p0 : Nat} {p1 : Nat} (h0 : mm_obj S p1 12 = true) (h1 : p0 < mm_n S) : mm_ex d 127 96 [.ref a0] [.ref p0, .ref p1] S =
    mm_ex d 127 102 [.ref a0] [.int (nI 70), .ref a0] (mm_uR S p1 19 (some p0)) :=
  Eq.trans (mx_putr2 t127 d127_96 fl12_49 rfl h0 h1) <|
  Eq.trans (mx_aload_n t127 d127_99 (x := a0) rfl) <|
  (mx_bipush t127 d127_100 (v := nI 70) rfl)
theorem b127_102 {d : Nat} {S : mm_S} {a0 : Nat} {p0 : Int32} {p1 : Nat} (h0 : (!decide (p0 < 0) && decide ((p0).toNatClampNeg ≤ 1000) && decide (mm_n S < 1000000)) = true) : mm_ex d 127 102 [.ref a0] [.int p0, .ref p1] S =
    mm_ex d 127 104 [.ref a0] [.ref (mm_n S), .ref p1] (mm_nw S 13 (p0).toNatClampNeg) :=
  (mx_newi t127 d127_102 h0)
theorem b127_104 {d : Nat} {S : mm_S} {a0 : Nat} {p0 : Nat} {p1 : Nat} (h0 : mm_obj S p1 12 = true) (h1 : p0 < mm_n S) : mm_ex d 127 104 [.ref a0] [.ref p0, .ref p1] S =
    mm_ex d 127 110 [.ref a0] [.int (nI 70), .ref a0] (mm_uR S p1 20 (some p0)) :=
  Eq.trans (mx_putr2 t127 d127_104 fl12_52 rfl h0 h1) <|
  Eq.trans (mx_aload_n t127 d127_107 (x := a0) rfl) <|
  (mx_bipush t127 d127_108 (v := nI 70) rfl)
theorem b127_110 {d : Nat} {S : mm_S} {a0 : Nat} {p0 : Int32} {p1 : Nat} (h0 : (!decide (p0 < 0) && decide ((p0).toNatClampNeg ≤ 1000) && decide (mm_n S < 1000000)) = true) : mm_ex d 127 110 [.ref a0] [.int p0, .ref p1] S =
    mm_ex d 127 112 [.ref a0] [.ref (mm_n S), .ref p1] (mm_nw S 13 (p0).toNatClampNeg) :=
  (mx_newi t127 d127_110 h0)
theorem b127_112 {d : Nat} {S : mm_S} {a0 : Nat} {p0 : Nat} {p1 : Nat} (h0 : mm_obj S p1 12 = true) (h1 : p0 < mm_n S) : mm_ex d 127 112 [.ref a0] [.ref p0, .ref p1] S =
    mm_ex d 127 118 [.ref a0] [.int (nI 70), .ref a0] (mm_uR S p1 21 (some p0)) :=
  Eq.trans (mx_putr2 t127 d127_112 fl12_55 rfl h0 h1) <|
  Eq.trans (mx_aload_n t127 d127_115 (x := a0) rfl) <|
  (mx_bipush t127 d127_116 (v := nI 70) rfl)
theorem b127_118 {d : Nat} {S : mm_S} {a0 : Nat} {p0 : Int32} {p1 : Nat} (h0 : (!decide (p0 < 0) && decide ((p0).toNatClampNeg ≤ 1000) && decide (mm_n S < 1000000)) = true) : mm_ex d 127 118 [.ref a0] [.int p0, .ref p1] S =
    mm_ex d 127 120 [.ref a0] [.ref (mm_n S), .ref p1] (mm_nw S 13 (p0).toNatClampNeg) :=
  (mx_newi t127 d127_118 h0)
theorem b127_120 {d : Nat} {S : mm_S} {a0 : Nat} {p0 : Nat} {p1 : Nat} (h0 : mm_obj S p1 12 = true) (h1 : p0 < mm_n S) : mm_ex d 127 120 [.ref a0] [.ref p0, .ref p1] S =
    mm_ex d 127 126 [.ref a0] [.int (nI 70), .ref a0] (mm_uR S p1 22 (some p0)) :=
  Eq.trans (mx_putr2 t127 d127_120 fl12_58 rfl h0 h1) <|
  Eq.trans (mx_aload_n t127 d127_123 (x := a0) rfl) <|
  (mx_bipush t127 d127_124 (v := nI 70) rfl)
theorem b127_126 {d : Nat} {S : mm_S} {a0 : Nat} {p0 : Int32} {p1 : Nat} (h0 : (!decide (p0 < 0) && decide ((p0).toNatClampNeg ≤ 1000) && decide (mm_n S < 1000000)) = true) : mm_ex d 127 126 [.ref a0] [.int p0, .ref p1] S =
    mm_ex d 127 128 [.ref a0] [.ref (mm_n S), .ref p1] (mm_nw S 13 (p0).toNatClampNeg) :=
  (mx_newi t127 d127_126 h0)
theorem b127_128 {d : Nat} {S : mm_S} {a0 : Nat} {p0 : Nat} {p1 : Nat} (h0 : mm_obj S p1 12 = true) (h1 : p0 < mm_n S) : mm_ex d 127 128 [.ref a0] [.ref p0, .ref p1] S =
    mm_ex d 127 135 [.ref a0] [.int (nI 840), .ref a0] (mm_uR S p1 23 (some p0)) :=
  Eq.trans (mx_putr2 t127 d127_128 fl12_61 rfl h0 h1) <|
  Eq.trans (mx_aload_n t127 d127_131 (x := a0) rfl) <|
  (mx_sipush t127 d127_132 (v := nI 840) rfl)
theorem b127_135 {d : Nat} {S : mm_S} {a0 : Nat} {p0 : Int32} {p1 : Nat} (h0 : (!decide (p0 < 0) && decide ((p0).toNatClampNeg ≤ 1000) && decide (mm_n S < 1000000)) = true) : mm_ex d 127 135 [.ref a0] [.int p0, .ref p1] S =
    mm_ex d 127 137 [.ref a0] [.ref (mm_n S), .ref p1] (mm_nw S 13 (p0).toNatClampNeg) :=
  (mx_newi t127 d127_135 h0)
theorem b127_137 {d : Nat} {S : mm_S} {a0 : Nat} {p0 : Nat} {p1 : Nat} (h0 : mm_obj S p1 12 = true) (h1 : p0 < mm_n S) : mm_ex d 127 137 [.ref a0] [.ref p0, .ref p1] S =
    mm_ex d 127 143 [.ref a0] [.int (nI 100), .ref a0] (mm_uR S p1 24 (some p0)) :=
  Eq.trans (mx_putr2 t127 d127_137 fl12_64 rfl h0 h1) <|
  Eq.trans (mx_aload_n t127 d127_140 (x := a0) rfl) <|
  (mx_bipush t127 d127_141 (v := nI 100) rfl)
theorem b127_143 {d : Nat} {S : mm_S} {a0 : Nat} {p0 : Int32} {p1 : Nat} (h0 : (!decide (p0 < 0) && decide ((p0).toNatClampNeg ≤ 1000) && decide (mm_n S < 1000000)) = true) : mm_ex d 127 143 [.ref a0] [.int p0, .ref p1] S =
    mm_ex d 127 145 [.ref a0] [.ref (mm_n S), .ref p1] (mm_nw S 13 (p0).toNatClampNeg) :=
  (mx_newi t127 d127_143 h0)
theorem b127_145 {d : Nat} {S : mm_S} {a0 : Nat} {p0 : Nat} {p1 : Nat} (h0 : mm_obj S p1 12 = true) (h1 : p0 < mm_n S) (h2 : mm_obj S a0 12 = true) : mm_ex d 127 145 [.ref a0] [.ref p0, .ref p1] S =
    mm_ex d 127 156 [.ref a0] [.int (nI 20), .ref a0] (mm_uM (mm_uR S p1 25 (some p0)) a0 27 (-1)) :=
  Eq.trans (mx_putr2 t127 d127_145 fl12_67 rfl h0 h1) <|
  Eq.trans (mx_aload_n t127 d127_148 (x := a0) rfl) <|
  Eq.trans (mx_iconst t127 d127_149 (v := -1) rfl) <|
  Eq.trans (mx_puti2 t127 d127_150 fl12_70 rfl h2) <|
  Eq.trans (mx_aload_n t127 d127_153 (x := a0) rfl) <|
  (mx_bipush t127 d127_154 (v := nI 20) rfl)
theorem b127_156 {d : Nat} {S : mm_S} {a0 : Nat} {p0 : Int32} {p1 : Nat} (h0 : (!decide (p0 < 0) && decide ((p0).toNatClampNeg ≤ 1000) && decide (mm_n S < 1000000)) = true) : mm_ex d 127 156 [.ref a0] [.int p0, .ref p1] S =
    mm_ex d 127 158 [.ref a0] [.ref (mm_n S), .ref p1] (mm_nw S 13 (p0).toNatClampNeg) :=
  (mx_newi t127 d127_156 h0)
theorem b127_158 {d : Nat} {S : mm_S} {a0 : Nat} {p0 : Nat} {p1 : Nat} (h0 : mm_obj S p1 12 = true) (h1 : p0 < mm_n S) : mm_ex d 127 158 [.ref a0] [.ref p0, .ref p1] S =
    mm_ex d 127 164 [.ref a0] [.int (nI 6), .ref a0] (mm_uR S p1 29 (some p0)) :=
  Eq.trans (mx_putr2 t127 d127_158 fl12_73 rfl h0 h1) <|
  Eq.trans (mx_aload_n t127 d127_161 (x := a0) rfl) <|
  (mx_bipush t127 d127_162 (v := nI 6) rfl)
theorem b127_164 {d : Nat} {S : mm_S} {a0 : Nat} {p0 : Int32} {p1 : Nat} (h0 : (!decide (p0 < 0) && decide ((p0).toNatClampNeg ≤ 1000) && decide (mm_n S < 1000000)) = true) : mm_ex d 127 164 [.ref a0] [.int p0, .ref p1] S =
    mm_ex d 127 166 [.ref a0] [.ref (mm_n S), .ref p1] (mm_nw S 13 (p0).toNatClampNeg) :=
  (mx_newi t127 d127_164 h0)
theorem b127_166 {d : Nat} {S : mm_S} {a0 : Nat} {p0 : Nat} {p1 : Nat} (h0 : mm_arr S p0 13 = true) (h1 : mm_inb (nI 0) (mm_N S p0) = true) (h2 : mm_inb (nI 1) (mm_N S p0) = true) (h3 : mm_inb (nI 2) (mm_N S p0) = true) (h4 : mm_inb (nI 3) (mm_N S p0) = true) (h5 : mm_inb (nI 4) (mm_N S p0) = true) (h6 : mm_inb (nI 5) (mm_N S p0) = true) (h7 : mm_obj S p1 12 = true) (h8 : p0 < mm_n S) : mm_ex d 127 166 [.ref a0] [.ref p0, .ref p1] S =
    mm_ex d 127 196 [.ref a0] [.int (nI 6), .ref a0] (mm_uR (mm_uM (mm_uM (mm_uM (mm_uM (mm_uM (mm_uM S p0 (nI 0).toNatClampNeg (-1)) p0 (nI 1).toNatClampNeg (-1)) p0 (nI 2).toNatClampNeg (-1)) p0 (nI 3).toNatClampNeg (-1)) p0 (nI 4).toNatClampNeg (-1)) p0 (nI 5).toNatClampNeg (-1)) p1 30 (some p0)) :=
  Eq.trans (mx_dupr t127 d127_166) <|
  Eq.trans (mx_iconst t127 d127_167 (v := nI 0) rfl) <|
  Eq.trans (mx_iconst t127 d127_168 (v := -1) rfl) <|
  Eq.trans (mx_iast2 t127 d127_169 h0 h1) <|
  Eq.trans (mx_dupr t127 d127_170) <|
  Eq.trans (mx_iconst t127 d127_171 (v := nI 1) rfl) <|
  Eq.trans (mx_iconst t127 d127_172 (v := -1) rfl) <|
  Eq.trans (mx_iast2 t127 d127_173 h0 h2) <|
  Eq.trans (mx_dupr t127 d127_174) <|
  Eq.trans (mx_iconst t127 d127_175 (v := nI 2) rfl) <|
  Eq.trans (mx_iconst t127 d127_176 (v := -1) rfl) <|
  Eq.trans (mx_iast2 t127 d127_177 h0 h3) <|
  Eq.trans (mx_dupr t127 d127_178) <|
  Eq.trans (mx_iconst t127 d127_179 (v := nI 3) rfl) <|
  Eq.trans (mx_iconst t127 d127_180 (v := -1) rfl) <|
  Eq.trans (mx_iast2 t127 d127_181 h0 h4) <|
  Eq.trans (mx_dupr t127 d127_182) <|
  Eq.trans (mx_iconst t127 d127_183 (v := nI 4) rfl) <|
  Eq.trans (mx_iconst t127 d127_184 (v := -1) rfl) <|
  Eq.trans (mx_iast2 t127 d127_185 h0 h5) <|
  Eq.trans (mx_dupr t127 d127_186) <|
  Eq.trans (mx_iconst t127 d127_187 (v := nI 5) rfl) <|
  Eq.trans (mx_iconst t127 d127_188 (v := -1) rfl) <|
  Eq.trans (mx_iast2 t127 d127_189 h0 h6) <|
  Eq.trans (mx_putr2 t127 d127_190 fl12_76 rfl h7 h8) <|
  Eq.trans (mx_aload_n t127 d127_193 (x := a0) rfl) <|
  (mx_bipush t127 d127_194 (v := nI 6) rfl)
theorem b127_196 {d : Nat} {S : mm_S} {a0 : Nat} {p0 : Int32} {p1 : Nat} (h0 : (!decide (p0 < 0) && decide ((p0).toNatClampNeg ≤ 1000) && decide (mm_n S < 1000000)) = true) : mm_ex d 127 196 [.ref a0] [.int p0, .ref p1] S =
    mm_ex d 127 198 [.ref a0] [.ref (mm_n S), .ref p1] (mm_nw S 13 (p0).toNatClampNeg) :=
  (mx_newi t127 d127_196 h0)
theorem b127_198 {d : Nat} {S : mm_S} {a0 : Nat} {p0 : Nat} {p1 : Nat} (h0 : mm_obj S p1 12 = true) (h1 : p0 < mm_n S) : mm_ex d 127 198 [.ref a0] [.ref p0, .ref p1] S =
    mm_ex d 127 205 [.ref a0] [.int (nI 360), .ref a0] (mm_uR S p1 31 (some p0)) :=
  Eq.trans (mx_putr2 t127 d127_198 fl12_79 rfl h0 h1) <|
  Eq.trans (mx_aload_n t127 d127_201 (x := a0) rfl) <|
  (mx_sipush t127 d127_202 (v := nI 360) rfl)
theorem b127_205 {d : Nat} {S : mm_S} {a0 : Nat} {p0 : Int32} {p1 : Nat} (h0 : (!decide (p0 < 0) && decide ((p0).toNatClampNeg ≤ 1000) && decide (mm_n S < 1000000)) = true) : mm_ex d 127 205 [.ref a0] [.int p0, .ref p1] S =
    mm_ex d 127 207 [.ref a0] [.ref (mm_n S), .ref p1] (mm_nw S 14 (p0).toNatClampNeg) :=
  (mx_newj t127 d127_205 h0)
theorem b127_207 {d : Nat} {S : mm_S} {a0 : Nat} {p0 : Nat} {p1 : Nat} (h0 : mm_obj S p1 12 = true) (h1 : p0 < mm_n S) : mm_ex d 127 207 [.ref a0] [.ref p0, .ref p1] S =
    mm_ex d 127 213 [.ref a0] [.int (nI 24), .ref a0] (mm_uR S p1 32 (some p0)) :=
  Eq.trans (mx_putr2 t127 d127_207 fl12_82 rfl h0 h1) <|
  Eq.trans (mx_aload_n t127 d127_210 (x := a0) rfl) <|
  (mx_bipush t127 d127_211 (v := nI 24) rfl)
theorem b127_213 {d : Nat} {S : mm_S} {a0 : Nat} {p0 : Int32} {p1 : Nat} (h0 : (!decide (p0 < 0) && decide ((p0).toNatClampNeg ≤ 1000) && decide (mm_n S < 1000000)) = true) : mm_ex d 127 213 [.ref a0] [.int p0, .ref p1] S =
    mm_ex d 127 215 [.ref a0] [.ref (mm_n S), .ref p1] (mm_nw S 13 (p0).toNatClampNeg) :=
  (mx_newi t127 d127_213 h0)
theorem b127_215 {d : Nat} {S : mm_S} {a0 : Nat} {p0 : Nat} {p1 : Nat} (h0 : mm_arr S p0 13 = true) (h1 : mm_inb (nI 0) (mm_N S p0) = true) (h2 : mm_inb (nI 1) (mm_N S p0) = true) (h3 : mm_inb (nI 2) (mm_N S p0) = true) (h4 : mm_inb (nI 3) (mm_N S p0) = true) (h5 : mm_inb (nI 4) (mm_N S p0) = true) (h6 : mm_inb (nI 5) (mm_N S p0) = true) (h7 : mm_inb (nI 6) (mm_N S p0) = true) (h8 : mm_inb (nI 7) (mm_N S p0) = true) (h9 : mm_inb (nI 8) (mm_N S p0) = true) (h10 : mm_inb (nI 9) (mm_N S p0) = true) (h11 : mm_inb (nI 10) (mm_N S p0) = true) : mm_ex d 127 215 [.ref a0] [.ref p0, .ref p1] S =
    mm_ex d 127 276 [.ref a0] [.ref p0, .ref p0, .ref p1] (mm_uM (mm_uM (mm_uM (mm_uM (mm_uM (mm_uM (mm_uM (mm_uM (mm_uM (mm_uM (mm_uM S p0 (nI 0).toNatClampNeg (nI 109)) p0 (nI 1).toNatClampNeg (nI 111)) p0 (nI 2).toNatClampNeg (nI 114)) p0 (nI 3).toNatClampNeg (nI 101)) p0 (nI 4).toNatClampNeg (nI 99)) p0 (nI 5).toNatClampNeg (nI 111)) p0 (nI 6).toNatClampNeg (nI 115)) p0 (nI 7).toNatClampNeg (nI 116)) p0 (nI 8).toNatClampNeg (nI 117)) p0 (nI 9).toNatClampNeg (nI 112)) p0 (nI 10).toNatClampNeg (nI 32)) :=
  Eq.trans (mx_dupr t127 d127_215) <|
  Eq.trans (mx_iconst t127 d127_216 (v := nI 0) rfl) <|
  Eq.trans (mx_bipush t127 d127_217 (v := nI 109) rfl) <|
  Eq.trans (mx_iast2 t127 d127_219 h0 h1) <|
  Eq.trans (mx_dupr t127 d127_220) <|
  Eq.trans (mx_iconst t127 d127_221 (v := nI 1) rfl) <|
  Eq.trans (mx_bipush t127 d127_222 (v := nI 111) rfl) <|
  Eq.trans (mx_iast2 t127 d127_224 h0 h2) <|
  Eq.trans (mx_dupr t127 d127_225) <|
  Eq.trans (mx_iconst t127 d127_226 (v := nI 2) rfl) <|
  Eq.trans (mx_bipush t127 d127_227 (v := nI 114) rfl) <|
  Eq.trans (mx_iast2 t127 d127_229 h0 h3) <|
  Eq.trans (mx_dupr t127 d127_230) <|
  Eq.trans (mx_iconst t127 d127_231 (v := nI 3) rfl) <|
  Eq.trans (mx_bipush t127 d127_232 (v := nI 101) rfl) <|
  Eq.trans (mx_iast2 t127 d127_234 h0 h4) <|
  Eq.trans (mx_dupr t127 d127_235) <|
  Eq.trans (mx_iconst t127 d127_236 (v := nI 4) rfl) <|
  Eq.trans (mx_bipush t127 d127_237 (v := nI 99) rfl) <|
  Eq.trans (mx_iast2 t127 d127_239 h0 h5) <|
  Eq.trans (mx_dupr t127 d127_240) <|
  Eq.trans (mx_iconst t127 d127_241 (v := nI 5) rfl) <|
  Eq.trans (mx_bipush t127 d127_242 (v := nI 111) rfl) <|
  Eq.trans (mx_iast2 t127 d127_244 h0 h6) <|
  Eq.trans (mx_dupr t127 d127_245) <|
  Eq.trans (mx_bipush t127 d127_246 (v := nI 6) rfl) <|
  Eq.trans (mx_bipush t127 d127_248 (v := nI 115) rfl) <|
  Eq.trans (mx_iast2 t127 d127_250 h0 h7) <|
  Eq.trans (mx_dupr t127 d127_251) <|
  Eq.trans (mx_bipush t127 d127_252 (v := nI 7) rfl) <|
  Eq.trans (mx_bipush t127 d127_254 (v := nI 116) rfl) <|
  Eq.trans (mx_iast2 t127 d127_256 h0 h8) <|
  Eq.trans (mx_dupr t127 d127_257) <|
  Eq.trans (mx_bipush t127 d127_258 (v := nI 8) rfl) <|
  Eq.trans (mx_bipush t127 d127_260 (v := nI 117) rfl) <|
  Eq.trans (mx_iast2 t127 d127_262 h0 h9) <|
  Eq.trans (mx_dupr t127 d127_263) <|
  Eq.trans (mx_bipush t127 d127_264 (v := nI 9) rfl) <|
  Eq.trans (mx_bipush t127 d127_266 (v := nI 112) rfl) <|
  Eq.trans (mx_iast2 t127 d127_268 h0 h10) <|
  Eq.trans (mx_dupr t127 d127_269) <|
  Eq.trans (mx_bipush t127 d127_270 (v := nI 10) rfl) <|
  Eq.trans (mx_bipush t127 d127_272 (v := nI 32) rfl) <|
  Eq.trans (mx_iast2 t127 d127_274 h0 h11) <|
  (mx_dupr t127 d127_275)
theorem b127_276 {d : Nat} {S : mm_S} {a0 : Nat} {p0 : Nat} {p1 : Nat} {p2 : Nat} (h0 : mm_arr S p0 13 = true) (h1 : mm_inb (nI 11) (mm_N S p0) = true) (h2 : mm_arr S p1 13 = true) (h3 : mm_inb (nI 12) (mm_N S p1) = true) (h4 : mm_inb (nI 13) (mm_N S p1) = true) (h5 : mm_inb (nI 14) (mm_N S p1) = true) (h6 : mm_inb (nI 15) (mm_N S p1) = true) (h7 : mm_inb (nI 16) (mm_N S p1) = true) (h8 : mm_inb (nI 17) (mm_N S p1) = true) (h9 : mm_inb (nI 18) (mm_N S p1) = true) (h10 : mm_inb (nI 19) (mm_N S p1) = true) (h11 : mm_inb (nI 20) (mm_N S p1) = true) (h12 : mm_inb (nI 21) (mm_N S p1) = true) : mm_ex d 127 276 [.ref a0] [.ref p0, .ref p1, .ref p2] S =
    mm_ex d 127 344 [.ref a0] [.int (nI 22), .ref p1, .ref p1, .ref p2] (mm_uM (mm_uM (mm_uM (mm_uM (mm_uM (mm_uM (mm_uM (mm_uM (mm_uM (mm_uM (mm_uM S p0 (nI 11).toNatClampNeg (nI 32)) p1 (nI 12).toNatClampNeg (nI 100)) p1 (nI 13).toNatClampNeg (nI 111)) p1 (nI 14).toNatClampNeg (nI 119)) p1 (nI 15).toNatClampNeg (nI 110)) p1 (nI 16).toNatClampNeg (nI 97)) p1 (nI 17).toNatClampNeg (nI 119)) p1 (nI 18).toNatClampNeg (nI 97)) p1 (nI 19).toNatClampNeg (nI 121)) p1 (nI 20).toNatClampNeg (nI 102)) p1 (nI 21).toNatClampNeg (nI 101)) :=
  Eq.trans (mx_bipush t127 d127_276 (v := nI 11) rfl) <|
  Eq.trans (mx_bipush t127 d127_278 (v := nI 32) rfl) <|
  Eq.trans (mx_iast2 t127 d127_280 h0 h1) <|
  Eq.trans (mx_dupr t127 d127_281) <|
  Eq.trans (mx_bipush t127 d127_282 (v := nI 12) rfl) <|
  Eq.trans (mx_bipush t127 d127_284 (v := nI 100) rfl) <|
  Eq.trans (mx_iast2 t127 d127_286 h2 h3) <|
  Eq.trans (mx_dupr t127 d127_287) <|
  Eq.trans (mx_bipush t127 d127_288 (v := nI 13) rfl) <|
  Eq.trans (mx_bipush t127 d127_290 (v := nI 111) rfl) <|
  Eq.trans (mx_iast2 t127 d127_292 h2 h4) <|
  Eq.trans (mx_dupr t127 d127_293) <|
  Eq.trans (mx_bipush t127 d127_294 (v := nI 14) rfl) <|
  Eq.trans (mx_bipush t127 d127_296 (v := nI 119) rfl) <|
  Eq.trans (mx_iast2 t127 d127_298 h2 h5) <|
  Eq.trans (mx_dupr t127 d127_299) <|
  Eq.trans (mx_bipush t127 d127_300 (v := nI 15) rfl) <|
  Eq.trans (mx_bipush t127 d127_302 (v := nI 110) rfl) <|
  Eq.trans (mx_iast2 t127 d127_304 h2 h6) <|
  Eq.trans (mx_dupr t127 d127_305) <|
  Eq.trans (mx_bipush t127 d127_306 (v := nI 16) rfl) <|
  Eq.trans (mx_bipush t127 d127_308 (v := nI 97) rfl) <|
  Eq.trans (mx_iast2 t127 d127_310 h2 h7) <|
  Eq.trans (mx_dupr t127 d127_311) <|
  Eq.trans (mx_bipush t127 d127_312 (v := nI 17) rfl) <|
  Eq.trans (mx_bipush t127 d127_314 (v := nI 119) rfl) <|
  Eq.trans (mx_iast2 t127 d127_316 h2 h8) <|
  Eq.trans (mx_dupr t127 d127_317) <|
  Eq.trans (mx_bipush t127 d127_318 (v := nI 18) rfl) <|
  Eq.trans (mx_bipush t127 d127_320 (v := nI 97) rfl) <|
  Eq.trans (mx_iast2 t127 d127_322 h2 h9) <|
  Eq.trans (mx_dupr t127 d127_323) <|
  Eq.trans (mx_bipush t127 d127_324 (v := nI 19) rfl) <|
  Eq.trans (mx_bipush t127 d127_326 (v := nI 121) rfl) <|
  Eq.trans (mx_iast2 t127 d127_328 h2 h10) <|
  Eq.trans (mx_dupr t127 d127_329) <|
  Eq.trans (mx_bipush t127 d127_330 (v := nI 20) rfl) <|
  Eq.trans (mx_bipush t127 d127_332 (v := nI 102) rfl) <|
  Eq.trans (mx_iast2 t127 d127_334 h2 h11) <|
  Eq.trans (mx_dupr t127 d127_335) <|
  Eq.trans (mx_bipush t127 d127_336 (v := nI 21) rfl) <|
  Eq.trans (mx_bipush t127 d127_338 (v := nI 101) rfl) <|
  Eq.trans (mx_iast2 t127 d127_340 h2 h12) <|
  Eq.trans (mx_dupr t127 d127_341) <|
  (mx_bipush t127 d127_342 (v := nI 22) rfl)
theorem b127_344 {d : Nat} {S : mm_S} {a0 : Nat} {p0 : Int32} {p1 : Nat} {p2 : Nat} {p3 : Nat} (h0 : mm_arr S p1 13 = true) (h1 : mm_inb p0 (mm_N S p1) = true) (h2 : mm_arr S p2 13 = true) (h3 : mm_inb (nI 23) (mm_N S p2) = true) (h4 : mm_obj S p3 12 = true) (h5 : p2 < mm_n S) : mm_ex d 127 344 [.ref a0] [.int p0, .ref p1, .ref p2, .ref p3] S =
    mm_ex d 127 359 [.ref a0] [.int (nI 6), .ref a0] (mm_uR (mm_uM (mm_uM S p1 (p0).toNatClampNeg (nI 101)) p2 (nI 23).toNatClampNeg (nI 32)) p3 33 (some p2)) :=
  Eq.trans (mx_bipush t127 d127_344 (v := nI 101) rfl) <|
  Eq.trans (mx_iast2 t127 d127_346 h0 h1) <|
  Eq.trans (mx_dupr t127 d127_347) <|
  Eq.trans (mx_bipush t127 d127_348 (v := nI 23) rfl) <|
  Eq.trans (mx_bipush t127 d127_350 (v := nI 32) rfl) <|
  Eq.trans (mx_iast2 t127 d127_352 h2 h3) <|
  Eq.trans (mx_putr2 t127 d127_353 fl12_86 rfl h4 h5) <|
  Eq.trans (mx_aload_n t127 d127_356 (x := a0) rfl) <|
  (mx_bipush t127 d127_357 (v := nI 6) rfl)
theorem b127_359 {d : Nat} {S : mm_S} {a0 : Nat} {p0 : Int32} {p1 : Nat} (h0 : (!decide (p0 < 0) && decide ((p0).toNatClampNeg ≤ 1000) && decide (mm_n S < 1000000)) = true) : mm_ex d 127 359 [.ref a0] [.int p0, .ref p1] S =
    mm_ex d 127 361 [.ref a0] [.ref (mm_n S), .ref p1] (mm_nw S 13 (p0).toNatClampNeg) :=
  (mx_newi t127 d127_359 h0)
theorem b127_361 {d : Nat} {S : mm_S} {a0 : Nat} {p0 : Nat} {p1 : Nat} (h0 : mm_arr S p0 13 = true) (h1 : mm_inb (nI 0) (mm_N S p0) = true) (h2 : mm_inb (nI 1) (mm_N S p0) = true) (h3 : mm_inb (nI 2) (mm_N S p0) = true) (h4 : mm_inb (nI 3) (mm_N S p0) = true) (h5 : mm_inb (nI 4) (mm_N S p0) = true) (h6 : mm_inb (nI 5) (mm_N S p0) = true) (h7 : mm_obj S p1 12 = true) (h8 : p0 < mm_n S) : mm_ex d 127 361 [.ref a0] [.ref p0, .ref p1] S =
    mm_ex d 127 391 [.ref a0] [.int (nI 7), .ref a0] (mm_uR (mm_uM (mm_uM (mm_uM (mm_uM (mm_uM (mm_uM S p0 (nI 0).toNatClampNeg (nI 4)) p0 (nI 1).toNatClampNeg (nI 4)) p0 (nI 2).toNatClampNeg (nI 2)) p0 (nI 3).toNatClampNeg (nI 4)) p0 (nI 4).toNatClampNeg (nI 4)) p0 (nI 5).toNatClampNeg (nI 3)) p1 34 (some p0)) :=
  Eq.trans (mx_dupr t127 d127_361) <|
  Eq.trans (mx_iconst t127 d127_362 (v := nI 0) rfl) <|
  Eq.trans (mx_iconst t127 d127_363 (v := nI 4) rfl) <|
  Eq.trans (mx_iast2 t127 d127_364 h0 h1) <|
  Eq.trans (mx_dupr t127 d127_365) <|
  Eq.trans (mx_iconst t127 d127_366 (v := nI 1) rfl) <|
  Eq.trans (mx_iconst t127 d127_367 (v := nI 4) rfl) <|
  Eq.trans (mx_iast2 t127 d127_368 h0 h2) <|
  Eq.trans (mx_dupr t127 d127_369) <|
  Eq.trans (mx_iconst t127 d127_370 (v := nI 2) rfl) <|
  Eq.trans (mx_iconst t127 d127_371 (v := nI 2) rfl) <|
  Eq.trans (mx_iast2 t127 d127_372 h0 h3) <|
  Eq.trans (mx_dupr t127 d127_373) <|
  Eq.trans (mx_iconst t127 d127_374 (v := nI 3) rfl) <|
  Eq.trans (mx_iconst t127 d127_375 (v := nI 4) rfl) <|
  Eq.trans (mx_iast2 t127 d127_376 h0 h4) <|
  Eq.trans (mx_dupr t127 d127_377) <|
  Eq.trans (mx_iconst t127 d127_378 (v := nI 4) rfl) <|
  Eq.trans (mx_iconst t127 d127_379 (v := nI 4) rfl) <|
  Eq.trans (mx_iast2 t127 d127_380 h0 h5) <|
  Eq.trans (mx_dupr t127 d127_381) <|
  Eq.trans (mx_iconst t127 d127_382 (v := nI 5) rfl) <|
  Eq.trans (mx_iconst t127 d127_383 (v := nI 3) rfl) <|
  Eq.trans (mx_iast2 t127 d127_384 h0 h6) <|
  Eq.trans (mx_putr2 t127 d127_385 fl12_89 rfl h7 h8) <|
  Eq.trans (mx_aload_n t127 d127_388 (x := a0) rfl) <|
  (mx_bipush t127 d127_389 (v := nI 7) rfl)
theorem b127_391 {d : Nat} {S : mm_S} {a0 : Nat} {p0 : Int32} {p1 : Nat} (h0 : (!decide (p0 < 0) && decide ((p0).toNatClampNeg ≤ 1000) && decide (mm_n S < 1000000)) = true) : mm_ex d 127 391 [.ref a0] [.int p0, .ref p1] S =
    mm_ex d 127 393 [.ref a0] [.ref (mm_n S), .ref p1] (mm_nw S 13 (p0).toNatClampNeg) :=
  (mx_newi t127 d127_391 h0)
theorem b127_393 {d : Nat} {S : mm_S} {a0 : Nat} {p0 : Nat} {p1 : Nat} (h0 : mm_arr S p0 13 = true) (h1 : mm_inb (nI 0) (mm_N S p0) = true) (h2 : mm_inb (nI 1) (mm_N S p0) = true) (h3 : mm_inb (nI 2) (mm_N S p0) = true) (h4 : mm_inb (nI 3) (mm_N S p0) = true) (h5 : mm_inb (nI 4) (mm_N S p0) = true) (h6 : mm_inb (nI 5) (mm_N S p0) = true) (h7 : mm_inb (nI 6) (mm_N S p0) = true) (h8 : mm_obj S p1 12 = true) (h9 : p0 < mm_n S) : mm_ex d 127 393 [.ref a0] [.ref p0, .ref p1] S =
    mm_ex d 127 435 [.ref a0] [.int (nI 110), .ref a0] (mm_uR (mm_uM (mm_uM (mm_uM (mm_uM (mm_uM (mm_uM (mm_uM S p0 (nI 0).toNatClampNeg (nI 98)) p0 (nI 1).toNatClampNeg (nI 107)) p0 (nI 2).toNatClampNeg (nI 112)) p0 (nI 3).toNatClampNeg (nI 108)) p0 (nI 4).toNatClampNeg (nI 114)) p0 (nI 5).toNatClampNeg (nI 97)) p0 (nI 6).toNatClampNeg (nI 102)) p1 35 (some p0)) :=
  Eq.trans (mx_dupr t127 d127_393) <|
  Eq.trans (mx_iconst t127 d127_394 (v := nI 0) rfl) <|
  Eq.trans (mx_bipush t127 d127_395 (v := nI 98) rfl) <|
  Eq.trans (mx_iast2 t127 d127_397 h0 h1) <|
  Eq.trans (mx_dupr t127 d127_398) <|
  Eq.trans (mx_iconst t127 d127_399 (v := nI 1) rfl) <|
  Eq.trans (mx_bipush t127 d127_400 (v := nI 107) rfl) <|
  Eq.trans (mx_iast2 t127 d127_402 h0 h2) <|
  Eq.trans (mx_dupr t127 d127_403) <|
  Eq.trans (mx_iconst t127 d127_404 (v := nI 2) rfl) <|
  Eq.trans (mx_bipush t127 d127_405 (v := nI 112) rfl) <|
  Eq.trans (mx_iast2 t127 d127_407 h0 h3) <|
  Eq.trans (mx_dupr t127 d127_408) <|
  Eq.trans (mx_iconst t127 d127_409 (v := nI 3) rfl) <|
  Eq.trans (mx_bipush t127 d127_410 (v := nI 108) rfl) <|
  Eq.trans (mx_iast2 t127 d127_412 h0 h4) <|
  Eq.trans (mx_dupr t127 d127_413) <|
  Eq.trans (mx_iconst t127 d127_414 (v := nI 4) rfl) <|
  Eq.trans (mx_bipush t127 d127_415 (v := nI 114) rfl) <|
  Eq.trans (mx_iast2 t127 d127_417 h0 h5) <|
  Eq.trans (mx_dupr t127 d127_418) <|
  Eq.trans (mx_iconst t127 d127_419 (v := nI 5) rfl) <|
  Eq.trans (mx_bipush t127 d127_420 (v := nI 97) rfl) <|
  Eq.trans (mx_iast2 t127 d127_422 h0 h6) <|
  Eq.trans (mx_dupr t127 d127_423) <|
  Eq.trans (mx_bipush t127 d127_424 (v := nI 6) rfl) <|
  Eq.trans (mx_bipush t127 d127_426 (v := nI 102) rfl) <|
  Eq.trans (mx_iast2 t127 d127_428 h0 h7) <|
  Eq.trans (mx_putr2 t127 d127_429 fl12_92 rfl h8 h9) <|
  Eq.trans (mx_aload_n t127 d127_432 (x := a0) rfl) <|
  (mx_bipush t127 d127_433 (v := nI 110) rfl)
theorem b127_435 {d : Nat} {S : mm_S} {a0 : Nat} {p0 : Int32} {p1 : Nat} (h0 : (!decide (p0 < 0) && decide ((p0).toNatClampNeg ≤ 1000) && decide (mm_n S < 1000000)) = true) : mm_ex d 127 435 [.ref a0] [.int p0, .ref p1] S =
    mm_ex d 127 437 [.ref a0] [.ref (mm_n S), .ref p1] (mm_nw S 13 (p0).toNatClampNeg) :=
  (mx_newi t127 d127_435 h0)
theorem b127_437 {d : Nat} {S : mm_S} {a0 : Nat} {p0 : Nat} {p1 : Nat} (h0 : mm_obj S p1 12 = true) (h1 : p0 < mm_n S) : mm_ex d 127 437 [.ref a0] [.ref p0, .ref p1] S =
    mm_ex d 127 443 [.ref a0] [.int (nI 110), .ref a0] (mm_uR S p1 38 (some p0)) :=
  Eq.trans (mx_putr2 t127 d127_437 fl12_95 rfl h0 h1) <|
  Eq.trans (mx_aload_n t127 d127_440 (x := a0) rfl) <|
  (mx_bipush t127 d127_441 (v := nI 110) rfl)
theorem b127_443 {d : Nat} {S : mm_S} {a0 : Nat} {p0 : Int32} {p1 : Nat} (h0 : (!decide (p0 < 0) && decide ((p0).toNatClampNeg ≤ 1000) && decide (mm_n S < 1000000)) = true) : mm_ex d 127 443 [.ref a0] [.int p0, .ref p1] S =
    mm_ex d 127 445 [.ref a0] [.ref (mm_n S), .ref p1] (mm_nw S 15 (p0).toNatClampNeg) :=
  (mx_newz t127 d127_443 h0)
theorem b127_445 {d : Nat} {S : mm_S} {a0 : Nat} {p0 : Nat} {p1 : Nat} (h0 : mm_obj S p1 12 = true) (h1 : p0 < mm_n S) : mm_ex d 127 445 [.ref a0] [.ref p0, .ref p1] S =
    mm_ex d 127 451 [.ref a0] [.int (nI 6), .ref a0] (mm_uR S p1 41 (some p0)) :=
  Eq.trans (mx_putr2 t127 d127_445 fl12_98 rfl h0 h1) <|
  Eq.trans (mx_aload_n t127 d127_448 (x := a0) rfl) <|
  (mx_bipush t127 d127_449 (v := nI 6) rfl)
theorem b127_451 {d : Nat} {S : mm_S} {a0 : Nat} {p0 : Int32} {p1 : Nat} (h0 : (!decide (p0 < 0) && decide ((p0).toNatClampNeg ≤ 1000) && decide (mm_n S < 1000000)) = true) : mm_ex d 127 451 [.ref a0] [.int p0, .ref p1] S =
    mm_ex d 127 453 [.ref a0] [.ref (mm_n S), .ref p1] (mm_nw S 13 (p0).toNatClampNeg) :=
  (mx_newi t127 d127_451 h0)
theorem b127_453 {d : Nat} {S : mm_S} {a0 : Nat} {p0 : Nat} {p1 : Nat} (h0 : mm_obj S p1 12 = true) (h1 : p0 < mm_n S) : mm_ex d 127 453 [.ref a0] [.ref p0, .ref p1] S =
    mm_ex d 127 459 [.ref a0] [.int (nI 6), .ref a0] (mm_uR S p1 44 (some p0)) :=
  Eq.trans (mx_putr2 t127 d127_453 fl12_102 rfl h0 h1) <|
  Eq.trans (mx_aload_n t127 d127_456 (x := a0) rfl) <|
  (mx_bipush t127 d127_457 (v := nI 6) rfl)
theorem b127_459 {d : Nat} {S : mm_S} {a0 : Nat} {p0 : Int32} {p1 : Nat} (h0 : (!decide (p0 < 0) && decide ((p0).toNatClampNeg ≤ 1000) && decide (mm_n S < 1000000)) = true) : mm_ex d 127 459 [.ref a0] [.int p0, .ref p1] S =
    mm_ex d 127 461 [.ref a0] [.ref (mm_n S), .ref p1] (mm_nw S 13 (p0).toNatClampNeg) :=
  (mx_newi t127 d127_459 h0)
theorem b127_461 {d : Nat} {S : mm_S} {a0 : Nat} {p0 : Nat} {p1 : Nat} (h0 : mm_obj S p1 12 = true) (h1 : p0 < mm_n S) : mm_ex d 127 461 [.ref a0] [.ref p0, .ref p1] S =
    mm_ex d 127 467 [.ref a0] [.int (nI 6), .ref a0] (mm_uR S p1 45 (some p0)) :=
  Eq.trans (mx_putr2 t127 d127_461 fl12_105 rfl h0 h1) <|
  Eq.trans (mx_aload_n t127 d127_464 (x := a0) rfl) <|
  (mx_bipush t127 d127_465 (v := nI 6) rfl)
theorem b127_467 {d : Nat} {S : mm_S} {a0 : Nat} {p0 : Int32} {p1 : Nat} (h0 : (!decide (p0 < 0) && decide ((p0).toNatClampNeg ≤ 1000) && decide (mm_n S < 1000000)) = true) : mm_ex d 127 467 [.ref a0] [.int p0, .ref p1] S =
    mm_ex d 127 469 [.ref a0] [.ref (mm_n S), .ref p1] (mm_nw S 13 (p0).toNatClampNeg) :=
  (mx_newi t127 d127_467 h0)
theorem b127_469 {d : Nat} {S : mm_S} {a0 : Nat} {p0 : Nat} {p1 : Nat} (h0 : mm_obj S p1 12 = true) (h1 : p0 < mm_n S) : mm_ex d 127 469 [.ref a0] [.ref p0, .ref p1] S =
    mm_ex d 127 475 [.ref a0] [.int (nI 6), .ref a0] (mm_uR S p1 46 (some p0)) :=
  Eq.trans (mx_putr2 t127 d127_469 fl12_108 rfl h0 h1) <|
  Eq.trans (mx_aload_n t127 d127_472 (x := a0) rfl) <|
  (mx_bipush t127 d127_473 (v := nI 6) rfl)
theorem b127_475 {d : Nat} {S : mm_S} {a0 : Nat} {p0 : Int32} {p1 : Nat} (h0 : (!decide (p0 < 0) && decide ((p0).toNatClampNeg ≤ 1000) && decide (mm_n S < 1000000)) = true) : mm_ex d 127 475 [.ref a0] [.int p0, .ref p1] S =
    mm_ex d 127 477 [.ref a0] [.ref (mm_n S), .ref p1] (mm_nw S 13 (p0).toNatClampNeg) :=
  (mx_newi t127 d127_475 h0)
theorem b127_477 {d : Nat} {S : mm_S} {a0 : Nat} {p0 : Nat} {p1 : Nat} (h0 : mm_obj S p1 12 = true) (h1 : p0 < mm_n S) : mm_ex d 127 477 [.ref a0] [.ref p0, .ref p1] S =
    mm_ex d 127 483 [.ref a0] [.int (nI 78), .ref a0] (mm_uR S p1 52 (some p0)) :=
  Eq.trans (mx_putr2 t127 d127_477 fl12_111 rfl h0 h1) <|
  Eq.trans (mx_aload_n t127 d127_480 (x := a0) rfl) <|
  (mx_bipush t127 d127_481 (v := nI 78) rfl)
theorem b127_483 {d : Nat} {S : mm_S} {a0 : Nat} {p0 : Int32} {p1 : Nat} (h0 : (!decide (p0 < 0) && decide ((p0).toNatClampNeg ≤ 1000) && decide (mm_n S < 1000000)) = true) : mm_ex d 127 483 [.ref a0] [.int p0, .ref p1] S =
    mm_ex d 127 485 [.ref a0] [.ref (mm_n S), .ref p1] (mm_nw S 13 (p0).toNatClampNeg) :=
  (mx_newi t127 d127_483 h0)
theorem b127_485 {d : Nat} {S : mm_S} {a0 : Nat} {p0 : Nat} {p1 : Nat} (h0 : mm_obj S p1 12 = true) (h1 : p0 < mm_n S) : mm_ex d 127 485 [.ref a0] [.ref p0, .ref p1] S =
    mm_ex d 127 491 [.ref a0] [.int (nI 78), .ref a0] (mm_uR S p1 55 (some p0)) :=
  Eq.trans (mx_putr2 t127 d127_485 fl12_114 rfl h0 h1) <|
  Eq.trans (mx_aload_n t127 d127_488 (x := a0) rfl) <|
  (mx_bipush t127 d127_489 (v := nI 78) rfl)
theorem b127_491 {d : Nat} {S : mm_S} {a0 : Nat} {p0 : Int32} {p1 : Nat} (h0 : (!decide (p0 < 0) && decide ((p0).toNatClampNeg ≤ 1000) && decide (mm_n S < 1000000)) = true) : mm_ex d 127 491 [.ref a0] [.int p0, .ref p1] S =
    mm_ex d 127 493 [.ref a0] [.ref (mm_n S), .ref p1] (mm_nw S 13 (p0).toNatClampNeg) :=
  (mx_newi t127 d127_491 h0)
theorem b127_493 {d : Nat} {S : mm_S} {a0 : Nat} {p0 : Nat} {p1 : Nat} (h0 : mm_obj S p1 12 = true) (h1 : p0 < mm_n S) : mm_ex d 127 493 [.ref a0] [.ref p0, .ref p1] S =
    mm_ex d 127 499 [.ref a0] [.int (nI 78), .ref a0] (mm_uR S p1 56 (some p0)) :=
  Eq.trans (mx_putr2 t127 d127_493 fl12_117 rfl h0 h1) <|
  Eq.trans (mx_aload_n t127 d127_496 (x := a0) rfl) <|
  (mx_bipush t127 d127_497 (v := nI 78) rfl)
theorem b127_499 {d : Nat} {S : mm_S} {a0 : Nat} {p0 : Int32} {p1 : Nat} (h0 : (!decide (p0 < 0) && decide ((p0).toNatClampNeg ≤ 1000) && decide (mm_n S < 1000000)) = true) : mm_ex d 127 499 [.ref a0] [.int p0, .ref p1] S =
    mm_ex d 127 501 [.ref a0] [.ref (mm_n S), .ref p1] (mm_nw S 13 (p0).toNatClampNeg) :=
  (mx_newi t127 d127_499 h0)
theorem b127_501 {d : Nat} {S : mm_S} {a0 : Nat} {p0 : Nat} {p1 : Nat} (h0 : mm_obj S p1 12 = true) (h1 : p0 < mm_n S) : mm_ex d 127 501 [.ref a0] [.ref p0, .ref p1] S =
    mm_ex d 127 507 [.ref a0] [.int (nI 65), .ref a0] (mm_uR S p1 57 (some p0)) :=
  Eq.trans (mx_putr2 t127 d127_501 fl12_120 rfl h0 h1) <|
  Eq.trans (mx_aload_n t127 d127_504 (x := a0) rfl) <|
  (mx_bipush t127 d127_505 (v := nI 65) rfl)
theorem b127_507 {d : Nat} {S : mm_S} {a0 : Nat} {p0 : Int32} {p1 : Nat} (h0 : (!decide (p0 < 0) && decide ((p0).toNatClampNeg ≤ 1000) && decide (mm_n S < 1000000)) = true) : mm_ex d 127 507 [.ref a0] [.int p0, .ref p1] S =
    mm_ex d 127 509 [.ref a0] [.ref (mm_n S), .ref p1] (mm_nw S 13 (p0).toNatClampNeg) :=
  (mx_newi t127 d127_507 h0)
theorem b127_509 {d : Nat} {S : mm_S} {a0 : Nat} {p0 : Nat} {p1 : Nat} (h0 : mm_obj S p1 12 = true) (h1 : p0 < mm_n S) : mm_ex d 127 509 [.ref a0] [.ref p0, .ref p1] S =
    mm_ex d 127 515 [.ref a0] [.int (nI 6), .ref a0] (mm_uR S p1 58 (some p0)) :=
  Eq.trans (mx_putr2 t127 d127_509 fl12_123 rfl h0 h1) <|
  Eq.trans (mx_aload_n t127 d127_512 (x := a0) rfl) <|
  (mx_bipush t127 d127_513 (v := nI 6) rfl)
theorem b127_515 {d : Nat} {S : mm_S} {a0 : Nat} {p0 : Int32} {p1 : Nat} (h0 : (!decide (p0 < 0) && decide ((p0).toNatClampNeg ≤ 1000) && decide (mm_n S < 1000000)) = true) : mm_ex d 127 515 [.ref a0] [.int p0, .ref p1] S =
    mm_ex d 127 517 [.ref a0] [.ref (mm_n S), .ref p1] (mm_nw S 13 (p0).toNatClampNeg) :=
  (mx_newi t127 d127_515 h0)
theorem b127_517 {d : Nat} {S : mm_S} {a0 : Nat} {p0 : Nat} {p1 : Nat} (h0 : mm_obj S p1 12 = true) (h1 : p0 < mm_n S) : mm_ex d 127 517 [.ref a0] [.ref p0, .ref p1] S =
    mm_ex d 127 523 [.ref a0] [.int (nI 6), .ref a0] (mm_uR S p1 64 (some p0)) :=
  Eq.trans (mx_putr2 t127 d127_517 fl12_126 rfl h0 h1) <|
  Eq.trans (mx_aload_n t127 d127_520 (x := a0) rfl) <|
  (mx_bipush t127 d127_521 (v := nI 6) rfl)
theorem b127_523 {d : Nat} {S : mm_S} {a0 : Nat} {p0 : Int32} {p1 : Nat} (h0 : (!decide (p0 < 0) && decide ((p0).toNatClampNeg ≤ 1000) && decide (mm_n S < 1000000)) = true) : mm_ex d 127 523 [.ref a0] [.int p0, .ref p1] S =
    mm_ex d 127 525 [.ref a0] [.ref (mm_n S), .ref p1] (mm_nw S 13 (p0).toNatClampNeg) :=
  (mx_newi t127 d127_523 h0)
theorem b127_525 {d : Nat} {S : mm_S} {a0 : Nat} {p0 : Nat} {p1 : Nat} (h0 : mm_obj S p1 12 = true) (h1 : p0 < mm_n S) : mm_ex d 127 525 [.ref a0] [.ref p0, .ref p1] S =
    mm_ex d 127 531 [.ref a0] [.int (nI 6), .ref a0] (mm_uR S p1 65 (some p0)) :=
  Eq.trans (mx_putr2 t127 d127_525 fl12_129 rfl h0 h1) <|
  Eq.trans (mx_aload_n t127 d127_528 (x := a0) rfl) <|
  (mx_bipush t127 d127_529 (v := nI 6) rfl)
theorem b127_531 {d : Nat} {S : mm_S} {a0 : Nat} {p0 : Int32} {p1 : Nat} (h0 : (!decide (p0 < 0) && decide ((p0).toNatClampNeg ≤ 1000) && decide (mm_n S < 1000000)) = true) : mm_ex d 127 531 [.ref a0] [.int p0, .ref p1] S =
    mm_ex d 127 533 [.ref a0] [.ref (mm_n S), .ref p1] (mm_nw S 13 (p0).toNatClampNeg) :=
  (mx_newi t127 d127_531 h0)
theorem b127_533 {d : Nat} {S : mm_S} {a0 : Nat} {p0 : Nat} {p1 : Nat} (h0 : mm_obj S p1 12 = true) (h1 : p0 < mm_n S) : mm_ex d 127 533 [.ref a0] [.ref p0, .ref p1] S =
    mm_ex d 127 539 [.ref a0] [.int (nI 6), .ref a0] (mm_uR S p1 66 (some p0)) :=
  Eq.trans (mx_putr2 t127 d127_533 fl12_132 rfl h0 h1) <|
  Eq.trans (mx_aload_n t127 d127_536 (x := a0) rfl) <|
  (mx_bipush t127 d127_537 (v := nI 6) rfl)
theorem b127_539 {d : Nat} {S : mm_S} {a0 : Nat} {p0 : Int32} {p1 : Nat} (h0 : (!decide (p0 < 0) && decide ((p0).toNatClampNeg ≤ 1000) && decide (mm_n S < 1000000)) = true) : mm_ex d 127 539 [.ref a0] [.int p0, .ref p1] S =
    mm_ex d 127 541 [.ref a0] [.ref (mm_n S), .ref p1] (mm_nw S 13 (p0).toNatClampNeg) :=
  (mx_newi t127 d127_539 h0)
theorem b127_541 {d : Nat} {S : mm_S} {a0 : Nat} {p0 : Nat} {p1 : Nat} (h0 : mm_obj S p1 12 = true) (h1 : p0 < mm_n S) : mm_ex d 127 541 [.ref a0] [.ref p0, .ref p1] S =
    mm_ex d 127 547 [.ref a0] [.int (nI 6), .ref a0] (mm_uR S p1 67 (some p0)) :=
  Eq.trans (mx_putr2 t127 d127_541 fl12_135 rfl h0 h1) <|
  Eq.trans (mx_aload_n t127 d127_544 (x := a0) rfl) <|
  (mx_bipush t127 d127_545 (v := nI 6) rfl)
theorem b127_547 {d : Nat} {S : mm_S} {a0 : Nat} {p0 : Int32} {p1 : Nat} (h0 : (!decide (p0 < 0) && decide ((p0).toNatClampNeg ≤ 1000) && decide (mm_n S < 1000000)) = true) : mm_ex d 127 547 [.ref a0] [.int p0, .ref p1] S =
    mm_ex d 127 549 [.ref a0] [.ref (mm_n S), .ref p1] (mm_nw S 13 (p0).toNatClampNeg) :=
  (mx_newi t127 d127_547 h0)
theorem b127_549 {d : Nat} {S : mm_S} {a0 : Nat} {p0 : Nat} {p1 : Nat} (h0 : mm_obj S p1 12 = true) (h1 : p0 < mm_n S) : mm_ex d 127 549 [.ref a0] [.ref p0, .ref p1] S =
    mm_ex d 127 555 [.ref a0] [.int (nI 6), .ref a0] (mm_uR S p1 68 (some p0)) :=
  Eq.trans (mx_putr2 t127 d127_549 fl12_138 rfl h0 h1) <|
  Eq.trans (mx_aload_n t127 d127_552 (x := a0) rfl) <|
  (mx_bipush t127 d127_553 (v := nI 6) rfl)
theorem b127_555 {d : Nat} {S : mm_S} {a0 : Nat} {p0 : Int32} {p1 : Nat} (h0 : (!decide (p0 < 0) && decide ((p0).toNatClampNeg ≤ 1000) && decide (mm_n S < 1000000)) = true) : mm_ex d 127 555 [.ref a0] [.int p0, .ref p1] S =
    mm_ex d 127 557 [.ref a0] [.ref (mm_n S), .ref p1] (mm_nw S 13 (p0).toNatClampNeg) :=
  (mx_newi t127 d127_555 h0)
theorem b127_557 {d : Nat} {S : mm_S} {a0 : Nat} {p0 : Nat} {p1 : Nat} (h0 : mm_obj S p1 12 = true) (h1 : p0 < mm_n S) : mm_ex d 127 557 [.ref a0] [.ref p0, .ref p1] S =
    mm_ex d 127 563 [.ref a0] [.int (nI 18), .ref a0] (mm_uR S p1 69 (some p0)) :=
  Eq.trans (mx_putr2 t127 d127_557 fl12_141 rfl h0 h1) <|
  Eq.trans (mx_aload_n t127 d127_560 (x := a0) rfl) <|
  (mx_bipush t127 d127_561 (v := nI 18) rfl)
theorem b127_563 {d : Nat} {S : mm_S} {a0 : Nat} {p0 : Int32} {p1 : Nat} (h0 : (!decide (p0 < 0) && decide ((p0).toNatClampNeg ≤ 1000) && decide (mm_n S < 1000000)) = true) : mm_ex d 127 563 [.ref a0] [.int p0, .ref p1] S =
    mm_ex d 127 565 [.ref a0] [.ref (mm_n S), .ref p1] (mm_nw S 13 (p0).toNatClampNeg) :=
  (mx_newi t127 d127_563 h0)
theorem b127_565 {d : Nat} {S : mm_S} {a0 : Nat} {p0 : Nat} {p1 : Nat} (h0 : mm_obj S p1 12 = true) (h1 : p0 < mm_n S) : mm_ex d 127 565 [.ref a0] [.ref p0, .ref p1] S =
    mm_ex d 127 571 [.ref a0] [.int (nI 6), .ref a0] (mm_uR S p1 70 (some p0)) :=
  Eq.trans (mx_putr2 t127 d127_565 fl12_144 rfl h0 h1) <|
  Eq.trans (mx_aload_n t127 d127_568 (x := a0) rfl) <|
  (mx_bipush t127 d127_569 (v := nI 6) rfl)
theorem b127_571 {d : Nat} {S : mm_S} {a0 : Nat} {p0 : Int32} {p1 : Nat} (h0 : (!decide (p0 < 0) && decide ((p0).toNatClampNeg ≤ 1000) && decide (mm_n S < 1000000)) = true) : mm_ex d 127 571 [.ref a0] [.int p0, .ref p1] S =
    mm_ex d 127 573 [.ref a0] [.ref (mm_n S), .ref p1] (mm_nw S 13 (p0).toNatClampNeg) :=
  (mx_newi t127 d127_571 h0)
theorem b127_573 {d : Nat} {S : mm_S} {a0 : Nat} {p0 : Nat} {p1 : Nat} (h0 : mm_obj S p1 12 = true) (h1 : p0 < mm_n S) : mm_ex d 127 573 [.ref a0] [.ref p0, .ref p1] S =
    mm_ex d 127 578 [.ref a0] [.int (nI 5), .ref a0] (mm_uR S p1 71 (some p0)) :=
  Eq.trans (mx_putr2 t127 d127_573 fl12_147 rfl h0 h1) <|
  Eq.trans (mx_aload_n t127 d127_576 (x := a0) rfl) <|
  (mx_iconst t127 d127_577 (v := nI 5) rfl)
theorem b127_578 {d : Nat} {S : mm_S} {a0 : Nat} {p0 : Int32} {p1 : Nat} (h0 : (!decide (p0 < 0) && decide ((p0).toNatClampNeg ≤ 1000) && decide (mm_n S < 1000000)) = true) : mm_ex d 127 578 [.ref a0] [.int p0, .ref p1] S =
    mm_ex d 127 580 [.ref a0] [.ref (mm_n S), .ref p1] (mm_nw S 13 (p0).toNatClampNeg) :=
  (mx_newi t127 d127_578 h0)
theorem b127_580 {d : Nat} {S : mm_S} {a0 : Nat} {p0 : Nat} {p1 : Nat} (h0 : mm_obj S p1 12 = true) (h1 : p0 < mm_n S) : mm_ex d 127 580 [.ref a0] [.ref p0, .ref p1] S =
    mm_ex d 127 586 [.ref a0] [.int (nI 12), .ref a0] (mm_uR S p1 72 (some p0)) :=
  Eq.trans (mx_putr2 t127 d127_580 fl12_150 rfl h0 h1) <|
  Eq.trans (mx_aload_n t127 d127_583 (x := a0) rfl) <|
  (mx_bipush t127 d127_584 (v := nI 12) rfl)
theorem b127_586 {d : Nat} {S : mm_S} {a0 : Nat} {p0 : Int32} {p1 : Nat} (h0 : (!decide (p0 < 0) && decide ((p0).toNatClampNeg ≤ 1000) && decide (mm_n S < 1000000)) = true) : mm_ex d 127 586 [.ref a0] [.int p0, .ref p1] S =
    mm_ex d 127 588 [.ref a0] [.ref (mm_n S), .ref p1] (mm_nw S 13 (p0).toNatClampNeg) :=
  (mx_newi t127 d127_586 h0)
theorem b127_588 {d : Nat} {S : mm_S} {a0 : Nat} {p0 : Nat} {p1 : Nat} (h0 : mm_obj S p1 12 = true) (h1 : p0 < mm_n S) : mm_ex d 127 588 [.ref a0] [.ref p0, .ref p1] S =
    mm_ex d 127 594 [.ref a0] [.int (nI 60), .ref a0] (mm_uR S p1 73 (some p0)) :=
  Eq.trans (mx_putr2 t127 d127_588 fl12_153 rfl h0 h1) <|
  Eq.trans (mx_aload_n t127 d127_591 (x := a0) rfl) <|
  (mx_bipush t127 d127_592 (v := nI 60) rfl)
theorem b127_594 {d : Nat} {S : mm_S} {a0 : Nat} {p0 : Int32} {p1 : Nat} (h0 : (!decide (p0 < 0) && decide ((p0).toNatClampNeg ≤ 1000) && decide (mm_n S < 1000000)) = true) : mm_ex d 127 594 [.ref a0] [.int p0, .ref p1] S =
    mm_ex d 127 596 [.ref a0] [.ref (mm_n S), .ref p1] (mm_nw S 14 (p0).toNatClampNeg) :=
  (mx_newj t127 d127_594 h0)
theorem b127_596 {d : Nat} {S : mm_S} {a0 : Nat} {p0 : Nat} {p1 : Nat} (h0 : mm_obj S p1 12 = true) (h1 : p0 < mm_n S) : mm_ex d 127 596 [.ref a0] [.ref p0, .ref p1] S =
    some (none, (mm_uR S p1 75 (some p0))) :=
  Eq.trans (mx_putr2 t127 d127_596 fl12_156 rfl h0 h1) <|
  (mx_vret t127 d127_599 rfl)
theorem e127 {d : Nat} {S : mm_S} {a0 : Nat} : mm_cl d 127 [.ref a0] S = mm_ex d 127 0 [.ref a0] [] S := mm_cl_eq t127 (Nat.le_of_ble_eq_true rfl) rfl
/-! X12_in -/
theorem d128_0 : decode prog_14_method_3_code 0 = .ok (.iload_n 0, 1) := by decide +kernel
theorem d128_1 : decode prog_14_method_3_code 1 = .ok (.iload_n 1, 1) := by decide +kernel
theorem d128_2 : decode prog_14_method_3_code 2 = .ok (.if_icmp .lt 12, 3) := by decide +kernel
theorem d128_5 : decode prog_14_method_3_code 5 = .ok (.iload_n 0, 1) := by decide +kernel
theorem d128_6 : decode prog_14_method_3_code 6 = .ok (.iload_n 2, 1) := by decide +kernel
theorem d128_7 : decode prog_14_method_3_code 7 = .ok (.if_icmp .gt 7, 3) := by decide +kernel
theorem d128_10 : decode prog_14_method_3_code 10 = .ok (.iconst 1, 1) := by decide +kernel
theorem d128_11 : decode prog_14_method_3_code 11 = .ok (.goto 4, 3) := by decide +kernel
theorem d128_14 : decode prog_14_method_3_code 14 = .ok (.iconst 0, 1) := by decide +kernel
theorem d128_15 : decode prog_14_method_3_code 15 = .ok (.ireturn, 1) := by decide +kernel
theorem b128_0 {d : Nat} {S : mm_S} {x0 : Int32} {x1 : Int32} {x2 : Int32} : mm_ex d 128 0 [.int x0, .int x1, .int x2] [] S =
    if x0 < x1 then mm_ex d 128 14 [.int x0, .int x1, .int x2] [] S else mm_ex d 128 5 [.int x0, .int x1, .int x2] [] S :=
  Eq.trans (mx_iload_n t128 d128_0 (x := x0) rfl) <|
  Eq.trans (mx_iload_n t128 d128_1 (x := x1) rfl) <|
  (mx_clt t128 d128_2 (tgt := 14) (by decide))
theorem b128_5 {d : Nat} {S : mm_S} {x0 : Int32} {x1 : Int32} {x2 : Int32} : mm_ex d 128 5 [.int x0, .int x1, .int x2] [] S =
    if x2 < x0 then mm_ex d 128 14 [.int x0, .int x1, .int x2] [] S else mm_ex d 128 10 [.int x0, .int x1, .int x2] [] S :=
  Eq.trans (mx_iload_n t128 d128_5 (x := x0) rfl) <|
  Eq.trans (mx_iload_n t128 d128_6 (x := x2) rfl) <|
  (mx_cgt t128 d128_7 (tgt := 14) (by decide))
theorem b128_10 {d : Nat} {S : mm_S} {x0 : Int32} {x1 : Int32} {x2 : Int32} : mm_ex d 128 10 [.int x0, .int x1, .int x2] [] S =
    some (some (.int (nI 1)), S) :=
  Eq.trans (mx_iconst t128 d128_10 (v := nI 1) rfl) <|
  Eq.trans (mx_goto t128 d128_11 (tgt := 15) (by decide)) <|
  (mx_iret t128 d128_15 (ty := .boolean) rfl rfl (fun h => nomatch h))
theorem b128_14 {d : Nat} {S : mm_S} {x0 : Int32} {x1 : Int32} {x2 : Int32} : mm_ex d 128 14 [.int x0, .int x1, .int x2] [] S =
    some (some (.int (nI 0)), S) :=
  Eq.trans (mx_iconst t128 d128_14 (v := nI 0) rfl) <|
  (mx_iret t128 d128_15 (ty := .boolean) rfl rfl (fun h => nomatch h))
theorem e128 {d : Nat} {S : mm_S} {x0 : Int32} {x1 : Int32} {x2 : Int32} : mm_cl d 128 [.int x0, .int x1, .int x2] S = mm_ex d 128 0 [.int x0, .int x1, .int x2] [] S := mm_cl_eq t128 (Nat.le_of_ble_eq_true rfl) rfl
/-! X12_isBuyer -/
theorem d129_0 : decode prog_14_method_4_code 0 = .ok (.iload_n 1, 1) := by decide +kernel
theorem d129_1 : decode prog_14_method_4_code 1 = .ok (.iconst 0, 1) := by decide +kernel
theorem d129_2 : decode prog_14_method_4_code 2 = .ok (.aload_n 0, 1) := by decide +kernel
theorem d129_3 : decode prog_14_method_4_code 3 = .ok (.getfield 159, 3) := by decide +kernel
theorem d129_6 : decode prog_14_method_4_code 6 = .ok (.iconst 1, 1) := by decide +kernel
theorem d129_7 : decode prog_14_method_4_code 7 = .ok (.isub, 1) := by decide +kernel
theorem d129_8 : decode prog_14_method_4_code 8 = .ok (.invokestatic 162, 3) := by decide +kernel
theorem d129_11 : decode prog_14_method_4_code 11 = .ok (.ireturn, 1) := by decide +kernel
theorem b129_0 {d : Nat} {S : mm_S} {a0 : Nat} {x1 : Int32} (h0 : mm_obj S a0 12 = true) : mm_ex (d + 1) 129 0 [.ref a0, .int x1] [] S =
    mm_bd (mm_cl d 128 [.int x1, .int (nI 0), .int ((mm_M S a0 0) - (nI 1))] S) (fun v S2 => mm_ex (d + 1) 129 11 [.ref a0, .int x1] (v.toList ++ []) S2) :=
  Eq.trans (mx_iload_n t129 d129_0 (x := x1) rfl) <|
  Eq.trans (mx_iconst t129 d129_1 (v := nI 0) rfl) <|
  Eq.trans (mx_aload_n t129 d129_2 (x := a0) rfl) <|
  Eq.trans (mx_geti t129 d129_3 rfl fl12_159 h0) <|
  Eq.trans (mx_iconst t129 d129_6 (v := nI 1) rfl) <|
  Eq.trans (mx_isub t129 d129_7) <|
  (mx_stat (st := []) t129 [.int x1, .int (nI 0), .int ((mm_M S a0 0) - (nI 1))] d129_8 acn12_162 mxn12_162 st12_162 rfl (Nat.le_of_ble_eq_true rfl) (Nat.le_of_ble_eq_true rfl))
theorem b129_11 {d : Nat} {S : mm_S} {a0 : Nat} {x1 : Int32} {p0 : Int32} (h0 : narrow .boolean (.int p0) = .int p0) : mm_ex d 129 11 [.ref a0, .int x1] [.int p0] S =
    some (some (.int p0), S) :=
  (mx_iret t129 d129_11 (ty := .boolean) rfl h0 (fun h => nomatch h))
theorem e129 {d : Nat} {S : mm_S} {a0 : Nat} {x1 : Int32} : mm_cl d 129 [.ref a0, .int x1] S = mm_ex d 129 0 [.ref a0, .int x1] [] S := mm_cl_eq t129 (Nat.le_of_ble_eq_true rfl) rfl
/-! X12_placeOf -/
theorem d130_0 : decode prog_14_method_5_code 0 = .ok (.iconst 0, 1) := by decide +kernel
theorem d130_1 : decode prog_14_method_5_code 1 = .ok (.istore_n 2, 1) := by decide +kernel
theorem d130_2 : decode prog_14_method_5_code 2 = .ok (.iload_n 2, 1) := by decide +kernel
theorem d130_3 : decode prog_14_method_5_code 3 = .ok (.aload_n 0, 1) := by decide +kernel
theorem d130_4 : decode prog_14_method_5_code 4 = .ok (.getfield 166, 3) := by decide +kernel
theorem d130_7 : decode prog_14_method_5_code 7 = .ok (.if_icmp .ge 21, 3) := by decide +kernel
theorem d130_10 : decode prog_14_method_5_code 10 = .ok (.aload_n 0, 1) := by decide +kernel
theorem d130_11 : decode prog_14_method_5_code 11 = .ok (.getfield 33, 3) := by decide +kernel
theorem d130_14 : decode prog_14_method_5_code 14 = .ok (.iload_n 2, 1) := by decide +kernel
theorem d130_15 : decode prog_14_method_5_code 15 = .ok (.iaload, 1) := by decide +kernel
theorem d130_16 : decode prog_14_method_5_code 16 = .ok (.iload_n 1, 1) := by decide +kernel
theorem d130_17 : decode prog_14_method_5_code 17 = .ok (.if_icmp .ne 5, 3) := by decide +kernel
theorem d130_20 : decode prog_14_method_5_code 20 = .ok (.iload_n 2, 1) := by decide +kernel
theorem d130_21 : decode prog_14_method_5_code 21 = .ok (.ireturn, 1) := by decide +kernel
theorem d130_22 : decode prog_14_method_5_code 22 = .ok (.iinc 2 1, 3) := by decide +kernel
theorem d130_25 : decode prog_14_method_5_code 25 = .ok (.goto (-23), 3) := by decide +kernel
theorem d130_28 : decode prog_14_method_5_code 28 = .ok (.bipush (-5), 2) := by decide +kernel
theorem d130_30 : decode prog_14_method_5_code 30 = .ok (.ireturn, 1) := by decide +kernel
theorem b130_0 {d : Nat} {S : mm_S} {a0 : Nat} {x1 : Int32} : mm_ex d 130 0 [.ref a0, .int x1, .null] [] S =
    mm_ex d 130 2 [.ref a0, .int x1, .int (nI 0)] [] S :=
  Eq.trans (mx_iconst t130 d130_0 (v := nI 0) rfl) <|
  (mx_istore_n t130 d130_1 (ls' := [.ref a0, .int x1, .int (nI 0)]) rfl rfl)
theorem b130_2 {d : Nat} {S : mm_S} {a0 : Nat} {x1 : Int32} {x2 : Int32} (h0 : mm_obj S a0 12 = true) : mm_ex d 130 2 [.ref a0, .int x1, .int x2] [] S =
    if (mm_M S a0 8) ≤ x2 then mm_ex d 130 28 [.ref a0, .int x1, .int x2] [] S else mm_ex d 130 10 [.ref a0, .int x1, .int x2] [] S :=
  Eq.trans (mx_iload_n t130 d130_2 (x := x2) rfl) <|
  Eq.trans (mx_aload_n t130 d130_3 (x := a0) rfl) <|
  Eq.trans (mx_geti t130 d130_4 rfl fl12_166 h0) <|
  (mx_cge t130 d130_7 (tgt := 28) (by decide))
theorem b130_10 {d : Nat} {S : mm_S} {a0 : Nat} {x1 : Int32} {x2 : Int32} (h0 : mm_obj S a0 12 = true) (h1 : (mm_R S a0 9).isSome = true) (h2 : mm_inb x2 (mm_N S (mm_rg S a0 9)) = true) (h3 : mm_arr S (mm_rg S a0 9) 13 = true) : mm_ex d 130 10 [.ref a0, .int x1, .int x2] [] S =
    if (mm_M S (mm_rg S a0 9) (x2).toNatClampNeg) = x1 then mm_ex d 130 20 [.ref a0, .int x1, .int x2] [] S else mm_ex d 130 22 [.ref a0, .int x1, .int x2] [] S :=
  Eq.trans (mx_aload_n t130 d130_10 (x := a0) rfl) <|
  Eq.trans (mx_getR t130 d130_11 rfl fl12_33 h0 h1) <|
  Eq.trans (mx_iload_n t130 d130_14 (x := x2) rfl) <|
  Eq.trans (mx_iald t130 d130_15 h3 h2) <|
  Eq.trans (mx_iload_n t130 d130_16 (x := x1) rfl) <|
  (mx_cne t130 d130_17 (tgt := 22) (by decide))
theorem b130_20 {d : Nat} {S : mm_S} {a0 : Nat} {x1 : Int32} {x2 : Int32} : mm_ex d 130 20 [.ref a0, .int x1, .int x2] [] S =
    some (some (.int x2), S) :=
  Eq.trans (mx_iload_n t130 d130_20 (x := x2) rfl) <|
  (mx_iret t130 d130_21 (ty := .int) rfl rfl (fun h => nomatch h))
theorem b130_22 {d : Nat} {S : mm_S} {a0 : Nat} {x1 : Int32} {x2 : Int32} : mm_ex d 130 22 [.ref a0, .int x1, .int x2] [] S =
    mm_ex d 130 2 [.ref a0, .int x1, .int (x2 + nI 1)] [] S :=
  Eq.trans (mx_iinc t130 d130_22 (x := x2) (v := nI 1) (ls' := [.ref a0, .int x1, .int (x2 + nI 1)]) rfl rfl rfl rfl) <|
  (mx_goto t130 d130_25 (tgt := 2) (by decide))
theorem b130_28 {d : Nat} {S : mm_S} {a0 : Nat} {x1 : Int32} {x2 : Int32} : mm_ex d 130 28 [.ref a0, .int x1, .int x2] [] S =
    some (some (.int (-5)), S) :=
  Eq.trans (mx_bipush t130 d130_28 (v := -5) rfl) <|
  (mx_iret t130 d130_30 (ty := .int) rfl rfl (fun h => nomatch h))
theorem e130 {d : Nat} {S : mm_S} {a0 : Nat} {x1 : Int32} : mm_cl d 130 [.ref a0, .int x1] S = mm_ex d 130 0 [.ref a0, .int x1, .null] [] S := mm_cl_eq t130 (Nat.le_of_ble_eq_true rfl) rfl
/-! X12_buyer -/
theorem dd131_0 : (decode prog_14_method_6_code 0 = .ok (.iload_n 1, 1)) ∧ (decode prog_14_method_6_code 1 = .ok (.iconst 0, 1)) ∧ (decode prog_14_method_6_code 2 = .ok (.bipush 6, 2)) ∧ (decode prog_14_method_6_code 4 = .ok (.invokestatic 162, 3)) ∧ (decode prog_14_method_6_code 7 = .ok (.ifCond .ne 5, 3)) ∧ (decode prog_14_method_6_code 10 = .ok (.iconst (-1), 1)) ∧ (decode prog_14_method_6_code 11 = .ok (.ireturn, 1)) ∧ (decode prog_14_method_6_code 12 = .ok (.iload_n 2, 1)) ∧ (decode prog_14_method_6_code 13 = .ok (.iconst 0, 1)) ∧ (decode prog_14_method_6_code 14 = .ok (.bipush 9, 2)) ∧ (decode prog_14_method_6_code 16 = .ok (.invokestatic 162, 3)) ∧ (decode prog_14_method_6_code 19 = .ok (.ifCond .eq 13, 3)) ∧ (decode prog_14_method_6_code 22 = .ok (.iload_n 3, 1)) ∧ (decode prog_14_method_6_code 23 = .ok (.iconst 0, 1)) ∧ (decode prog_14_method_6_code 24 = .ok (.bipush 99, 2)) ∧ (decode prog_14_method_6_code 26 = .ok (.invokestatic 162, 3)) := by decide +kernel
theorem d131_0 : decode prog_14_method_6_code 0 = .ok (.iload_n 1, 1) := dd131_0.1
theorem d131_1 : decode prog_14_method_6_code 1 = .ok (.iconst 0, 1) := dd131_0.2.1
theorem d131_2 : decode prog_14_method_6_code 2 = .ok (.bipush 6, 2) := dd131_0.2.2.1
theorem d131_4 : decode prog_14_method_6_code 4 = .ok (.invokestatic 162, 3) := dd131_0.2.2.2.1
theorem d131_7 : decode prog_14_method_6_code 7 = .ok (.ifCond .ne 5, 3) := dd131_0.2.2.2.2.1
theorem d131_10 : decode prog_14_method_6_code 10 = .ok (.iconst (-1), 1) := dd131_0.2.2.2.2.2.1
theorem d131_11 : decode prog_14_method_6_code 11 = .ok (.ireturn, 1) := dd131_0.2.2.2.2.2.2.1
theorem d131_12 : decode prog_14_method_6_code 12 = .ok (.iload_n 2, 1) := dd131_0.2.2.2.2.2.2.2.1
theorem d131_13 : decode prog_14_method_6_code 13 = .ok (.iconst 0, 1) := dd131_0.2.2.2.2.2.2.2.2.1
theorem d131_14 : decode prog_14_method_6_code 14 = .ok (.bipush 9, 2) := dd131_0.2.2.2.2.2.2.2.2.2.1
theorem d131_16 : decode prog_14_method_6_code 16 = .ok (.invokestatic 162, 3) := dd131_0.2.2.2.2.2.2.2.2.2.2.1
theorem d131_19 : decode prog_14_method_6_code 19 = .ok (.ifCond .eq 13, 3) := dd131_0.2.2.2.2.2.2.2.2.2.2.2.1
theorem d131_22 : decode prog_14_method_6_code 22 = .ok (.iload_n 3, 1) := dd131_0.2.2.2.2.2.2.2.2.2.2.2.2.1
theorem d131_23 : decode prog_14_method_6_code 23 = .ok (.iconst 0, 1) := dd131_0.2.2.2.2.2.2.2.2.2.2.2.2.2.1
theorem d131_24 : decode prog_14_method_6_code 24 = .ok (.bipush 99, 2) := dd131_0.2.2.2.2.2.2.2.2.2.2.2.2.2.2.1
theorem d131_26 : decode prog_14_method_6_code 26 = .ok (.invokestatic 162, 3) := dd131_0.2.2.2.2.2.2.2.2.2.2.2.2.2.2.2
theorem dd131_29 : (decode prog_14_method_6_code 29 = .ok (.ifCond .ne 6, 3)) ∧ (decode prog_14_method_6_code 32 = .ok (.bipush (-2), 2)) ∧ (decode prog_14_method_6_code 34 = .ok (.ireturn, 1)) ∧ (decode prog_14_method_6_code 35 = .ok (.aload_n 0, 1)) ∧ (decode prog_14_method_6_code 36 = .ok (.getfield 159, 3)) ∧ (decode prog_14_method_6_code 39 = .ok (.bipush 6, 2)) ∧ (decode prog_14_method_6_code 41 = .ok (.if_icmp .ne 6, 3)) ∧ (decode prog_14_method_6_code 44 = .ok (.bipush (-4), 2)) ∧ (decode prog_14_method_6_code 46 = .ok (.ireturn, 1)) ∧ (decode prog_14_method_6_code 47 = .ok (.aload_n 0, 1)) ∧ (decode prog_14_method_6_code 48 = .ok (.getfield 9, 3)) ∧ (decode prog_14_method_6_code 51 = .ok (.aload_n 0, 1)) ∧ (decode prog_14_method_6_code 52 = .ok (.getfield 159, 3)) ∧ (decode prog_14_method_6_code 55 = .ok (.iload_n 1, 1)) ∧ (decode prog_14_method_6_code 56 = .ok (.iastore, 1)) ∧ (decode prog_14_method_6_code 57 = .ok (.aload_n 0, 1)) := by decide +kernel
theorem d131_29 : decode prog_14_method_6_code 29 = .ok (.ifCond .ne 6, 3) := dd131_29.1
theorem d131_32 : decode prog_14_method_6_code 32 = .ok (.bipush (-2), 2) := dd131_29.2.1
theorem d131_34 : decode prog_14_method_6_code 34 = .ok (.ireturn, 1) := dd131_29.2.2.1
theorem d131_35 : decode prog_14_method_6_code 35 = .ok (.aload_n 0, 1) := dd131_29.2.2.2.1
theorem d131_36 : decode prog_14_method_6_code 36 = .ok (.getfield 159, 3) := dd131_29.2.2.2.2.1
theorem d131_39 : decode prog_14_method_6_code 39 = .ok (.bipush 6, 2) := dd131_29.2.2.2.2.2.1
theorem d131_41 : decode prog_14_method_6_code 41 = .ok (.if_icmp .ne 6, 3) := dd131_29.2.2.2.2.2.2.1
theorem d131_44 : decode prog_14_method_6_code 44 = .ok (.bipush (-4), 2) := dd131_29.2.2.2.2.2.2.2.1
theorem d131_46 : decode prog_14_method_6_code 46 = .ok (.ireturn, 1) := dd131_29.2.2.2.2.2.2.2.2.1
theorem d131_47 : decode prog_14_method_6_code 47 = .ok (.aload_n 0, 1) := dd131_29.2.2.2.2.2.2.2.2.2.1
theorem d131_48 : decode prog_14_method_6_code 48 = .ok (.getfield 9, 3) := dd131_29.2.2.2.2.2.2.2.2.2.2.1
theorem d131_51 : decode prog_14_method_6_code 51 = .ok (.aload_n 0, 1) := dd131_29.2.2.2.2.2.2.2.2.2.2.2.1
theorem d131_52 : decode prog_14_method_6_code 52 = .ok (.getfield 159, 3) := dd131_29.2.2.2.2.2.2.2.2.2.2.2.2.1
theorem d131_55 : decode prog_14_method_6_code 55 = .ok (.iload_n 1, 1) := dd131_29.2.2.2.2.2.2.2.2.2.2.2.2.2.1
theorem d131_56 : decode prog_14_method_6_code 56 = .ok (.iastore, 1) := dd131_29.2.2.2.2.2.2.2.2.2.2.2.2.2.2.1
theorem d131_57 : decode prog_14_method_6_code 57 = .ok (.aload_n 0, 1) := dd131_29.2.2.2.2.2.2.2.2.2.2.2.2.2.2.2
theorem dd131_58 : (decode prog_14_method_6_code 58 = .ok (.getfield 15, 3)) ∧ (decode prog_14_method_6_code 61 = .ok (.aload_n 0, 1)) ∧ (decode prog_14_method_6_code 62 = .ok (.getfield 159, 3)) ∧ (decode prog_14_method_6_code 65 = .ok (.iload_n 2, 1)) ∧ (decode prog_14_method_6_code 66 = .ok (.iastore, 1)) ∧ (decode prog_14_method_6_code 67 = .ok (.aload_n 0, 1)) ∧ (decode prog_14_method_6_code 68 = .ok (.getfield 18, 3)) ∧ (decode prog_14_method_6_code 71 = .ok (.aload_n 0, 1)) ∧ (decode prog_14_method_6_code 72 = .ok (.getfield 159, 3)) ∧ (decode prog_14_method_6_code 75 = .ok (.iload_n 3, 1)) ∧ (decode prog_14_method_6_code 76 = .ok (.iastore, 1)) ∧ (decode prog_14_method_6_code 77 = .ok (.aload_n 0, 1)) ∧ (decode prog_14_method_6_code 78 = .ok (.getfield 21, 3)) ∧ (decode prog_14_method_6_code 81 = .ok (.aload_n 0, 1)) ∧ (decode prog_14_method_6_code 82 = .ok (.getfield 159, 3)) ∧ (decode prog_14_method_6_code 85 = .ok (.bipush (-5), 2)) := by decide +kernel
theorem d131_58 : decode prog_14_method_6_code 58 = .ok (.getfield 15, 3) := dd131_58.1
theorem d131_61 : decode prog_14_method_6_code 61 = .ok (.aload_n 0, 1) := dd131_58.2.1
theorem d131_62 : decode prog_14_method_6_code 62 = .ok (.getfield 159, 3) := dd131_58.2.2.1
theorem d131_65 : decode prog_14_method_6_code 65 = .ok (.iload_n 2, 1) := dd131_58.2.2.2.1
theorem d131_66 : decode prog_14_method_6_code 66 = .ok (.iastore, 1) := dd131_58.2.2.2.2.1
theorem d131_67 : decode prog_14_method_6_code 67 = .ok (.aload_n 0, 1) := dd131_58.2.2.2.2.2.1
theorem d131_68 : decode prog_14_method_6_code 68 = .ok (.getfield 18, 3) := dd131_58.2.2.2.2.2.2.1
theorem d131_71 : decode prog_14_method_6_code 71 = .ok (.aload_n 0, 1) := dd131_58.2.2.2.2.2.2.2.1
theorem d131_72 : decode prog_14_method_6_code 72 = .ok (.getfield 159, 3) := dd131_58.2.2.2.2.2.2.2.2.1
theorem d131_75 : decode prog_14_method_6_code 75 = .ok (.iload_n 3, 1) := dd131_58.2.2.2.2.2.2.2.2.2.1
theorem d131_76 : decode prog_14_method_6_code 76 = .ok (.iastore, 1) := dd131_58.2.2.2.2.2.2.2.2.2.2.1
theorem d131_77 : decode prog_14_method_6_code 77 = .ok (.aload_n 0, 1) := dd131_58.2.2.2.2.2.2.2.2.2.2.2.1
theorem d131_78 : decode prog_14_method_6_code 78 = .ok (.getfield 21, 3) := dd131_58.2.2.2.2.2.2.2.2.2.2.2.2.1
theorem d131_81 : decode prog_14_method_6_code 81 = .ok (.aload_n 0, 1) := dd131_58.2.2.2.2.2.2.2.2.2.2.2.2.2.1
theorem d131_82 : decode prog_14_method_6_code 82 = .ok (.getfield 159, 3) := dd131_58.2.2.2.2.2.2.2.2.2.2.2.2.2.2.1
theorem d131_85 : decode prog_14_method_6_code 85 = .ok (.bipush (-5), 2) := dd131_58.2.2.2.2.2.2.2.2.2.2.2.2.2.2.2
theorem dd131_87 : (decode prog_14_method_6_code 87 = .ok (.iastore, 1)) ∧ (decode prog_14_method_6_code 88 = .ok (.aload_n 0, 1)) ∧ (decode prog_14_method_6_code 89 = .ok (.getfield 24, 3)) ∧ (decode prog_14_method_6_code 92 = .ok (.aload_n 0, 1)) ∧ (decode prog_14_method_6_code 93 = .ok (.getfield 159, 3)) ∧ (decode prog_14_method_6_code 96 = .ok (.iconst 0, 1)) ∧ (decode prog_14_method_6_code 97 = .ok (.iastore, 1)) ∧ (decode prog_14_method_6_code 98 = .ok (.aload_n 0, 1)) ∧ (decode prog_14_method_6_code 99 = .ok (.getfield 27, 3)) ∧ (decode prog_14_method_6_code 102 = .ok (.aload_n 0, 1)) ∧ (decode prog_14_method_6_code 103 = .ok (.getfield 159, 3)) ∧ (decode prog_14_method_6_code 106 = .ok (.iconst 0, 1)) ∧ (decode prog_14_method_6_code 107 = .ok (.iastore, 1)) ∧ (decode prog_14_method_6_code 108 = .ok (.iconst 0, 1)) ∧ (decode prog_14_method_6_code 109 = .ok (.istore 4, 2)) ∧ (decode prog_14_method_6_code 111 = .ok (.iload 4, 2)) := by decide +kernel
theorem d131_87 : decode prog_14_method_6_code 87 = .ok (.iastore, 1) := dd131_87.1
theorem d131_88 : decode prog_14_method_6_code 88 = .ok (.aload_n 0, 1) := dd131_87.2.1
theorem d131_89 : decode prog_14_method_6_code 89 = .ok (.getfield 24, 3) := dd131_87.2.2.1
theorem d131_92 : decode prog_14_method_6_code 92 = .ok (.aload_n 0, 1) := dd131_87.2.2.2.1
theorem d131_93 : decode prog_14_method_6_code 93 = .ok (.getfield 159, 3) := dd131_87.2.2.2.2.1
theorem d131_96 : decode prog_14_method_6_code 96 = .ok (.iconst 0, 1) := dd131_87.2.2.2.2.2.1
theorem d131_97 : decode prog_14_method_6_code 97 = .ok (.iastore, 1) := dd131_87.2.2.2.2.2.2.1
theorem d131_98 : decode prog_14_method_6_code 98 = .ok (.aload_n 0, 1) := dd131_87.2.2.2.2.2.2.2.1
theorem d131_99 : decode prog_14_method_6_code 99 = .ok (.getfield 27, 3) := dd131_87.2.2.2.2.2.2.2.2.1
theorem d131_102 : decode prog_14_method_6_code 102 = .ok (.aload_n 0, 1) := dd131_87.2.2.2.2.2.2.2.2.2.1
theorem d131_103 : decode prog_14_method_6_code 103 = .ok (.getfield 159, 3) := dd131_87.2.2.2.2.2.2.2.2.2.2.1
theorem d131_106 : decode prog_14_method_6_code 106 = .ok (.iconst 0, 1) := dd131_87.2.2.2.2.2.2.2.2.2.2.2.1
theorem d131_107 : decode prog_14_method_6_code 107 = .ok (.iastore, 1) := dd131_87.2.2.2.2.2.2.2.2.2.2.2.2.1
theorem d131_108 : decode prog_14_method_6_code 108 = .ok (.iconst 0, 1) := dd131_87.2.2.2.2.2.2.2.2.2.2.2.2.2.1
theorem d131_109 : decode prog_14_method_6_code 109 = .ok (.istore 4, 2) := dd131_87.2.2.2.2.2.2.2.2.2.2.2.2.2.2.1
theorem d131_111 : decode prog_14_method_6_code 111 = .ok (.iload 4, 2) := dd131_87.2.2.2.2.2.2.2.2.2.2.2.2.2.2.2
theorem dd131_113 : (decode prog_14_method_6_code 113 = .ok (.iconst 3, 1)) ∧ (decode prog_14_method_6_code 114 = .ok (.if_icmp .ge 24, 3)) ∧ (decode prog_14_method_6_code 117 = .ok (.aload_n 0, 1)) ∧ (decode prog_14_method_6_code 118 = .ok (.getfield 30, 3)) ∧ (decode prog_14_method_6_code 121 = .ok (.iconst 3, 1)) ∧ (decode prog_14_method_6_code 122 = .ok (.aload_n 0, 1)) ∧ (decode prog_14_method_6_code 123 = .ok (.getfield 159, 3)) ∧ (decode prog_14_method_6_code 126 = .ok (.imul, 1)) ∧ (decode prog_14_method_6_code 127 = .ok (.iload 4, 2)) ∧ (decode prog_14_method_6_code 129 = .ok (.iadd, 1)) ∧ (decode prog_14_method_6_code 130 = .ok (.iconst 0, 1)) ∧ (decode prog_14_method_6_code 131 = .ok (.iastore, 1)) ∧ (decode prog_14_method_6_code 132 = .ok (.iinc 4 1, 3)) ∧ (decode prog_14_method_6_code 135 = .ok (.goto (-24), 3)) ∧ (decode prog_14_method_6_code 138 = .ok (.aload_n 0, 1)) ∧ (decode prog_14_method_6_code 139 = .ok (.getfield 33, 3)) := by decide +kernel
theorem d131_113 : decode prog_14_method_6_code 113 = .ok (.iconst 3, 1) := dd131_113.1
theorem d131_114 : decode prog_14_method_6_code 114 = .ok (.if_icmp .ge 24, 3) := dd131_113.2.1
theorem d131_117 : decode prog_14_method_6_code 117 = .ok (.aload_n 0, 1) := dd131_113.2.2.1
theorem d131_118 : decode prog_14_method_6_code 118 = .ok (.getfield 30, 3) := dd131_113.2.2.2.1
theorem d131_121 : decode prog_14_method_6_code 121 = .ok (.iconst 3, 1) := dd131_113.2.2.2.2.1
theorem d131_122 : decode prog_14_method_6_code 122 = .ok (.aload_n 0, 1) := dd131_113.2.2.2.2.2.1
theorem d131_123 : decode prog_14_method_6_code 123 = .ok (.getfield 159, 3) := dd131_113.2.2.2.2.2.2.1
theorem d131_126 : decode prog_14_method_6_code 126 = .ok (.imul, 1) := dd131_113.2.2.2.2.2.2.2.1
theorem d131_127 : decode prog_14_method_6_code 127 = .ok (.iload 4, 2) := dd131_113.2.2.2.2.2.2.2.2.1
theorem d131_129 : decode prog_14_method_6_code 129 = .ok (.iadd, 1) := dd131_113.2.2.2.2.2.2.2.2.2.1
theorem d131_130 : decode prog_14_method_6_code 130 = .ok (.iconst 0, 1) := dd131_113.2.2.2.2.2.2.2.2.2.2.1
theorem d131_131 : decode prog_14_method_6_code 131 = .ok (.iastore, 1) := dd131_113.2.2.2.2.2.2.2.2.2.2.2.1
theorem d131_132 : decode prog_14_method_6_code 132 = .ok (.iinc 4 1, 3) := dd131_113.2.2.2.2.2.2.2.2.2.2.2.2.1
theorem d131_135 : decode prog_14_method_6_code 135 = .ok (.goto (-24), 3) := dd131_113.2.2.2.2.2.2.2.2.2.2.2.2.2.1
theorem d131_138 : decode prog_14_method_6_code 138 = .ok (.aload_n 0, 1) := dd131_113.2.2.2.2.2.2.2.2.2.2.2.2.2.2.1
theorem d131_139 : decode prog_14_method_6_code 139 = .ok (.getfield 33, 3) := dd131_113.2.2.2.2.2.2.2.2.2.2.2.2.2.2.2
theorem dd131_142 : (decode prog_14_method_6_code 142 = .ok (.aload_n 0, 1)) ∧ (decode prog_14_method_6_code 143 = .ok (.getfield 166, 3)) ∧ (decode prog_14_method_6_code 146 = .ok (.aload_n 0, 1)) ∧ (decode prog_14_method_6_code 147 = .ok (.getfield 159, 3)) ∧ (decode prog_14_method_6_code 150 = .ok (.iastore, 1)) ∧ (decode prog_14_method_6_code 151 = .ok (.aload_n 0, 1)) ∧ (decode prog_14_method_6_code 152 = .ok (.dup, 1)) ∧ (decode prog_14_method_6_code 153 = .ok (.getfield 166, 3)) ∧ (decode prog_14_method_6_code 156 = .ok (.iconst 1, 1)) ∧ (decode prog_14_method_6_code 157 = .ok (.iadd, 1)) ∧ (decode prog_14_method_6_code 158 = .ok (.putfield 166, 3)) ∧ (decode prog_14_method_6_code 161 = .ok (.aload_n 0, 1)) ∧ (decode prog_14_method_6_code 162 = .ok (.dup, 1)) ∧ (decode prog_14_method_6_code 163 = .ok (.getfield 159, 3)) ∧ (decode prog_14_method_6_code 166 = .ok (.iconst 1, 1)) ∧ (decode prog_14_method_6_code 167 = .ok (.iadd, 1)) := by decide +kernel
theorem d131_142 : decode prog_14_method_6_code 142 = .ok (.aload_n 0, 1) := dd131_142.1
theorem d131_143 : decode prog_14_method_6_code 143 = .ok (.getfield 166, 3) := dd131_142.2.1
theorem d131_146 : decode prog_14_method_6_code 146 = .ok (.aload_n 0, 1) := dd131_142.2.2.1
theorem d131_147 : decode prog_14_method_6_code 147 = .ok (.getfield 159, 3) := dd131_142.2.2.2.1
theorem d131_150 : decode prog_14_method_6_code 150 = .ok (.iastore, 1) := dd131_142.2.2.2.2.1
theorem d131_151 : decode prog_14_method_6_code 151 = .ok (.aload_n 0, 1) := dd131_142.2.2.2.2.2.1
theorem d131_152 : decode prog_14_method_6_code 152 = .ok (.dup, 1) := dd131_142.2.2.2.2.2.2.1
theorem d131_153 : decode prog_14_method_6_code 153 = .ok (.getfield 166, 3) := dd131_142.2.2.2.2.2.2.2.1
theorem d131_156 : decode prog_14_method_6_code 156 = .ok (.iconst 1, 1) := dd131_142.2.2.2.2.2.2.2.2.1
theorem d131_157 : decode prog_14_method_6_code 157 = .ok (.iadd, 1) := dd131_142.2.2.2.2.2.2.2.2.2.1
theorem d131_158 : decode prog_14_method_6_code 158 = .ok (.putfield 166, 3) := dd131_142.2.2.2.2.2.2.2.2.2.2.1
theorem d131_161 : decode prog_14_method_6_code 161 = .ok (.aload_n 0, 1) := dd131_142.2.2.2.2.2.2.2.2.2.2.2.1
theorem d131_162 : decode prog_14_method_6_code 162 = .ok (.dup, 1) := dd131_142.2.2.2.2.2.2.2.2.2.2.2.2.1
theorem d131_163 : decode prog_14_method_6_code 163 = .ok (.getfield 159, 3) := dd131_142.2.2.2.2.2.2.2.2.2.2.2.2.2.1
theorem d131_166 : decode prog_14_method_6_code 166 = .ok (.iconst 1, 1) := dd131_142.2.2.2.2.2.2.2.2.2.2.2.2.2.2.1
theorem d131_167 : decode prog_14_method_6_code 167 = .ok (.iadd, 1) := dd131_142.2.2.2.2.2.2.2.2.2.2.2.2.2.2.2
theorem dd131_168 : (decode prog_14_method_6_code 168 = .ok (.putfield 159, 3)) ∧ (decode prog_14_method_6_code 171 = .ok (.aload_n 0, 1)) ∧ (decode prog_14_method_6_code 172 = .ok (.getfield 159, 3)) ∧ (decode prog_14_method_6_code 175 = .ok (.iconst 1, 1)) ∧ (decode prog_14_method_6_code 176 = .ok (.isub, 1)) ∧ (decode prog_14_method_6_code 177 = .ok (.ireturn, 1)) := by decide +kernel
theorem d131_168 : decode prog_14_method_6_code 168 = .ok (.putfield 159, 3) := dd131_168.1
theorem d131_171 : decode prog_14_method_6_code 171 = .ok (.aload_n 0, 1) := dd131_168.2.1
theorem d131_172 : decode prog_14_method_6_code 172 = .ok (.getfield 159, 3) := dd131_168.2.2.1
theorem d131_175 : decode prog_14_method_6_code 175 = .ok (.iconst 1, 1) := dd131_168.2.2.2.1
theorem d131_176 : decode prog_14_method_6_code 176 = .ok (.isub, 1) := dd131_168.2.2.2.2.1
theorem d131_177 : decode prog_14_method_6_code 177 = .ok (.ireturn, 1) := dd131_168.2.2.2.2.2
theorem b131_0 {d : Nat} {S : mm_S} {a0 : Nat} {x1 : Int32} {x2 : Int32} {x3 : Int32} : mm_ex (d + 1) 131 0 [.ref a0, .int x1, .int x2, .int x3, .null] [] S =
    mm_bd (mm_cl d 128 [.int x1, .int (nI 0), .int (nI 6)] S) (fun v S2 => mm_ex (d + 1) 131 7 [.ref a0, .int x1, .int x2, .int x3, .null] (v.toList ++ []) S2) :=
  Eq.trans (mx_iload_n t131 d131_0 (x := x1) rfl) <|
  Eq.trans (mx_iconst t131 d131_1 (v := nI 0) rfl) <|
  Eq.trans (mx_bipush t131 d131_2 (v := nI 6) rfl) <|
  (mx_stat (st := []) t131 [.int x1, .int (nI 0), .int (nI 6)] d131_4 acn12_162 mxn12_162 st12_162 rfl (Nat.le_of_ble_eq_true rfl) (Nat.le_of_ble_eq_true rfl))
theorem b131_7 {d : Nat} {S : mm_S} {a0 : Nat} {x1 : Int32} {x2 : Int32} {x3 : Int32} {p0 : Int32} : mm_ex d 131 7 [.ref a0, .int x1, .int x2, .int x3, .null] [.int p0] S =
    if p0 = nI 0 then mm_ex d 131 10 [.ref a0, .int x1, .int x2, .int x3, .null] [] S else mm_ex d 131 12 [.ref a0, .int x1, .int x2, .int x3, .null] [] S :=
  (mx_ine t131 d131_7 (tgt := 12) (by decide))
theorem b131_10 {d : Nat} {S : mm_S} {a0 : Nat} {x1 : Int32} {x2 : Int32} {x3 : Int32} : mm_ex d 131 10 [.ref a0, .int x1, .int x2, .int x3, .null] [] S =
    some (some (.int (-1)), S) :=
  Eq.trans (mx_iconst t131 d131_10 (v := -1) rfl) <|
  (mx_iret t131 d131_11 (ty := .int) rfl rfl (fun h => nomatch h))
theorem b131_12 {d : Nat} {S : mm_S} {a0 : Nat} {x1 : Int32} {x2 : Int32} {x3 : Int32} : mm_ex (d + 1) 131 12 [.ref a0, .int x1, .int x2, .int x3, .null] [] S =
    mm_bd (mm_cl d 128 [.int x2, .int (nI 0), .int (nI 9)] S) (fun v S2 => mm_ex (d + 1) 131 19 [.ref a0, .int x1, .int x2, .int x3, .null] (v.toList ++ []) S2) :=
  Eq.trans (mx_iload_n t131 d131_12 (x := x2) rfl) <|
  Eq.trans (mx_iconst t131 d131_13 (v := nI 0) rfl) <|
  Eq.trans (mx_bipush t131 d131_14 (v := nI 9) rfl) <|
  (mx_stat (st := []) t131 [.int x2, .int (nI 0), .int (nI 9)] d131_16 acn12_162 mxn12_162 st12_162 rfl (Nat.le_of_ble_eq_true rfl) (Nat.le_of_ble_eq_true rfl))
theorem b131_19 {d : Nat} {S : mm_S} {a0 : Nat} {x1 : Int32} {x2 : Int32} {x3 : Int32} {p0 : Int32} : mm_ex d 131 19 [.ref a0, .int x1, .int x2, .int x3, .null] [.int p0] S =
    if p0 = nI 0 then mm_ex d 131 32 [.ref a0, .int x1, .int x2, .int x3, .null] [] S else mm_ex d 131 22 [.ref a0, .int x1, .int x2, .int x3, .null] [] S :=
  (mx_ieq t131 d131_19 (tgt := 32) (by decide))
theorem b131_22 {d : Nat} {S : mm_S} {a0 : Nat} {x1 : Int32} {x2 : Int32} {x3 : Int32} : mm_ex (d + 1) 131 22 [.ref a0, .int x1, .int x2, .int x3, .null] [] S =
    mm_bd (mm_cl d 128 [.int x3, .int (nI 0), .int (nI 99)] S) (fun v S2 => mm_ex (d + 1) 131 29 [.ref a0, .int x1, .int x2, .int x3, .null] (v.toList ++ []) S2) :=
  Eq.trans (mx_iload_n t131 d131_22 (x := x3) rfl) <|
  Eq.trans (mx_iconst t131 d131_23 (v := nI 0) rfl) <|
  Eq.trans (mx_bipush t131 d131_24 (v := nI 99) rfl) <|
  (mx_stat (st := []) t131 [.int x3, .int (nI 0), .int (nI 99)] d131_26 acn12_162 mxn12_162 st12_162 rfl (Nat.le_of_ble_eq_true rfl) (Nat.le_of_ble_eq_true rfl))
theorem b131_29 {d : Nat} {S : mm_S} {a0 : Nat} {x1 : Int32} {x2 : Int32} {x3 : Int32} {p0 : Int32} : mm_ex d 131 29 [.ref a0, .int x1, .int x2, .int x3, .null] [.int p0] S =
    if p0 = nI 0 then mm_ex d 131 32 [.ref a0, .int x1, .int x2, .int x3, .null] [] S else mm_ex d 131 35 [.ref a0, .int x1, .int x2, .int x3, .null] [] S :=
  (mx_ine t131 d131_29 (tgt := 35) (by decide))
theorem b131_32 {d : Nat} {S : mm_S} {a0 : Nat} {x1 : Int32} {x2 : Int32} {x3 : Int32} : mm_ex d 131 32 [.ref a0, .int x1, .int x2, .int x3, .null] [] S =
    some (some (.int (-2)), S) :=
  Eq.trans (mx_bipush t131 d131_32 (v := -2) rfl) <|
  (mx_iret t131 d131_34 (ty := .int) rfl rfl (fun h => nomatch h))
theorem b131_35 {d : Nat} {S : mm_S} {a0 : Nat} {x1 : Int32} {x2 : Int32} {x3 : Int32} (h0 : mm_obj S a0 12 = true) : mm_ex d 131 35 [.ref a0, .int x1, .int x2, .int x3, .null] [] S =
    if (mm_M S a0 0) = (nI 6) then mm_ex d 131 44 [.ref a0, .int x1, .int x2, .int x3, .null] [] S else mm_ex d 131 47 [.ref a0, .int x1, .int x2, .int x3, .null] [] S :=
  Eq.trans (mx_aload_n t131 d131_35 (x := a0) rfl) <|
  Eq.trans (mx_geti t131 d131_36 rfl fl12_159 h0) <|
  Eq.trans (mx_bipush t131 d131_39 (v := nI 6) rfl) <|
  (mx_cne t131 d131_41 (tgt := 47) (by decide))
theorem b131_44 {d : Nat} {S : mm_S} {a0 : Nat} {x1 : Int32} {x2 : Int32} {x3 : Int32} : mm_ex d 131 44 [.ref a0, .int x1, .int x2, .int x3, .null] [] S =
    some (some (.int (-4)), S) :=
  Eq.trans (mx_bipush t131 d131_44 (v := -4) rfl) <|
  (mx_iret t131 d131_46 (ty := .int) rfl rfl (fun h => nomatch h))
theorem b131_47 {d : Nat} {S : mm_S} {a0 : Nat} {x1 : Int32} {x2 : Int32} {x3 : Int32} (h0 : mm_obj S a0 12 = true) (h1 : (mm_R S a0 1).isSome = true) (h2 : mm_arr S (mm_rg S a0 1) 13 = true) (h3 : mm_inb (mm_M S a0 0) (mm_N S (mm_rg S a0 1)) = true) (h4 : (mm_R S a0 2).isSome = true) : mm_ex d 131 47 [.ref a0, .int x1, .int x2, .int x3, .null] [] S =
    mm_ex d 131 62 [.ref a0, .int x1, .int x2, .int x3, .null] [.ref a0, .ref (mm_rg S a0 2)] (mm_uM S (mm_rg S a0 1) (mm_M S a0 0).toNatClampNeg x1) :=
  Eq.trans (mx_aload_n t131 d131_47 (x := a0) rfl) <|
  Eq.trans (mx_getR t131 d131_48 rfl fl12_9 h0 h1) <|
  Eq.trans (mx_aload_n t131 d131_51 (x := a0) rfl) <|
  Eq.trans (mx_geti t131 d131_52 rfl fl12_159 h0) <|
  Eq.trans (mx_iload_n t131 d131_55 (x := x1) rfl) <|
  Eq.trans (mx_iast2 t131 d131_56 h2 h3) <|
  Eq.trans (mx_aload_n t131 d131_57 (x := a0) rfl) <|
  Eq.trans (mx_getR t131 d131_58 rfl fl12_15 h0 h4) <|
  (mx_aload_n t131 d131_61 (x := a0) rfl)
theorem b131_62 {d : Nat} {S : mm_S} {a0 : Nat} {x1 : Int32} {x2 : Int32} {x3 : Int32} {p0 : Nat} {p1 : Nat} (h0 : mm_obj S p0 12 = true) (h1 : mm_arr S p1 13 = true) (h2 : mm_inb (mm_M S p0 0) (mm_N S p1) = true) (h3 : mm_obj S a0 12 = true) (h4 : (mm_R S a0 3).isSome = true) : mm_ex d 131 62 [.ref a0, .int x1, .int x2, .int x3, .null] [.ref p0, .ref p1] S =
    mm_ex d 131 72 [.ref a0, .int x1, .int x2, .int x3, .null] [.ref a0, .ref (mm_rg S a0 3)] (mm_uM S p1 (mm_M S p0 0).toNatClampNeg x2) :=
  Eq.trans (mx_geti t131 d131_62 rfl fl12_159 h0) <|
  Eq.trans (mx_iload_n t131 d131_65 (x := x2) rfl) <|
  Eq.trans (mx_iast2 t131 d131_66 h1 h2) <|
  Eq.trans (mx_aload_n t131 d131_67 (x := a0) rfl) <|
  Eq.trans (mx_getR t131 d131_68 rfl fl12_18 h3 h4) <|
  (mx_aload_n t131 d131_71 (x := a0) rfl)
theorem b131_72 {d : Nat} {S : mm_S} {a0 : Nat} {x1 : Int32} {x2 : Int32} {x3 : Int32} {p0 : Nat} {p1 : Nat} (h0 : mm_obj S p0 12 = true) (h1 : mm_arr S p1 13 = true) (h2 : mm_inb (mm_M S p0 0) (mm_N S p1) = true) (h3 : mm_obj S a0 12 = true) (h4 : (mm_R S a0 4).isSome = true) : mm_ex d 131 72 [.ref a0, .int x1, .int x2, .int x3, .null] [.ref p0, .ref p1] S =
    mm_ex d 131 82 [.ref a0, .int x1, .int x2, .int x3, .null] [.ref a0, .ref (mm_rg S a0 4)] (mm_uM S p1 (mm_M S p0 0).toNatClampNeg x3) :=
  Eq.trans (mx_geti t131 d131_72 rfl fl12_159 h0) <|
  Eq.trans (mx_iload_n t131 d131_75 (x := x3) rfl) <|
  Eq.trans (mx_iast2 t131 d131_76 h1 h2) <|
  Eq.trans (mx_aload_n t131 d131_77 (x := a0) rfl) <|
  Eq.trans (mx_getR t131 d131_78 rfl fl12_21 h3 h4) <|
  (mx_aload_n t131 d131_81 (x := a0) rfl)
theorem b131_82 {d : Nat} {S : mm_S} {a0 : Nat} {x1 : Int32} {x2 : Int32} {x3 : Int32} {p0 : Nat} {p1 : Nat} (h0 : mm_obj S p0 12 = true) (h1 : mm_arr S p1 13 = true) (h2 : mm_inb (mm_M S p0 0) (mm_N S p1) = true) (h3 : mm_obj S a0 12 = true) (h4 : (mm_R S a0 5).isSome = true) : mm_ex d 131 82 [.ref a0, .int x1, .int x2, .int x3, .null] [.ref p0, .ref p1] S =
    mm_ex d 131 93 [.ref a0, .int x1, .int x2, .int x3, .null] [.ref a0, .ref (mm_rg S a0 5)] (mm_uM S p1 (mm_M S p0 0).toNatClampNeg (-5)) :=
  Eq.trans (mx_geti t131 d131_82 rfl fl12_159 h0) <|
  Eq.trans (mx_bipush t131 d131_85 (v := -5) rfl) <|
  Eq.trans (mx_iast2 t131 d131_87 h1 h2) <|
  Eq.trans (mx_aload_n t131 d131_88 (x := a0) rfl) <|
  Eq.trans (mx_getR t131 d131_89 rfl fl12_24 h3 h4) <|
  (mx_aload_n t131 d131_92 (x := a0) rfl)
theorem b131_93 {d : Nat} {S : mm_S} {a0 : Nat} {x1 : Int32} {x2 : Int32} {x3 : Int32} {p0 : Nat} {p1 : Nat} (h0 : mm_obj S p0 12 = true) (h1 : mm_arr S p1 13 = true) (h2 : mm_inb (mm_M S p0 0) (mm_N S p1) = true) (h3 : mm_obj S a0 12 = true) (h4 : (mm_R S a0 6).isSome = true) : mm_ex d 131 93 [.ref a0, .int x1, .int x2, .int x3, .null] [.ref p0, .ref p1] S =
    mm_ex d 131 103 [.ref a0, .int x1, .int x2, .int x3, .null] [.ref a0, .ref (mm_rg S a0 6)] (mm_uM S p1 (mm_M S p0 0).toNatClampNeg (nI 0)) :=
  Eq.trans (mx_geti t131 d131_93 rfl fl12_159 h0) <|
  Eq.trans (mx_iconst t131 d131_96 (v := nI 0) rfl) <|
  Eq.trans (mx_iast2 t131 d131_97 h1 h2) <|
  Eq.trans (mx_aload_n t131 d131_98 (x := a0) rfl) <|
  Eq.trans (mx_getR t131 d131_99 rfl fl12_27 h3 h4) <|
  (mx_aload_n t131 d131_102 (x := a0) rfl)
theorem b131_103 {d : Nat} {S : mm_S} {a0 : Nat} {x1 : Int32} {x2 : Int32} {x3 : Int32} {p0 : Nat} {p1 : Nat} (h0 : mm_obj S p0 12 = true) (h1 : mm_arr S p1 13 = true) (h2 : mm_inb (mm_M S p0 0) (mm_N S p1) = true) : mm_ex d 131 103 [.ref a0, .int x1, .int x2, .int x3, .null] [.ref p0, .ref p1] S =
    mm_ex d 131 111 [.ref a0, .int x1, .int x2, .int x3, .int (nI 0)] [] (mm_uM S p1 (mm_M S p0 0).toNatClampNeg (nI 0)) :=
  Eq.trans (mx_geti t131 d131_103 rfl fl12_159 h0) <|
  Eq.trans (mx_iconst t131 d131_106 (v := nI 0) rfl) <|
  Eq.trans (mx_iast2 t131 d131_107 h1 h2) <|
  Eq.trans (mx_iconst t131 d131_108 (v := nI 0) rfl) <|
  (mx_istore t131 d131_109 (ls' := [.ref a0, .int x1, .int x2, .int x3, .int (nI 0)]) rfl rfl)
theorem b131_111 {d : Nat} {S : mm_S} {a0 : Nat} {x1 : Int32} {x2 : Int32} {x3 : Int32} {x4 : Int32} : mm_ex d 131 111 [.ref a0, .int x1, .int x2, .int x3, .int x4] [] S =
    if (nI 3) ≤ x4 then mm_ex d 131 138 [.ref a0, .int x1, .int x2, .int x3, .int x4] [] S else mm_ex d 131 117 [.ref a0, .int x1, .int x2, .int x3, .int x4] [] S :=
  Eq.trans (mx_iload t131 d131_111 (x := x4) rfl) <|
  Eq.trans (mx_iconst t131 d131_113 (v := nI 3) rfl) <|
  (mx_cge t131 d131_114 (tgt := 138) (by decide))
theorem b131_117 {d : Nat} {S : mm_S} {a0 : Nat} {x1 : Int32} {x2 : Int32} {x3 : Int32} {x4 : Int32} (h0 : mm_obj S a0 12 = true) (h1 : (mm_R S a0 7).isSome = true) (h2 : mm_arr S (mm_rg S a0 7) 13 = true) (h3 : mm_inb (((nI 3) * (mm_M S a0 0)) + x4) (mm_N S (mm_rg S a0 7)) = true) : mm_ex d 131 117 [.ref a0, .int x1, .int x2, .int x3, .int x4] [] S =
    mm_ex d 131 111 [.ref a0, .int x1, .int x2, .int x3, .int (x4 + nI 1)] [] (mm_uM S (mm_rg S a0 7) (((nI 3) * (mm_M S a0 0)) + x4).toNatClampNeg (nI 0)) :=
  Eq.trans (mx_aload_n t131 d131_117 (x := a0) rfl) <|
  Eq.trans (mx_getR t131 d131_118 rfl fl12_30 h0 h1) <|
  Eq.trans (mx_iconst t131 d131_121 (v := nI 3) rfl) <|
  Eq.trans (mx_aload_n t131 d131_122 (x := a0) rfl) <|
  Eq.trans (mx_geti t131 d131_123 rfl fl12_159 h0) <|
  Eq.trans (mx_imul t131 d131_126) <|
  Eq.trans (mx_iload t131 d131_127 (x := x4) rfl) <|
  Eq.trans (mx_iadd t131 d131_129) <|
  Eq.trans (mx_iconst t131 d131_130 (v := nI 0) rfl) <|
  Eq.trans (mx_iast2 t131 d131_131 h2 h3) <|
  Eq.trans (mx_iinc t131 d131_132 (x := x4) (v := nI 1) (ls' := [.ref a0, .int x1, .int x2, .int x3, .int (x4 + nI 1)]) rfl rfl rfl rfl) <|
  (mx_goto t131 d131_135 (tgt := 111) (by decide))
theorem b131_138 {d : Nat} {S : mm_S} {a0 : Nat} {x1 : Int32} {x2 : Int32} {x3 : Int32} {x4 : Int32} (h0 : mm_obj S a0 12 = true) (h1 : (mm_R S a0 9).isSome = true) (h2 : mm_arr S (mm_rg S a0 9) 13 = true) (h3 : mm_inb (mm_M S a0 8) (mm_N S (mm_rg S a0 9)) = true) : mm_ex d 131 138 [.ref a0, .int x1, .int x2, .int x3, .int x4] [] S =
    mm_ex d 131 153 [.ref a0, .int x1, .int x2, .int x3, .int x4] [.ref a0, .ref a0] (mm_uM S (mm_rg S a0 9) (mm_M S a0 8).toNatClampNeg (mm_M S a0 0)) :=
  Eq.trans (mx_aload_n t131 d131_138 (x := a0) rfl) <|
  Eq.trans (mx_getR t131 d131_139 rfl fl12_33 h0 h1) <|
  Eq.trans (mx_aload_n t131 d131_142 (x := a0) rfl) <|
  Eq.trans (mx_geti t131 d131_143 rfl fl12_166 h0) <|
  Eq.trans (mx_aload_n t131 d131_146 (x := a0) rfl) <|
  Eq.trans (mx_geti t131 d131_147 rfl fl12_159 h0) <|
  Eq.trans (mx_iast2 t131 d131_150 h2 h3) <|
  Eq.trans (mx_aload_n t131 d131_151 (x := a0) rfl) <|
  (mx_dupr t131 d131_152)
theorem b131_153 {d : Nat} {S : mm_S} {a0 : Nat} {x1 : Int32} {x2 : Int32} {x3 : Int32} {x4 : Int32} {p0 : Nat} {p1 : Nat} (h0 : mm_obj S p0 12 = true) (h1 : mm_obj S p1 12 = true) : mm_ex d 131 153 [.ref a0, .int x1, .int x2, .int x3, .int x4] [.ref p0, .ref p1] S =
    mm_ex d 131 163 [.ref a0, .int x1, .int x2, .int x3, .int x4] [.ref a0, .ref a0] (mm_uM S p1 8 ((mm_M S p0 8) + (nI 1))) :=
  Eq.trans (mx_geti t131 d131_153 rfl fl12_166 h0) <|
  Eq.trans (mx_iconst t131 d131_156 (v := nI 1) rfl) <|
  Eq.trans (mx_iadd t131 d131_157) <|
  Eq.trans (mx_puti2 t131 d131_158 fl12_166 rfl h1) <|
  Eq.trans (mx_aload_n t131 d131_161 (x := a0) rfl) <|
  (mx_dupr t131 d131_162)
theorem b131_163 {d : Nat} {S : mm_S} {a0 : Nat} {x1 : Int32} {x2 : Int32} {x3 : Int32} {x4 : Int32} {p0 : Nat} {p1 : Nat} (h0 : mm_obj S p0 12 = true) (h1 : mm_obj S p1 12 = true) : mm_ex d 131 163 [.ref a0, .int x1, .int x2, .int x3, .int x4] [.ref p0, .ref p1] S =
    mm_ex d 131 172 [.ref a0, .int x1, .int x2, .int x3, .int x4] [.ref a0] (mm_uM S p1 0 ((mm_M S p0 0) + (nI 1))) :=
  Eq.trans (mx_geti t131 d131_163 rfl fl12_159 h0) <|
  Eq.trans (mx_iconst t131 d131_166 (v := nI 1) rfl) <|
  Eq.trans (mx_iadd t131 d131_167) <|
  Eq.trans (mx_puti2 t131 d131_168 fl12_159 rfl h1) <|
  (mx_aload_n t131 d131_171 (x := a0) rfl)
theorem b131_172 {d : Nat} {S : mm_S} {a0 : Nat} {x1 : Int32} {x2 : Int32} {x3 : Int32} {x4 : Int32} {p0 : Nat} (h0 : mm_obj S p0 12 = true) : mm_ex d 131 172 [.ref a0, .int x1, .int x2, .int x3, .int x4] [.ref p0] S =
    some (some (.int ((mm_M S p0 0) - (nI 1))), S) :=
  Eq.trans (mx_geti t131 d131_172 rfl fl12_159 h0) <|
  Eq.trans (mx_iconst t131 d131_175 (v := nI 1) rfl) <|
  Eq.trans (mx_isub t131 d131_176) <|
  (mx_iret t131 d131_177 (ty := .int) rfl rfl (fun h => nomatch h))
theorem e131 {d : Nat} {S : mm_S} {a0 : Nat} {x1 : Int32} {x2 : Int32} {x3 : Int32} : mm_cl d 131 [.ref a0, .int x1, .int x2, .int x3] S = mm_ex d 131 0 [.ref a0, .int x1, .int x2, .int x3, .null] [] S := mm_cl_eq t131 (Nat.le_of_ble_eq_true rfl) rfl
/-! X12_of -/
theorem dd132_0 : (decode prog_14_method_7_code 0 = .ok (.aload_n 0, 1)) ∧ (decode prog_14_method_7_code 1 = .ok (.iload_n 1, 1)) ∧ (decode prog_14_method_7_code 2 = .ok (.invokevirtual 169, 3)) ∧ (decode prog_14_method_7_code 5 = .ok (.ifCond .ne 7, 3)) ∧ (decode prog_14_method_7_code 8 = .ok (.sipush (-10001), 3)) ∧ (decode prog_14_method_7_code 11 = .ok (.ireturn, 1)) ∧ (decode prog_14_method_7_code 12 = .ok (.iload_n 2, 1)) ∧ (decode prog_14_method_7_code 13 = .ok (.tableswitch 157 0 8 #[51, 58, 65, 72, 79, 86, 92, 98, 104], 51)) ∧ (decode prog_14_method_7_code 64 = .ok (.aload_n 0, 1)) ∧ (decode prog_14_method_7_code 65 = .ok (.getfield 9, 3)) ∧ (decode prog_14_method_7_code 68 = .ok (.iload_n 1, 1)) ∧ (decode prog_14_method_7_code 69 = .ok (.iaload, 1)) ∧ (decode prog_14_method_7_code 70 = .ok (.ireturn, 1)) ∧ (decode prog_14_method_7_code 71 = .ok (.aload_n 0, 1)) ∧ (decode prog_14_method_7_code 72 = .ok (.getfield 15, 3)) ∧ (decode prog_14_method_7_code 75 = .ok (.iload_n 1, 1)) := by decide +kernel
theorem d132_0 : decode prog_14_method_7_code 0 = .ok (.aload_n 0, 1) := dd132_0.1
theorem d132_1 : decode prog_14_method_7_code 1 = .ok (.iload_n 1, 1) := dd132_0.2.1
theorem d132_2 : decode prog_14_method_7_code 2 = .ok (.invokevirtual 169, 3) := dd132_0.2.2.1
theorem d132_5 : decode prog_14_method_7_code 5 = .ok (.ifCond .ne 7, 3) := dd132_0.2.2.2.1
theorem d132_8 : decode prog_14_method_7_code 8 = .ok (.sipush (-10001), 3) := dd132_0.2.2.2.2.1
theorem d132_11 : decode prog_14_method_7_code 11 = .ok (.ireturn, 1) := dd132_0.2.2.2.2.2.1
theorem d132_12 : decode prog_14_method_7_code 12 = .ok (.iload_n 2, 1) := dd132_0.2.2.2.2.2.2.1
theorem d132_13 : decode prog_14_method_7_code 13 = .ok (.tableswitch 157 0 8 #[51, 58, 65, 72, 79, 86, 92, 98, 104], 51) := dd132_0.2.2.2.2.2.2.2.1
theorem d132_64 : decode prog_14_method_7_code 64 = .ok (.aload_n 0, 1) := dd132_0.2.2.2.2.2.2.2.2.1
theorem d132_65 : decode prog_14_method_7_code 65 = .ok (.getfield 9, 3) := dd132_0.2.2.2.2.2.2.2.2.2.1
theorem d132_68 : decode prog_14_method_7_code 68 = .ok (.iload_n 1, 1) := dd132_0.2.2.2.2.2.2.2.2.2.2.1
theorem d132_69 : decode prog_14_method_7_code 69 = .ok (.iaload, 1) := dd132_0.2.2.2.2.2.2.2.2.2.2.2.1
theorem d132_70 : decode prog_14_method_7_code 70 = .ok (.ireturn, 1) := dd132_0.2.2.2.2.2.2.2.2.2.2.2.2.1
theorem d132_71 : decode prog_14_method_7_code 71 = .ok (.aload_n 0, 1) := dd132_0.2.2.2.2.2.2.2.2.2.2.2.2.2.1
theorem d132_72 : decode prog_14_method_7_code 72 = .ok (.getfield 15, 3) := dd132_0.2.2.2.2.2.2.2.2.2.2.2.2.2.2.1
theorem d132_75 : decode prog_14_method_7_code 75 = .ok (.iload_n 1, 1) := dd132_0.2.2.2.2.2.2.2.2.2.2.2.2.2.2.2
theorem dd132_76 : (decode prog_14_method_7_code 76 = .ok (.iaload, 1)) ∧ (decode prog_14_method_7_code 77 = .ok (.ireturn, 1)) ∧ (decode prog_14_method_7_code 78 = .ok (.aload_n 0, 1)) ∧ (decode prog_14_method_7_code 79 = .ok (.getfield 18, 3)) ∧ (decode prog_14_method_7_code 82 = .ok (.iload_n 1, 1)) ∧ (decode prog_14_method_7_code 83 = .ok (.iaload, 1)) ∧ (decode prog_14_method_7_code 84 = .ok (.ireturn, 1)) ∧ (decode prog_14_method_7_code 85 = .ok (.aload_n 0, 1)) ∧ (decode prog_14_method_7_code 86 = .ok (.getfield 21, 3)) ∧ (decode prog_14_method_7_code 89 = .ok (.iload_n 1, 1)) ∧ (decode prog_14_method_7_code 90 = .ok (.iaload, 1)) ∧ (decode prog_14_method_7_code 91 = .ok (.ireturn, 1)) ∧ (decode prog_14_method_7_code 92 = .ok (.aload_n 0, 1)) ∧ (decode prog_14_method_7_code 93 = .ok (.getfield 24, 3)) ∧ (decode prog_14_method_7_code 96 = .ok (.iload_n 1, 1)) ∧ (decode prog_14_method_7_code 97 = .ok (.iaload, 1)) := by decide +kernel
theorem d132_76 : decode prog_14_method_7_code 76 = .ok (.iaload, 1) := dd132_76.1
theorem d132_77 : decode prog_14_method_7_code 77 = .ok (.ireturn, 1) := dd132_76.2.1
theorem d132_78 : decode prog_14_method_7_code 78 = .ok (.aload_n 0, 1) := dd132_76.2.2.1
theorem d132_79 : decode prog_14_method_7_code 79 = .ok (.getfield 18, 3) := dd132_76.2.2.2.1
theorem d132_82 : decode prog_14_method_7_code 82 = .ok (.iload_n 1, 1) := dd132_76.2.2.2.2.1
theorem d132_83 : decode prog_14_method_7_code 83 = .ok (.iaload, 1) := dd132_76.2.2.2.2.2.1
theorem d132_84 : decode prog_14_method_7_code 84 = .ok (.ireturn, 1) := dd132_76.2.2.2.2.2.2.1
theorem d132_85 : decode prog_14_method_7_code 85 = .ok (.aload_n 0, 1) := dd132_76.2.2.2.2.2.2.2.1
theorem d132_86 : decode prog_14_method_7_code 86 = .ok (.getfield 21, 3) := dd132_76.2.2.2.2.2.2.2.2.1
theorem d132_89 : decode prog_14_method_7_code 89 = .ok (.iload_n 1, 1) := dd132_76.2.2.2.2.2.2.2.2.2.1
theorem d132_90 : decode prog_14_method_7_code 90 = .ok (.iaload, 1) := dd132_76.2.2.2.2.2.2.2.2.2.2.1
theorem d132_91 : decode prog_14_method_7_code 91 = .ok (.ireturn, 1) := dd132_76.2.2.2.2.2.2.2.2.2.2.2.1
theorem d132_92 : decode prog_14_method_7_code 92 = .ok (.aload_n 0, 1) := dd132_76.2.2.2.2.2.2.2.2.2.2.2.2.1
theorem d132_93 : decode prog_14_method_7_code 93 = .ok (.getfield 24, 3) := dd132_76.2.2.2.2.2.2.2.2.2.2.2.2.2.1
theorem d132_96 : decode prog_14_method_7_code 96 = .ok (.iload_n 1, 1) := dd132_76.2.2.2.2.2.2.2.2.2.2.2.2.2.2.1
theorem d132_97 : decode prog_14_method_7_code 97 = .ok (.iaload, 1) := dd132_76.2.2.2.2.2.2.2.2.2.2.2.2.2.2.2
theorem dd132_98 : (decode prog_14_method_7_code 98 = .ok (.ireturn, 1)) ∧ (decode prog_14_method_7_code 99 = .ok (.aload_n 0, 1)) ∧ (decode prog_14_method_7_code 100 = .ok (.iload_n 1, 1)) ∧ (decode prog_14_method_7_code 101 = .ok (.invokevirtual 173, 3)) ∧ (decode prog_14_method_7_code 104 = .ok (.ireturn, 1)) ∧ (decode prog_14_method_7_code 105 = .ok (.aload_n 0, 1)) ∧ (decode prog_14_method_7_code 106 = .ok (.iload_n 1, 1)) ∧ (decode prog_14_method_7_code 107 = .ok (.invokevirtual 177, 3)) ∧ (decode prog_14_method_7_code 110 = .ok (.ireturn, 1)) ∧ (decode prog_14_method_7_code 111 = .ok (.aload_n 0, 1)) ∧ (decode prog_14_method_7_code 112 = .ok (.iload_n 1, 1)) ∧ (decode prog_14_method_7_code 113 = .ok (.invokevirtual 180, 3)) ∧ (decode prog_14_method_7_code 116 = .ok (.ireturn, 1)) ∧ (decode prog_14_method_7_code 117 = .ok (.aload_n 0, 1)) ∧ (decode prog_14_method_7_code 118 = .ok (.getfield 9, 3)) ∧ (decode prog_14_method_7_code 121 = .ok (.iload_n 1, 1)) := by decide +kernel
theorem d132_98 : decode prog_14_method_7_code 98 = .ok (.ireturn, 1) := dd132_98.1
theorem d132_99 : decode prog_14_method_7_code 99 = .ok (.aload_n 0, 1) := dd132_98.2.1
theorem d132_100 : decode prog_14_method_7_code 100 = .ok (.iload_n 1, 1) := dd132_98.2.2.1
theorem d132_101 : decode prog_14_method_7_code 101 = .ok (.invokevirtual 173, 3) := dd132_98.2.2.2.1
theorem d132_104 : decode prog_14_method_7_code 104 = .ok (.ireturn, 1) := dd132_98.2.2.2.2.1
theorem d132_105 : decode prog_14_method_7_code 105 = .ok (.aload_n 0, 1) := dd132_98.2.2.2.2.2.1
theorem d132_106 : decode prog_14_method_7_code 106 = .ok (.iload_n 1, 1) := dd132_98.2.2.2.2.2.2.1
theorem d132_107 : decode prog_14_method_7_code 107 = .ok (.invokevirtual 177, 3) := dd132_98.2.2.2.2.2.2.2.1
theorem d132_110 : decode prog_14_method_7_code 110 = .ok (.ireturn, 1) := dd132_98.2.2.2.2.2.2.2.2.1
theorem d132_111 : decode prog_14_method_7_code 111 = .ok (.aload_n 0, 1) := dd132_98.2.2.2.2.2.2.2.2.2.1
theorem d132_112 : decode prog_14_method_7_code 112 = .ok (.iload_n 1, 1) := dd132_98.2.2.2.2.2.2.2.2.2.2.1
theorem d132_113 : decode prog_14_method_7_code 113 = .ok (.invokevirtual 180, 3) := dd132_98.2.2.2.2.2.2.2.2.2.2.2.1
theorem d132_116 : decode prog_14_method_7_code 116 = .ok (.ireturn, 1) := dd132_98.2.2.2.2.2.2.2.2.2.2.2.2.1
theorem d132_117 : decode prog_14_method_7_code 117 = .ok (.aload_n 0, 1) := dd132_98.2.2.2.2.2.2.2.2.2.2.2.2.2.1
theorem d132_118 : decode prog_14_method_7_code 118 = .ok (.getfield 9, 3) := dd132_98.2.2.2.2.2.2.2.2.2.2.2.2.2.2.1
theorem d132_121 : decode prog_14_method_7_code 121 = .ok (.iload_n 1, 1) := dd132_98.2.2.2.2.2.2.2.2.2.2.2.2.2.2.2
theorem dd132_122 : (decode prog_14_method_7_code 122 = .ok (.iaload, 1)) ∧ (decode prog_14_method_7_code 123 = .ok (.bipush 6, 2)) ∧ (decode prog_14_method_7_code 125 = .ok (.if_icmp .ne 42, 3)) ∧ (decode prog_14_method_7_code 128 = .ok (.bipush 100, 2)) ∧ (decode prog_14_method_7_code 130 = .ok (.aload_n 0, 1)) ∧ (decode prog_14_method_7_code 131 = .ok (.getfield 30, 3)) ∧ (decode prog_14_method_7_code 134 = .ok (.iconst 3, 1)) ∧ (decode prog_14_method_7_code 135 = .ok (.iload_n 1, 1)) ∧ (decode prog_14_method_7_code 136 = .ok (.imul, 1)) ∧ (decode prog_14_method_7_code 137 = .ok (.iaload, 1)) ∧ (decode prog_14_method_7_code 138 = .ok (.imul, 1)) ∧ (decode prog_14_method_7_code 139 = .ok (.bipush 10, 2)) ∧ (decode prog_14_method_7_code 141 = .ok (.aload_n 0, 1)) ∧ (decode prog_14_method_7_code 142 = .ok (.getfield 30, 3)) ∧ (decode prog_14_method_7_code 145 = .ok (.iconst 3, 1)) ∧ (decode prog_14_method_7_code 146 = .ok (.iload_n 1, 1)) := by decide +kernel
theorem d132_122 : decode prog_14_method_7_code 122 = .ok (.iaload, 1) := dd132_122.1
theorem d132_123 : decode prog_14_method_7_code 123 = .ok (.bipush 6, 2) := dd132_122.2.1
theorem d132_125 : decode prog_14_method_7_code 125 = .ok (.if_icmp .ne 42, 3) := dd132_122.2.2.1
theorem d132_128 : decode prog_14_method_7_code 128 = .ok (.bipush 100, 2) := dd132_122.2.2.2.1
theorem d132_130 : decode prog_14_method_7_code 130 = .ok (.aload_n 0, 1) := dd132_122.2.2.2.2.1
theorem d132_131 : decode prog_14_method_7_code 131 = .ok (.getfield 30, 3) := dd132_122.2.2.2.2.2.1
theorem d132_134 : decode prog_14_method_7_code 134 = .ok (.iconst 3, 1) := dd132_122.2.2.2.2.2.2.1
theorem d132_135 : decode prog_14_method_7_code 135 = .ok (.iload_n 1, 1) := dd132_122.2.2.2.2.2.2.2.1
theorem d132_136 : decode prog_14_method_7_code 136 = .ok (.imul, 1) := dd132_122.2.2.2.2.2.2.2.2.1
theorem d132_137 : decode prog_14_method_7_code 137 = .ok (.iaload, 1) := dd132_122.2.2.2.2.2.2.2.2.2.1
theorem d132_138 : decode prog_14_method_7_code 138 = .ok (.imul, 1) := dd132_122.2.2.2.2.2.2.2.2.2.2.1
theorem d132_139 : decode prog_14_method_7_code 139 = .ok (.bipush 10, 2) := dd132_122.2.2.2.2.2.2.2.2.2.2.2.1
theorem d132_141 : decode prog_14_method_7_code 141 = .ok (.aload_n 0, 1) := dd132_122.2.2.2.2.2.2.2.2.2.2.2.2.1
theorem d132_142 : decode prog_14_method_7_code 142 = .ok (.getfield 30, 3) := dd132_122.2.2.2.2.2.2.2.2.2.2.2.2.2.1
theorem d132_145 : decode prog_14_method_7_code 145 = .ok (.iconst 3, 1) := dd132_122.2.2.2.2.2.2.2.2.2.2.2.2.2.2.1
theorem d132_146 : decode prog_14_method_7_code 146 = .ok (.iload_n 1, 1) := dd132_122.2.2.2.2.2.2.2.2.2.2.2.2.2.2.2
theorem dd132_147 : (decode prog_14_method_7_code 147 = .ok (.imul, 1)) ∧ (decode prog_14_method_7_code 148 = .ok (.iconst 1, 1)) ∧ (decode prog_14_method_7_code 149 = .ok (.iadd, 1)) ∧ (decode prog_14_method_7_code 150 = .ok (.iaload, 1)) ∧ (decode prog_14_method_7_code 151 = .ok (.imul, 1)) ∧ (decode prog_14_method_7_code 152 = .ok (.iadd, 1)) ∧ (decode prog_14_method_7_code 153 = .ok (.aload_n 0, 1)) ∧ (decode prog_14_method_7_code 154 = .ok (.getfield 30, 3)) ∧ (decode prog_14_method_7_code 157 = .ok (.iconst 3, 1)) ∧ (decode prog_14_method_7_code 158 = .ok (.iload_n 1, 1)) ∧ (decode prog_14_method_7_code 159 = .ok (.imul, 1)) ∧ (decode prog_14_method_7_code 160 = .ok (.iconst 2, 1)) ∧ (decode prog_14_method_7_code 161 = .ok (.iadd, 1)) ∧ (decode prog_14_method_7_code 162 = .ok (.iaload, 1)) ∧ (decode prog_14_method_7_code 163 = .ok (.iadd, 1)) ∧ (decode prog_14_method_7_code 164 = .ok (.goto 5, 3)) := by decide +kernel
theorem d132_147 : decode prog_14_method_7_code 147 = .ok (.imul, 1) := dd132_147.1
theorem d132_148 : decode prog_14_method_7_code 148 = .ok (.iconst 1, 1) := dd132_147.2.1
theorem d132_149 : decode prog_14_method_7_code 149 = .ok (.iadd, 1) := dd132_147.2.2.1
theorem d132_150 : decode prog_14_method_7_code 150 = .ok (.iaload, 1) := dd132_147.2.2.2.1
theorem d132_151 : decode prog_14_method_7_code 151 = .ok (.imul, 1) := dd132_147.2.2.2.2.1
theorem d132_152 : decode prog_14_method_7_code 152 = .ok (.iadd, 1) := dd132_147.2.2.2.2.2.1
theorem d132_153 : decode prog_14_method_7_code 153 = .ok (.aload_n 0, 1) := dd132_147.2.2.2.2.2.2.1
theorem d132_154 : decode prog_14_method_7_code 154 = .ok (.getfield 30, 3) := dd132_147.2.2.2.2.2.2.2.1
theorem d132_157 : decode prog_14_method_7_code 157 = .ok (.iconst 3, 1) := dd132_147.2.2.2.2.2.2.2.2.1
theorem d132_158 : decode prog_14_method_7_code 158 = .ok (.iload_n 1, 1) := dd132_147.2.2.2.2.2.2.2.2.2.1
theorem d132_159 : decode prog_14_method_7_code 159 = .ok (.imul, 1) := dd132_147.2.2.2.2.2.2.2.2.2.2.1
theorem d132_160 : decode prog_14_method_7_code 160 = .ok (.iconst 2, 1) := dd132_147.2.2.2.2.2.2.2.2.2.2.2.1
theorem d132_161 : decode prog_14_method_7_code 161 = .ok (.iadd, 1) := dd132_147.2.2.2.2.2.2.2.2.2.2.2.2.1
theorem d132_162 : decode prog_14_method_7_code 162 = .ok (.iaload, 1) := dd132_147.2.2.2.2.2.2.2.2.2.2.2.2.2.1
theorem d132_163 : decode prog_14_method_7_code 163 = .ok (.iadd, 1) := dd132_147.2.2.2.2.2.2.2.2.2.2.2.2.2.2.1
theorem d132_164 : decode prog_14_method_7_code 164 = .ok (.goto 5, 3) := dd132_147.2.2.2.2.2.2.2.2.2.2.2.2.2.2.2
theorem dd132_167 : (decode prog_14_method_7_code 167 = .ok (.bipush (-5), 2)) ∧ (decode prog_14_method_7_code 169 = .ok (.ireturn, 1)) ∧ (decode prog_14_method_7_code 170 = .ok (.sipush (-10001), 3)) ∧ (decode prog_14_method_7_code 173 = .ok (.ireturn, 1)) := by decide +kernel
theorem d132_167 : decode prog_14_method_7_code 167 = .ok (.bipush (-5), 2) := dd132_167.1
theorem d132_169 : decode prog_14_method_7_code 169 = .ok (.ireturn, 1) := dd132_167.2.1
theorem d132_170 : decode prog_14_method_7_code 170 = .ok (.sipush (-10001), 3) := dd132_167.2.2.1
theorem d132_173 : decode prog_14_method_7_code 173 = .ok (.ireturn, 1) := dd132_167.2.2.2
theorem b132_0 {d : Nat} {S : mm_S} {a0 : Nat} {x1 : Int32} {x2 : Int32} (h0 : mm_rk S a0 = 12) : mm_ex (d + 1) 132 0 [.ref a0, .int x1, .int x2] [] S =
    mm_bd (mm_cl d 129 [.ref a0, .int x1] S) (fun v S2 => mm_ex (d + 1) 132 5 [.ref a0, .int x1, .int x2] (v.toList ++ []) S2) :=
  Eq.trans (mx_aload_n t132 d132_0 (x := a0) rfl) <|
  Eq.trans (mx_iload_n t132 d132_1 (x := x1) rfl) <|
  (mx_virt (st := []) (k := 12) t132 [.int x1] d132_2 vt12_169 rfl rfl (Nat.le_of_ble_eq_true rfl) (Nat.le_of_ble_eq_true rfl) h0)
theorem b132_5 {d : Nat} {S : mm_S} {a0 : Nat} {x1 : Int32} {x2 : Int32} {p0 : Int32} : mm_ex d 132 5 [.ref a0, .int x1, .int x2] [.int p0] S =
    if p0 = nI 0 then mm_ex d 132 8 [.ref a0, .int x1, .int x2] [] S else mm_ex d 132 12 [.ref a0, .int x1, .int x2] [] S :=
  (mx_ine t132 d132_5 (tgt := 12) (by decide))
theorem b132_8 {d : Nat} {S : mm_S} {a0 : Nat} {x1 : Int32} {x2 : Int32} : mm_ex d 132 8 [.ref a0, .int x1, .int x2] [] S =
    some (some (.int (-10001)), S) :=
  Eq.trans (mx_sipush t132 d132_8 (v := -10001) rfl) <|
  (mx_iret t132 d132_11 (ty := .int) rfl rfl (fun h => nomatch h))
theorem b132_12 {d : Nat} {S : mm_S} {a0 : Nat} {x1 : Int32} {x2 : Int32} : mm_ex d 132 12 [.ref a0, .int x1, .int x2] [] S =
    mm_ex d 132 13 [.ref a0, .int x1, .int x2] [.int x2] S :=
  (mx_iload_n t132 d132_12 (x := x2) rfl)
theorem b132_13 {d : Nat} {S : mm_S} {a0 : Nat} {x1 : Int32} {x2 : Int32} {p0 : Int32} : mm_ex d 132 13 [.ref a0, .int x1, .int x2] [.int p0] S =
    if p0 = nI 0 then mm_ex d 132 64 [.ref a0, .int x1, .int x2] [] S else if p0 = nI 1 then mm_ex d 132 71 [.ref a0, .int x1, .int x2] [] S else if p0 = nI 2 then mm_ex d 132 78 [.ref a0, .int x1, .int x2] [] S else if p0 = nI 3 then mm_ex d 132 85 [.ref a0, .int x1, .int x2] [] S else if p0 = nI 4 then mm_ex d 132 92 [.ref a0, .int x1, .int x2] [] S else if p0 = nI 5 then mm_ex d 132 99 [.ref a0, .int x1, .int x2] [] S else if p0 = nI 6 then mm_ex d 132 105 [.ref a0, .int x1, .int x2] [] S else if p0 = nI 7 then mm_ex d 132 111 [.ref a0, .int x1, .int x2] [] S else if p0 = nI 8 then mm_ex d 132 117 [.ref a0, .int x1, .int x2] [] S else mm_ex d 132 170 [.ref a0, .int x1, .int x2] [] S := by
  by_cases e0 : p0 = nI 0
  · subst e0
    rw [if_pos rfl]
    exact mx_tswI t132 d132_13 (by decide) (off := 51) (by decide) (by decide)
  by_cases e1 : p0 = nI 1
  · subst e1
    rw [if_neg (by decide), if_pos rfl]
    exact mx_tswI t132 d132_13 (by decide) (off := 58) (by decide) (by decide)
  by_cases e2 : p0 = nI 2
  · subst e2
    rw [if_neg (by decide), if_neg (by decide), if_pos rfl]
    exact mx_tswI t132 d132_13 (by decide) (off := 65) (by decide) (by decide)
  by_cases e3 : p0 = nI 3
  · subst e3
    rw [if_neg (by decide), if_neg (by decide), if_neg (by decide), if_pos rfl]
    exact mx_tswI t132 d132_13 (by decide) (off := 72) (by decide) (by decide)
  by_cases e4 : p0 = nI 4
  · subst e4
    rw [if_neg (by decide), if_neg (by decide), if_neg (by decide), if_neg (by decide), if_pos rfl]
    exact mx_tswI t132 d132_13 (by decide) (off := 79) (by decide) (by decide)
  by_cases e5 : p0 = nI 5
  · subst e5
    rw [if_neg (by decide), if_neg (by decide), if_neg (by decide), if_neg (by decide), if_neg (by decide), if_pos rfl]
    exact mx_tswI t132 d132_13 (by decide) (off := 86) (by decide) (by decide)
  by_cases e6 : p0 = nI 6
  · subst e6
    rw [if_neg (by decide), if_neg (by decide), if_neg (by decide), if_neg (by decide), if_neg (by decide), if_neg (by decide), if_pos rfl]
    exact mx_tswI t132 d132_13 (by decide) (off := 92) (by decide) (by decide)
  by_cases e7 : p0 = nI 7
  · subst e7
    rw [if_neg (by decide), if_neg (by decide), if_neg (by decide), if_neg (by decide), if_neg (by decide), if_neg (by decide), if_neg (by decide), if_pos rfl]
    exact mx_tswI t132 d132_13 (by decide) (off := 98) (by decide) (by decide)
  by_cases e8 : p0 = nI 8
  · subst e8
    rw [if_neg (by decide), if_neg (by decide), if_neg (by decide), if_neg (by decide), if_neg (by decide), if_neg (by decide), if_neg (by decide), if_neg (by decide), if_pos rfl]
    exact mx_tswI t132 d132_13 (by decide) (off := 104) (by decide) (by decide)
  rw [if_neg e0, if_neg e1, if_neg e2, if_neg e3, if_neg e4, if_neg e5, if_neg e6, if_neg e7, if_neg e8]
  have g0 := mm_ni32 e0
  have g1 := mm_ni32 e1
  have g2 := mm_ni32 e2
  have g3 := mm_ni32 e3
  have g4 := mm_ni32 e4
  have g5 := mm_ni32 e5
  have g6 := mm_ni32 e6
  have g7 := mm_ni32 e7
  have g8 := mm_ni32 e8
  rw [show (nI 0 : Int32).toInt = 0 by decide] at g0
  rw [show (nI 1 : Int32).toInt = 1 by decide] at g1
  rw [show (nI 2 : Int32).toInt = 2 by decide] at g2
  rw [show (nI 3 : Int32).toInt = 3 by decide] at g3
  rw [show (nI 4 : Int32).toInt = 4 by decide] at g4
  rw [show (nI 5 : Int32).toInt = 5 by decide] at g5
  rw [show (nI 6 : Int32).toInt = 6 by decide] at g6
  rw [show (nI 7 : Int32).toInt = 7 by decide] at g7
  rw [show (nI 8 : Int32).toInt = 8 by decide] at g8
  exact mx_tswD t132 d132_13 (by omega) (by decide)
theorem b132_64 {d : Nat} {S : mm_S} {a0 : Nat} {x1 : Int32} {x2 : Int32} (h0 : mm_obj S a0 12 = true) (h1 : (mm_R S a0 1).isSome = true) (h2 : mm_inb x1 (mm_N S (mm_rg S a0 1)) = true) (h3 : mm_arr S (mm_rg S a0 1) 13 = true) : mm_ex d 132 64 [.ref a0, .int x1, .int x2] [] S =
    some (some (.int (mm_M S (mm_rg S a0 1) (x1).toNatClampNeg)), S) :=
  Eq.trans (mx_aload_n t132 d132_64 (x := a0) rfl) <|
  Eq.trans (mx_getR t132 d132_65 rfl fl12_9 h0 h1) <|
  Eq.trans (mx_iload_n t132 d132_68 (x := x1) rfl) <|
  Eq.trans (mx_iald t132 d132_69 h3 h2) <|
  (mx_iret t132 d132_70 (ty := .int) rfl rfl (fun h => nomatch h))
theorem b132_71 {d : Nat} {S : mm_S} {a0 : Nat} {x1 : Int32} {x2 : Int32} (h0 : mm_obj S a0 12 = true) (h1 : (mm_R S a0 2).isSome = true) (h2 : mm_inb x1 (mm_N S (mm_rg S a0 2)) = true) (h3 : mm_arr S (mm_rg S a0 2) 13 = true) : mm_ex d 132 71 [.ref a0, .int x1, .int x2] [] S =
    some (some (.int (mm_M S (mm_rg S a0 2) (x1).toNatClampNeg)), S) :=
  Eq.trans (mx_aload_n t132 d132_71 (x := a0) rfl) <|
  Eq.trans (mx_getR t132 d132_72 rfl fl12_15 h0 h1) <|
  Eq.trans (mx_iload_n t132 d132_75 (x := x1) rfl) <|
  Eq.trans (mx_iald t132 d132_76 h3 h2) <|
  (mx_iret t132 d132_77 (ty := .int) rfl rfl (fun h => nomatch h))
theorem b132_78 {d : Nat} {S : mm_S} {a0 : Nat} {x1 : Int32} {x2 : Int32} (h0 : mm_obj S a0 12 = true) (h1 : (mm_R S a0 3).isSome = true) (h2 : mm_inb x1 (mm_N S (mm_rg S a0 3)) = true) (h3 : mm_arr S (mm_rg S a0 3) 13 = true) : mm_ex d 132 78 [.ref a0, .int x1, .int x2] [] S =
    some (some (.int (mm_M S (mm_rg S a0 3) (x1).toNatClampNeg)), S) :=
  Eq.trans (mx_aload_n t132 d132_78 (x := a0) rfl) <|
  Eq.trans (mx_getR t132 d132_79 rfl fl12_18 h0 h1) <|
  Eq.trans (mx_iload_n t132 d132_82 (x := x1) rfl) <|
  Eq.trans (mx_iald t132 d132_83 h3 h2) <|
  (mx_iret t132 d132_84 (ty := .int) rfl rfl (fun h => nomatch h))
theorem b132_85 {d : Nat} {S : mm_S} {a0 : Nat} {x1 : Int32} {x2 : Int32} (h0 : mm_obj S a0 12 = true) (h1 : (mm_R S a0 4).isSome = true) (h2 : mm_inb x1 (mm_N S (mm_rg S a0 4)) = true) (h3 : mm_arr S (mm_rg S a0 4) 13 = true) : mm_ex d 132 85 [.ref a0, .int x1, .int x2] [] S =
    some (some (.int (mm_M S (mm_rg S a0 4) (x1).toNatClampNeg)), S) :=
  Eq.trans (mx_aload_n t132 d132_85 (x := a0) rfl) <|
  Eq.trans (mx_getR t132 d132_86 rfl fl12_21 h0 h1) <|
  Eq.trans (mx_iload_n t132 d132_89 (x := x1) rfl) <|
  Eq.trans (mx_iald t132 d132_90 h3 h2) <|
  (mx_iret t132 d132_91 (ty := .int) rfl rfl (fun h => nomatch h))
theorem b132_92 {d : Nat} {S : mm_S} {a0 : Nat} {x1 : Int32} {x2 : Int32} (h0 : mm_obj S a0 12 = true) (h1 : (mm_R S a0 5).isSome = true) (h2 : mm_inb x1 (mm_N S (mm_rg S a0 5)) = true) (h3 : mm_arr S (mm_rg S a0 5) 13 = true) : mm_ex d 132 92 [.ref a0, .int x1, .int x2] [] S =
    some (some (.int (mm_M S (mm_rg S a0 5) (x1).toNatClampNeg)), S) :=
  Eq.trans (mx_aload_n t132 d132_92 (x := a0) rfl) <|
  Eq.trans (mx_getR t132 d132_93 rfl fl12_24 h0 h1) <|
  Eq.trans (mx_iload_n t132 d132_96 (x := x1) rfl) <|
  Eq.trans (mx_iald t132 d132_97 h3 h2) <|
  (mx_iret t132 d132_98 (ty := .int) rfl rfl (fun h => nomatch h))
theorem b132_99 {d : Nat} {S : mm_S} {a0 : Nat} {x1 : Int32} {x2 : Int32} (h0 : mm_rk S a0 = 12) : mm_ex (d + 1) 132 99 [.ref a0, .int x1, .int x2] [] S =
    mm_bd (mm_cl d 130 [.ref a0, .int x1] S) (fun v S2 => mm_ex (d + 1) 132 104 [.ref a0, .int x1, .int x2] (v.toList ++ []) S2) :=
  Eq.trans (mx_aload_n t132 d132_99 (x := a0) rfl) <|
  Eq.trans (mx_iload_n t132 d132_100 (x := x1) rfl) <|
  (mx_virt (st := []) (k := 12) t132 [.int x1] d132_101 vt12_173 rfl rfl (Nat.le_of_ble_eq_true rfl) (Nat.le_of_ble_eq_true rfl) h0)
theorem b132_104 {d : Nat} {S : mm_S} {a0 : Nat} {x1 : Int32} {x2 : Int32} {p0 : Int32} : mm_ex d 132 104 [.ref a0, .int x1, .int x2] [.int p0] S =
    some (some (.int p0), S) :=
  (mx_iret t132 d132_104 (ty := .int) rfl rfl (fun h => nomatch h))
theorem b132_105 {d : Nat} {S : mm_S} {a0 : Nat} {x1 : Int32} {x2 : Int32} (h0 : mm_rk S a0 = 12) : mm_ex (d + 1) 132 105 [.ref a0, .int x1, .int x2] [] S =
    mm_bd (mm_cl d 156 [.ref a0, .int x1] S) (fun v S2 => mm_ex (d + 1) 132 110 [.ref a0, .int x1, .int x2] (v.toList ++ []) S2) :=
  Eq.trans (mx_aload_n t132 d132_105 (x := a0) rfl) <|
  Eq.trans (mx_iload_n t132 d132_106 (x := x1) rfl) <|
  (mx_virt (st := []) (k := 12) t132 [.int x1] d132_107 vt12_177 rfl rfl (Nat.le_of_ble_eq_true rfl) (Nat.le_of_ble_eq_true rfl) h0)
theorem b132_110 {d : Nat} {S : mm_S} {a0 : Nat} {x1 : Int32} {x2 : Int32} {p0 : Int32} : mm_ex d 132 110 [.ref a0, .int x1, .int x2] [.int p0] S =
    some (some (.int p0), S) :=
  (mx_iret t132 d132_110 (ty := .int) rfl rfl (fun h => nomatch h))
theorem b132_111 {d : Nat} {S : mm_S} {a0 : Nat} {x1 : Int32} {x2 : Int32} (h0 : mm_rk S a0 = 12) : mm_ex (d + 1) 132 111 [.ref a0, .int x1, .int x2] [] S =
    mm_bd (mm_cl d 157 [.ref a0, .int x1] S) (fun v S2 => mm_ex (d + 1) 132 116 [.ref a0, .int x1, .int x2] (v.toList ++ []) S2) :=
  Eq.trans (mx_aload_n t132 d132_111 (x := a0) rfl) <|
  Eq.trans (mx_iload_n t132 d132_112 (x := x1) rfl) <|
  (mx_virt (st := []) (k := 12) t132 [.int x1] d132_113 vt12_180 rfl rfl (Nat.le_of_ble_eq_true rfl) (Nat.le_of_ble_eq_true rfl) h0)
theorem b132_116 {d : Nat} {S : mm_S} {a0 : Nat} {x1 : Int32} {x2 : Int32} {p0 : Int32} : mm_ex d 132 116 [.ref a0, .int x1, .int x2] [.int p0] S =
    some (some (.int p0), S) :=
  (mx_iret t132 d132_116 (ty := .int) rfl rfl (fun h => nomatch h))
theorem b132_117 {d : Nat} {S : mm_S} {a0 : Nat} {x1 : Int32} {x2 : Int32} (h0 : mm_obj S a0 12 = true) (h1 : (mm_R S a0 1).isSome = true) (h2 : mm_inb x1 (mm_N S (mm_rg S a0 1)) = true) (h3 : mm_arr S (mm_rg S a0 1) 13 = true) : mm_ex d 132 117 [.ref a0, .int x1, .int x2] [] S =
    if (mm_M S (mm_rg S a0 1) (x1).toNatClampNeg) = (nI 6) then mm_ex d 132 128 [.ref a0, .int x1, .int x2] [] S else mm_ex d 132 167 [.ref a0, .int x1, .int x2] [] S :=
  Eq.trans (mx_aload_n t132 d132_117 (x := a0) rfl) <|
  Eq.trans (mx_getR t132 d132_118 rfl fl12_9 h0 h1) <|
  Eq.trans (mx_iload_n t132 d132_121 (x := x1) rfl) <|
  Eq.trans (mx_iald t132 d132_122 h3 h2) <|
  Eq.trans (mx_bipush t132 d132_123 (v := nI 6) rfl) <|
  (mx_cne t132 d132_125 (tgt := 167) (by decide))
theorem b132_128 {d : Nat} {S : mm_S} {a0 : Nat} {x1 : Int32} {x2 : Int32} (h0 : mm_obj S a0 12 = true) (h1 : (mm_R S a0 7).isSome = true) (h2 : mm_inb ((nI 3) * x1) (mm_N S (mm_rg S a0 7)) = true) (h3 : mm_arr S (mm_rg S a0 7) 13 = true) (h4 : mm_inb (((nI 3) * x1) + (nI 1)) (mm_N S (mm_rg S a0 7)) = true) (h5 : mm_inb (((nI 3) * x1) + (nI 2)) (mm_N S (mm_rg S a0 7)) = true) : mm_ex d 132 128 [.ref a0, .int x1, .int x2] [] S =
    some (some (.int ((((nI 100) * (mm_M S (mm_rg S a0 7) ((nI 3) * x1).toNatClampNeg)) + ((nI 10) * (mm_M S (mm_rg S a0 7) (((nI 3) * x1) + (nI 1)).toNatClampNeg))) + (mm_M S (mm_rg S a0 7) (((nI 3) * x1) + (nI 2)).toNatClampNeg))), S) :=
  Eq.trans (mx_bipush t132 d132_128 (v := nI 100) rfl) <|
  Eq.trans (mx_aload_n t132 d132_130 (x := a0) rfl) <|
  Eq.trans (mx_getR t132 d132_131 rfl fl12_30 h0 h1) <|
  Eq.trans (mx_iconst t132 d132_134 (v := nI 3) rfl) <|
  Eq.trans (mx_iload_n t132 d132_135 (x := x1) rfl) <|
  Eq.trans (mx_imul t132 d132_136) <|
  Eq.trans (mx_iald t132 d132_137 h3 h2) <|
  Eq.trans (mx_imul t132 d132_138) <|
  Eq.trans (mx_bipush t132 d132_139 (v := nI 10) rfl) <|
  Eq.trans (mx_aload_n t132 d132_141 (x := a0) rfl) <|
  Eq.trans (mx_getR t132 d132_142 rfl fl12_30 h0 h1) <|
  Eq.trans (mx_iconst t132 d132_145 (v := nI 3) rfl) <|
  Eq.trans (mx_iload_n t132 d132_146 (x := x1) rfl) <|
  Eq.trans (mx_imul t132 d132_147) <|
  Eq.trans (mx_iconst t132 d132_148 (v := nI 1) rfl) <|
  Eq.trans (mx_iadd t132 d132_149) <|
  Eq.trans (mx_iald t132 d132_150 h3 h4) <|
  Eq.trans (mx_imul t132 d132_151) <|
  Eq.trans (mx_iadd t132 d132_152) <|
  Eq.trans (mx_aload_n t132 d132_153 (x := a0) rfl) <|
  Eq.trans (mx_getR t132 d132_154 rfl fl12_30 h0 h1) <|
  Eq.trans (mx_iconst t132 d132_157 (v := nI 3) rfl) <|
  Eq.trans (mx_iload_n t132 d132_158 (x := x1) rfl) <|
  Eq.trans (mx_imul t132 d132_159) <|
  Eq.trans (mx_iconst t132 d132_160 (v := nI 2) rfl) <|
  Eq.trans (mx_iadd t132 d132_161) <|
  Eq.trans (mx_iald t132 d132_162 h3 h5) <|
  Eq.trans (mx_iadd t132 d132_163) <|
  Eq.trans (mx_goto t132 d132_164 (tgt := 169) (by decide)) <|
  (mx_iret t132 d132_169 (ty := .int) rfl rfl (fun h => nomatch h))
theorem b132_167 {d : Nat} {S : mm_S} {a0 : Nat} {x1 : Int32} {x2 : Int32} : mm_ex d 132 167 [.ref a0, .int x1, .int x2] [] S =
    some (some (.int (-5)), S) :=
  Eq.trans (mx_bipush t132 d132_167 (v := -5) rfl) <|
  (mx_iret t132 d132_169 (ty := .int) rfl rfl (fun h => nomatch h))
theorem b132_170 {d : Nat} {S : mm_S} {a0 : Nat} {x1 : Int32} {x2 : Int32} : mm_ex d 132 170 [.ref a0, .int x1, .int x2] [] S =
    some (some (.int (-10001)), S) :=
  Eq.trans (mx_sipush t132 d132_170 (v := -10001) rfl) <|
  (mx_iret t132 d132_173 (ty := .int) rfl rfl (fun h => nomatch h))
theorem e132 {d : Nat} {S : mm_S} {a0 : Nat} {x1 : Int32} {x2 : Int32} : mm_cl d 132 [.ref a0, .int x1, .int x2] S = mm_ex d 132 0 [.ref a0, .int x1, .int x2] [] S := mm_cl_eq t132 (Nat.le_of_ble_eq_true rfl) rfl
/-! X12_gained -/
theorem d133_0 : decode prog_14_method_8_code 0 = .ok (.aload_n 0, 1) := by decide +kernel
theorem d133_1 : decode prog_14_method_8_code 1 = .ok (.iload_n 1, 1) := by decide +kernel
theorem d133_2 : decode prog_14_method_8_code 2 = .ok (.invokevirtual 169, 3) := by decide +kernel
theorem d133_5 : decode prog_14_method_8_code 5 = .ok (.ifCond .eq 12, 3) := by decide +kernel
theorem d133_8 : decode prog_14_method_8_code 8 = .ok (.aload_n 0, 1) := by decide +kernel
theorem d133_9 : decode prog_14_method_8_code 9 = .ok (.getfield 27, 3) := by decide +kernel
theorem d133_12 : decode prog_14_method_8_code 12 = .ok (.iload_n 1, 1) := by decide +kernel
theorem d133_13 : decode prog_14_method_8_code 13 = .ok (.iaload, 1) := by decide +kernel
theorem d133_14 : decode prog_14_method_8_code 14 = .ok (.goto 5, 3) := by decide +kernel
theorem d133_17 : decode prog_14_method_8_code 17 = .ok (.ldc 183, 2) := by decide +kernel
theorem d133_19 : decode prog_14_method_8_code 19 = .ok (.ireturn, 1) := by decide +kernel
theorem b133_0 {d : Nat} {S : mm_S} {a0 : Nat} {x1 : Int32} (h0 : mm_rk S a0 = 12) : mm_ex (d + 1) 133 0 [.ref a0, .int x1] [] S =
    mm_bd (mm_cl d 129 [.ref a0, .int x1] S) (fun v S2 => mm_ex (d + 1) 133 5 [.ref a0, .int x1] (v.toList ++ []) S2) :=
  Eq.trans (mx_aload_n t133 d133_0 (x := a0) rfl) <|
  Eq.trans (mx_iload_n t133 d133_1 (x := x1) rfl) <|
  (mx_virt (st := []) (k := 12) t133 [.int x1] d133_2 vt12_169 rfl rfl (Nat.le_of_ble_eq_true rfl) (Nat.le_of_ble_eq_true rfl) h0)
theorem b133_5 {d : Nat} {S : mm_S} {a0 : Nat} {x1 : Int32} {p0 : Int32} : mm_ex d 133 5 [.ref a0, .int x1] [.int p0] S =
    if p0 = nI 0 then mm_ex d 133 17 [.ref a0, .int x1] [] S else mm_ex d 133 8 [.ref a0, .int x1] [] S :=
  (mx_ieq t133 d133_5 (tgt := 17) (by decide))
theorem b133_8 {d : Nat} {S : mm_S} {a0 : Nat} {x1 : Int32} (h0 : mm_obj S a0 12 = true) (h1 : (mm_R S a0 6).isSome = true) (h2 : mm_inb x1 (mm_N S (mm_rg S a0 6)) = true) (h3 : mm_arr S (mm_rg S a0 6) 13 = true) : mm_ex d 133 8 [.ref a0, .int x1] [] S =
    some (some (.int (mm_M S (mm_rg S a0 6) (x1).toNatClampNeg)), S) :=
  Eq.trans (mx_aload_n t133 d133_8 (x := a0) rfl) <|
  Eq.trans (mx_getR t133 d133_9 rfl fl12_27 h0 h1) <|
  Eq.trans (mx_iload_n t133 d133_12 (x := x1) rfl) <|
  Eq.trans (mx_iald t133 d133_13 h3 h2) <|
  Eq.trans (mx_goto t133 d133_14 (tgt := 19) (by decide)) <|
  (mx_iret t133 d133_19 (ty := .int) rfl rfl (fun h => nomatch h))
theorem b133_17 {d : Nat} {S : mm_S} {a0 : Nat} {x1 : Int32} : mm_ex d 133 17 [.ref a0, .int x1] [] S =
    some (some (.int (-100001)), S) :=
  Eq.trans (mx_ldc t133 d133_17 (v := .int (-100001)) lc12_183) <|
  (mx_iret t133 d133_19 (ty := .int) rfl rfl (fun h => nomatch h))
theorem e133 {d : Nat} {S : mm_S} {a0 : Nat} {x1 : Int32} : mm_cl d 133 [.ref a0, .int x1] S = mm_ex d 133 0 [.ref a0, .int x1] [] S := mm_cl_eq t133 (Nat.le_of_ble_eq_true rfl) rfl
/-! X12_friend -/
theorem dd134_0 : (decode prog_14_method_9_code 0 = .ok (.aload_n 0, 1)) ∧ (decode prog_14_method_9_code 1 = .ok (.iload_n 1, 1)) ∧ (decode prog_14_method_9_code 2 = .ok (.invokevirtual 169, 3)) ∧ (decode prog_14_method_9_code 5 = .ok (.ifCond .eq 16, 3)) ∧ (decode prog_14_method_9_code 8 = .ok (.iload_n 2, 1)) ∧ (decode prog_14_method_9_code 9 = .ok (.iconst (-1), 1)) ∧ (decode prog_14_method_9_code 10 = .ok (.if_icmp .eq 13, 3)) ∧ (decode prog_14_method_9_code 13 = .ok (.aload_n 0, 1)) ∧ (decode prog_14_method_9_code 14 = .ok (.iload_n 2, 1)) ∧ (decode prog_14_method_9_code 15 = .ok (.invokevirtual 169, 3)) ∧ (decode prog_14_method_9_code 18 = .ok (.ifCond .ne 5, 3)) ∧ (decode prog_14_method_9_code 21 = .ok (.iconst (-1), 1)) ∧ (decode prog_14_method_9_code 22 = .ok (.ireturn, 1)) ∧ (decode prog_14_method_9_code 23 = .ok (.iload_n 1, 1)) ∧ (decode prog_14_method_9_code 24 = .ok (.iload_n 2, 1)) ∧ (decode prog_14_method_9_code 25 = .ok (.if_icmp .ne 6, 3)) := by decide +kernel
theorem d134_0 : decode prog_14_method_9_code 0 = .ok (.aload_n 0, 1) := dd134_0.1
theorem d134_1 : decode prog_14_method_9_code 1 = .ok (.iload_n 1, 1) := dd134_0.2.1
theorem d134_2 : decode prog_14_method_9_code 2 = .ok (.invokevirtual 169, 3) := dd134_0.2.2.1
theorem d134_5 : decode prog_14_method_9_code 5 = .ok (.ifCond .eq 16, 3) := dd134_0.2.2.2.1
theorem d134_8 : decode prog_14_method_9_code 8 = .ok (.iload_n 2, 1) := dd134_0.2.2.2.2.1
theorem d134_9 : decode prog_14_method_9_code 9 = .ok (.iconst (-1), 1) := dd134_0.2.2.2.2.2.1
theorem d134_10 : decode prog_14_method_9_code 10 = .ok (.if_icmp .eq 13, 3) := dd134_0.2.2.2.2.2.2.1
theorem d134_13 : decode prog_14_method_9_code 13 = .ok (.aload_n 0, 1) := dd134_0.2.2.2.2.2.2.2.1
theorem d134_14 : decode prog_14_method_9_code 14 = .ok (.iload_n 2, 1) := dd134_0.2.2.2.2.2.2.2.2.1
theorem d134_15 : decode prog_14_method_9_code 15 = .ok (.invokevirtual 169, 3) := dd134_0.2.2.2.2.2.2.2.2.2.1
theorem d134_18 : decode prog_14_method_9_code 18 = .ok (.ifCond .ne 5, 3) := dd134_0.2.2.2.2.2.2.2.2.2.2.1
theorem d134_21 : decode prog_14_method_9_code 21 = .ok (.iconst (-1), 1) := dd134_0.2.2.2.2.2.2.2.2.2.2.2.1
theorem d134_22 : decode prog_14_method_9_code 22 = .ok (.ireturn, 1) := dd134_0.2.2.2.2.2.2.2.2.2.2.2.2.1
theorem d134_23 : decode prog_14_method_9_code 23 = .ok (.iload_n 1, 1) := dd134_0.2.2.2.2.2.2.2.2.2.2.2.2.2.1
theorem d134_24 : decode prog_14_method_9_code 24 = .ok (.iload_n 2, 1) := dd134_0.2.2.2.2.2.2.2.2.2.2.2.2.2.2.1
theorem d134_25 : decode prog_14_method_9_code 25 = .ok (.if_icmp .ne 6, 3) := dd134_0.2.2.2.2.2.2.2.2.2.2.2.2.2.2.2
theorem dd134_28 : (decode prog_14_method_9_code 28 = .ok (.bipush (-2), 2)) ∧ (decode prog_14_method_9_code 30 = .ok (.ireturn, 1)) ∧ (decode prog_14_method_9_code 31 = .ok (.aload_n 0, 1)) ∧ (decode prog_14_method_9_code 32 = .ok (.getfield 21, 3)) ∧ (decode prog_14_method_9_code 35 = .ok (.iload_n 1, 1)) ∧ (decode prog_14_method_9_code 36 = .ok (.iaload, 1)) ∧ (decode prog_14_method_9_code 37 = .ok (.istore_n 3, 1)) ∧ (decode prog_14_method_9_code 38 = .ok (.aload_n 0, 1)) ∧ (decode prog_14_method_9_code 39 = .ok (.getfield 21, 3)) ∧ (decode prog_14_method_9_code 42 = .ok (.iload_n 1, 1)) ∧ (decode prog_14_method_9_code 43 = .ok (.iload_n 2, 1)) ∧ (decode prog_14_method_9_code 44 = .ok (.iconst (-1), 1)) ∧ (decode prog_14_method_9_code 45 = .ok (.if_icmp .ne 8, 3)) ∧ (decode prog_14_method_9_code 48 = .ok (.bipush (-5), 2)) ∧ (decode prog_14_method_9_code 50 = .ok (.goto 4, 3)) ∧ (decode prog_14_method_9_code 53 = .ok (.iload_n 2, 1)) := by decide +kernel
theorem d134_28 : decode prog_14_method_9_code 28 = .ok (.bipush (-2), 2) := dd134_28.1
theorem d134_30 : decode prog_14_method_9_code 30 = .ok (.ireturn, 1) := dd134_28.2.1
theorem d134_31 : decode prog_14_method_9_code 31 = .ok (.aload_n 0, 1) := dd134_28.2.2.1
theorem d134_32 : decode prog_14_method_9_code 32 = .ok (.getfield 21, 3) := dd134_28.2.2.2.1
theorem d134_35 : decode prog_14_method_9_code 35 = .ok (.iload_n 1, 1) := dd134_28.2.2.2.2.1
theorem d134_36 : decode prog_14_method_9_code 36 = .ok (.iaload, 1) := dd134_28.2.2.2.2.2.1
theorem d134_37 : decode prog_14_method_9_code 37 = .ok (.istore_n 3, 1) := dd134_28.2.2.2.2.2.2.1
theorem d134_38 : decode prog_14_method_9_code 38 = .ok (.aload_n 0, 1) := dd134_28.2.2.2.2.2.2.2.1
theorem d134_39 : decode prog_14_method_9_code 39 = .ok (.getfield 21, 3) := dd134_28.2.2.2.2.2.2.2.2.1
theorem d134_42 : decode prog_14_method_9_code 42 = .ok (.iload_n 1, 1) := dd134_28.2.2.2.2.2.2.2.2.2.1
theorem d134_43 : decode prog_14_method_9_code 43 = .ok (.iload_n 2, 1) := dd134_28.2.2.2.2.2.2.2.2.2.2.1
theorem d134_44 : decode prog_14_method_9_code 44 = .ok (.iconst (-1), 1) := dd134_28.2.2.2.2.2.2.2.2.2.2.2.1
theorem d134_45 : decode prog_14_method_9_code 45 = .ok (.if_icmp .ne 8, 3) := dd134_28.2.2.2.2.2.2.2.2.2.2.2.2.1
theorem d134_48 : decode prog_14_method_9_code 48 = .ok (.bipush (-5), 2) := dd134_28.2.2.2.2.2.2.2.2.2.2.2.2.2.1
theorem d134_50 : decode prog_14_method_9_code 50 = .ok (.goto 4, 3) := dd134_28.2.2.2.2.2.2.2.2.2.2.2.2.2.2.1
theorem d134_53 : decode prog_14_method_9_code 53 = .ok (.iload_n 2, 1) := dd134_28.2.2.2.2.2.2.2.2.2.2.2.2.2.2.2
theorem dd134_54 : (decode prog_14_method_9_code 54 = .ok (.iastore, 1)) ∧ (decode prog_14_method_9_code 55 = .ok (.iload_n 3, 1)) ∧ (decode prog_14_method_9_code 56 = .ok (.ireturn, 1)) := by decide +kernel
theorem d134_54 : decode prog_14_method_9_code 54 = .ok (.iastore, 1) := dd134_54.1
theorem d134_55 : decode prog_14_method_9_code 55 = .ok (.iload_n 3, 1) := dd134_54.2.1
theorem d134_56 : decode prog_14_method_9_code 56 = .ok (.ireturn, 1) := dd134_54.2.2
theorem b134_0 {d : Nat} {S : mm_S} {a0 : Nat} {x1 : Int32} {x2 : Int32} (h0 : mm_rk S a0 = 12) : mm_ex (d + 1) 134 0 [.ref a0, .int x1, .int x2, .null] [] S =
    mm_bd (mm_cl d 129 [.ref a0, .int x1] S) (fun v S2 => mm_ex (d + 1) 134 5 [.ref a0, .int x1, .int x2, .null] (v.toList ++ []) S2) :=
  Eq.trans (mx_aload_n t134 d134_0 (x := a0) rfl) <|
  Eq.trans (mx_iload_n t134 d134_1 (x := x1) rfl) <|
  (mx_virt (st := []) (k := 12) t134 [.int x1] d134_2 vt12_169 rfl rfl (Nat.le_of_ble_eq_true rfl) (Nat.le_of_ble_eq_true rfl) h0)
theorem b134_5 {d : Nat} {S : mm_S} {a0 : Nat} {x1 : Int32} {x2 : Int32} {p0 : Int32} : mm_ex d 134 5 [.ref a0, .int x1, .int x2, .null] [.int p0] S =
    if p0 = nI 0 then mm_ex d 134 21 [.ref a0, .int x1, .int x2, .null] [] S else mm_ex d 134 8 [.ref a0, .int x1, .int x2, .null] [] S :=
  (mx_ieq t134 d134_5 (tgt := 21) (by decide))
theorem b134_8 {d : Nat} {S : mm_S} {a0 : Nat} {x1 : Int32} {x2 : Int32} : mm_ex d 134 8 [.ref a0, .int x1, .int x2, .null] [] S =
    if x2 = (-1) then mm_ex d 134 23 [.ref a0, .int x1, .int x2, .null] [] S else mm_ex d 134 13 [.ref a0, .int x1, .int x2, .null] [] S :=
  Eq.trans (mx_iload_n t134 d134_8 (x := x2) rfl) <|
  Eq.trans (mx_iconst t134 d134_9 (v := -1) rfl) <|
  (mx_ceq t134 d134_10 (tgt := 23) (by decide))
theorem b134_13 {d : Nat} {S : mm_S} {a0 : Nat} {x1 : Int32} {x2 : Int32} (h0 : mm_rk S a0 = 12) : mm_ex (d + 1) 134 13 [.ref a0, .int x1, .int x2, .null] [] S =
    mm_bd (mm_cl d 129 [.ref a0, .int x2] S) (fun v S2 => mm_ex (d + 1) 134 18 [.ref a0, .int x1, .int x2, .null] (v.toList ++ []) S2) :=
  Eq.trans (mx_aload_n t134 d134_13 (x := a0) rfl) <|
  Eq.trans (mx_iload_n t134 d134_14 (x := x2) rfl) <|
  (mx_virt (st := []) (k := 12) t134 [.int x2] d134_15 vt12_169 rfl rfl (Nat.le_of_ble_eq_true rfl) (Nat.le_of_ble_eq_true rfl) h0)
theorem b134_18 {d : Nat} {S : mm_S} {a0 : Nat} {x1 : Int32} {x2 : Int32} {p0 : Int32} : mm_ex d 134 18 [.ref a0, .int x1, .int x2, .null] [.int p0] S =
    if p0 = nI 0 then mm_ex d 134 21 [.ref a0, .int x1, .int x2, .null] [] S else mm_ex d 134 23 [.ref a0, .int x1, .int x2, .null] [] S :=
  (mx_ine t134 d134_18 (tgt := 23) (by decide))
theorem b134_21 {d : Nat} {S : mm_S} {a0 : Nat} {x1 : Int32} {x2 : Int32} : mm_ex d 134 21 [.ref a0, .int x1, .int x2, .null] [] S =
    some (some (.int (-1)), S) :=
  Eq.trans (mx_iconst t134 d134_21 (v := -1) rfl) <|
  (mx_iret t134 d134_22 (ty := .int) rfl rfl (fun h => nomatch h))
theorem b134_23 {d : Nat} {S : mm_S} {a0 : Nat} {x1 : Int32} {x2 : Int32} : mm_ex d 134 23 [.ref a0, .int x1, .int x2, .null] [] S =
    if x1 = x2 then mm_ex d 134 28 [.ref a0, .int x1, .int x2, .null] [] S else mm_ex d 134 31 [.ref a0, .int x1, .int x2, .null] [] S :=
  Eq.trans (mx_iload_n t134 d134_23 (x := x1) rfl) <|
  Eq.trans (mx_iload_n t134 d134_24 (x := x2) rfl) <|
  (mx_cne t134 d134_25 (tgt := 31) (by decide))
theorem b134_28 {d : Nat} {S : mm_S} {a0 : Nat} {x1 : Int32} {x2 : Int32} : mm_ex d 134 28 [.ref a0, .int x1, .int x2, .null] [] S =
    some (some (.int (-2)), S) :=
  Eq.trans (mx_bipush t134 d134_28 (v := -2) rfl) <|
  (mx_iret t134 d134_30 (ty := .int) rfl rfl (fun h => nomatch h))
theorem b134_31 {d : Nat} {S : mm_S} {a0 : Nat} {x1 : Int32} {x2 : Int32} (h0 : mm_obj S a0 12 = true) (h1 : (mm_R S a0 4).isSome = true) (h2 : mm_inb x1 (mm_N S (mm_rg S a0 4)) = true) (h3 : mm_arr S (mm_rg S a0 4) 13 = true) : mm_ex d 134 31 [.ref a0, .int x1, .int x2, .null] [] S =
    if x2 = (-1) then mm_ex d 134 48 [.ref a0, .int x1, .int x2, .int (mm_M S (mm_rg S a0 4) (x1).toNatClampNeg)] [.int x1, .ref (mm_rg S a0 4)] S else mm_ex d 134 53 [.ref a0, .int x1, .int x2, .int (mm_M S (mm_rg S a0 4) (x1).toNatClampNeg)] [.int x1, .ref (mm_rg S a0 4)] S :=
  Eq.trans (mx_aload_n t134 d134_31 (x := a0) rfl) <|
  Eq.trans (mx_getR t134 d134_32 rfl fl12_21 h0 h1) <|
  Eq.trans (mx_iload_n t134 d134_35 (x := x1) rfl) <|
  Eq.trans (mx_iald t134 d134_36 h3 h2) <|
  Eq.trans (mx_istore_n t134 d134_37 (ls' := [.ref a0, .int x1, .int x2, .int (mm_M S (mm_rg S a0 4) (x1).toNatClampNeg)]) rfl rfl) <|
  Eq.trans (mx_aload_n t134 d134_38 (x := a0) rfl) <|
  Eq.trans (mx_getR t134 d134_39 rfl fl12_21 h0 h1) <|
  Eq.trans (mx_iload_n t134 d134_42 (x := x1) rfl) <|
  Eq.trans (mx_iload_n t134 d134_43 (x := x2) rfl) <|
  Eq.trans (mx_iconst t134 d134_44 (v := -1) rfl) <|
  (mx_cne t134 d134_45 (tgt := 53) (by decide))
theorem b134_48 {d : Nat} {S : mm_S} {a0 : Nat} {x1 : Int32} {x2 : Int32} {x3 : Int32} {p0 : Int32} {p1 : Nat} (h0 : mm_arr S p1 13 = true) (h1 : mm_inb p0 (mm_N S p1) = true) : mm_ex d 134 48 [.ref a0, .int x1, .int x2, .int x3] [.int p0, .ref p1] S =
    some (some (.int x3), (mm_uM S p1 (p0).toNatClampNeg (-5))) :=
  Eq.trans (mx_bipush t134 d134_48 (v := -5) rfl) <|
  Eq.trans (mx_goto t134 d134_50 (tgt := 54) (by decide)) <|
  Eq.trans (mx_iast2 t134 d134_54 h0 h1) <|
  Eq.trans (mx_iload_n t134 d134_55 (x := x3) rfl) <|
  (mx_iret t134 d134_56 (ty := .int) rfl rfl (fun h => nomatch h))
theorem b134_53 {d : Nat} {S : mm_S} {a0 : Nat} {x1 : Int32} {x2 : Int32} {x3 : Int32} {p0 : Int32} {p1 : Nat} (h0 : mm_arr S p1 13 = true) (h1 : mm_inb p0 (mm_N S p1) = true) : mm_ex d 134 53 [.ref a0, .int x1, .int x2, .int x3] [.int p0, .ref p1] S =
    some (some (.int x3), (mm_uM S p1 (p0).toNatClampNeg x2)) :=
  Eq.trans (mx_iload_n t134 d134_53 (x := x2) rfl) <|
  Eq.trans (mx_iast2 t134 d134_54 h0 h1) <|
  Eq.trans (mx_iload_n t134 d134_55 (x := x3) rfl) <|
  (mx_iret t134 d134_56 (ty := .int) rfl rfl (fun h => nomatch h))
theorem e134 {d : Nat} {S : mm_S} {a0 : Nat} {x1 : Int32} {x2 : Int32} : mm_cl d 134 [.ref a0, .int x1, .int x2] S = mm_ex d 134 0 [.ref a0, .int x1, .int x2, .null] [] S := mm_cl_eq t134 (Nat.le_of_ble_eq_true rfl) rfl
/-! X12_row -/
theorem dd135_0 : (decode prog_14_method_10_code 0 = .ok (.aload_n 0, 1)) ∧ (decode prog_14_method_10_code 1 = .ok (.iload_n 1, 1)) ∧ (decode prog_14_method_10_code 2 = .ok (.invokevirtual 169, 3)) ∧ (decode prog_14_method_10_code 5 = .ok (.ifCond .eq 12, 3)) ∧ (decode prog_14_method_10_code 8 = .ok (.iload_n 2, 1)) ∧ (decode prog_14_method_10_code 9 = .ok (.iconst 0, 1)) ∧ (decode prog_14_method_10_code 10 = .ok (.iconst 2, 1)) ∧ (decode prog_14_method_10_code 11 = .ok (.invokestatic 162, 3)) ∧ (decode prog_14_method_10_code 14 = .ok (.ifCond .ne 5, 3)) ∧ (decode prog_14_method_10_code 17 = .ok (.iconst (-1), 1)) ∧ (decode prog_14_method_10_code 18 = .ok (.ireturn, 1)) ∧ (decode prog_14_method_10_code 19 = .ok (.iload_n 3, 1)) ∧ (decode prog_14_method_10_code 20 = .ok (.iconst 0, 1)) ∧ (decode prog_14_method_10_code 21 = .ok (.iconst 3, 1)) ∧ (decode prog_14_method_10_code 22 = .ok (.invokestatic 162, 3)) ∧ (decode prog_14_method_10_code 25 = .ok (.ifCond .ne 6, 3)) := by decide +kernel
theorem d135_0 : decode prog_14_method_10_code 0 = .ok (.aload_n 0, 1) := dd135_0.1
theorem d135_1 : decode prog_14_method_10_code 1 = .ok (.iload_n 1, 1) := dd135_0.2.1
theorem d135_2 : decode prog_14_method_10_code 2 = .ok (.invokevirtual 169, 3) := dd135_0.2.2.1
theorem d135_5 : decode prog_14_method_10_code 5 = .ok (.ifCond .eq 12, 3) := dd135_0.2.2.2.1
theorem d135_8 : decode prog_14_method_10_code 8 = .ok (.iload_n 2, 1) := dd135_0.2.2.2.2.1
theorem d135_9 : decode prog_14_method_10_code 9 = .ok (.iconst 0, 1) := dd135_0.2.2.2.2.2.1
theorem d135_10 : decode prog_14_method_10_code 10 = .ok (.iconst 2, 1) := dd135_0.2.2.2.2.2.2.1
theorem d135_11 : decode prog_14_method_10_code 11 = .ok (.invokestatic 162, 3) := dd135_0.2.2.2.2.2.2.2.1
theorem d135_14 : decode prog_14_method_10_code 14 = .ok (.ifCond .ne 5, 3) := dd135_0.2.2.2.2.2.2.2.2.1
theorem d135_17 : decode prog_14_method_10_code 17 = .ok (.iconst (-1), 1) := dd135_0.2.2.2.2.2.2.2.2.2.1
theorem d135_18 : decode prog_14_method_10_code 18 = .ok (.ireturn, 1) := dd135_0.2.2.2.2.2.2.2.2.2.2.1
theorem d135_19 : decode prog_14_method_10_code 19 = .ok (.iload_n 3, 1) := dd135_0.2.2.2.2.2.2.2.2.2.2.2.1
theorem d135_20 : decode prog_14_method_10_code 20 = .ok (.iconst 0, 1) := dd135_0.2.2.2.2.2.2.2.2.2.2.2.2.1
theorem d135_21 : decode prog_14_method_10_code 21 = .ok (.iconst 3, 1) := dd135_0.2.2.2.2.2.2.2.2.2.2.2.2.2.1
theorem d135_22 : decode prog_14_method_10_code 22 = .ok (.invokestatic 162, 3) := dd135_0.2.2.2.2.2.2.2.2.2.2.2.2.2.2.1
theorem d135_25 : decode prog_14_method_10_code 25 = .ok (.ifCond .ne 6, 3) := dd135_0.2.2.2.2.2.2.2.2.2.2.2.2.2.2.2
theorem dd135_28 : (decode prog_14_method_10_code 28 = .ok (.bipush (-2), 2)) ∧ (decode prog_14_method_10_code 30 = .ok (.ireturn, 1)) ∧ (decode prog_14_method_10_code 31 = .ok (.aload_n 0, 1)) ∧ (decode prog_14_method_10_code 32 = .ok (.getfield 9, 3)) ∧ (decode prog_14_method_10_code 35 = .ok (.iload_n 1, 1)) ∧ (decode prog_14_method_10_code 36 = .ok (.iaload, 1)) ∧ (decode prog_14_method_10_code 37 = .ok (.bipush 6, 2)) ∧ (decode prog_14_method_10_code 39 = .ok (.if_icmp .eq 6, 3)) ∧ (decode prog_14_method_10_code 42 = .ok (.bipush (-3), 2)) ∧ (decode prog_14_method_10_code 44 = .ok (.ireturn, 1)) ∧ (decode prog_14_method_10_code 45 = .ok (.aload_n 0, 1)) ∧ (decode prog_14_method_10_code 46 = .ok (.getfield 30, 3)) ∧ (decode prog_14_method_10_code 49 = .ok (.iconst 3, 1)) ∧ (decode prog_14_method_10_code 50 = .ok (.iload_n 1, 1)) ∧ (decode prog_14_method_10_code 51 = .ok (.imul, 1)) ∧ (decode prog_14_method_10_code 52 = .ok (.iload_n 2, 1)) := by decide +kernel
theorem d135_28 : decode prog_14_method_10_code 28 = .ok (.bipush (-2), 2) := dd135_28.1
theorem d135_30 : decode prog_14_method_10_code 30 = .ok (.ireturn, 1) := dd135_28.2.1
theorem d135_31 : decode prog_14_method_10_code 31 = .ok (.aload_n 0, 1) := dd135_28.2.2.1
theorem d135_32 : decode prog_14_method_10_code 32 = .ok (.getfield 9, 3) := dd135_28.2.2.2.1
theorem d135_35 : decode prog_14_method_10_code 35 = .ok (.iload_n 1, 1) := dd135_28.2.2.2.2.1
theorem d135_36 : decode prog_14_method_10_code 36 = .ok (.iaload, 1) := dd135_28.2.2.2.2.2.1
theorem d135_37 : decode prog_14_method_10_code 37 = .ok (.bipush 6, 2) := dd135_28.2.2.2.2.2.2.1
theorem d135_39 : decode prog_14_method_10_code 39 = .ok (.if_icmp .eq 6, 3) := dd135_28.2.2.2.2.2.2.2.1
theorem d135_42 : decode prog_14_method_10_code 42 = .ok (.bipush (-3), 2) := dd135_28.2.2.2.2.2.2.2.2.1
theorem d135_44 : decode prog_14_method_10_code 44 = .ok (.ireturn, 1) := dd135_28.2.2.2.2.2.2.2.2.2.1
theorem d135_45 : decode prog_14_method_10_code 45 = .ok (.aload_n 0, 1) := dd135_28.2.2.2.2.2.2.2.2.2.2.1
theorem d135_46 : decode prog_14_method_10_code 46 = .ok (.getfield 30, 3) := dd135_28.2.2.2.2.2.2.2.2.2.2.2.1
theorem d135_49 : decode prog_14_method_10_code 49 = .ok (.iconst 3, 1) := dd135_28.2.2.2.2.2.2.2.2.2.2.2.2.1
theorem d135_50 : decode prog_14_method_10_code 50 = .ok (.iload_n 1, 1) := dd135_28.2.2.2.2.2.2.2.2.2.2.2.2.2.1
theorem d135_51 : decode prog_14_method_10_code 51 = .ok (.imul, 1) := dd135_28.2.2.2.2.2.2.2.2.2.2.2.2.2.2.1
theorem d135_52 : decode prog_14_method_10_code 52 = .ok (.iload_n 2, 1) := dd135_28.2.2.2.2.2.2.2.2.2.2.2.2.2.2.2
theorem dd135_53 : (decode prog_14_method_10_code 53 = .ok (.iadd, 1)) ∧ (decode prog_14_method_10_code 54 = .ok (.iaload, 1)) ∧ (decode prog_14_method_10_code 55 = .ok (.istore 4, 2)) ∧ (decode prog_14_method_10_code 57 = .ok (.aload_n 0, 1)) ∧ (decode prog_14_method_10_code 58 = .ok (.getfield 30, 3)) ∧ (decode prog_14_method_10_code 61 = .ok (.iconst 3, 1)) ∧ (decode prog_14_method_10_code 62 = .ok (.iload_n 1, 1)) ∧ (decode prog_14_method_10_code 63 = .ok (.imul, 1)) ∧ (decode prog_14_method_10_code 64 = .ok (.iload_n 2, 1)) ∧ (decode prog_14_method_10_code 65 = .ok (.iadd, 1)) ∧ (decode prog_14_method_10_code 66 = .ok (.iload_n 3, 1)) ∧ (decode prog_14_method_10_code 67 = .ok (.iastore, 1)) ∧ (decode prog_14_method_10_code 68 = .ok (.iload 4, 2)) ∧ (decode prog_14_method_10_code 70 = .ok (.ireturn, 1)) := by decide +kernel
theorem d135_53 : decode prog_14_method_10_code 53 = .ok (.iadd, 1) := dd135_53.1
theorem d135_54 : decode prog_14_method_10_code 54 = .ok (.iaload, 1) := dd135_53.2.1
theorem d135_55 : decode prog_14_method_10_code 55 = .ok (.istore 4, 2) := dd135_53.2.2.1
theorem d135_57 : decode prog_14_method_10_code 57 = .ok (.aload_n 0, 1) := dd135_53.2.2.2.1
theorem d135_58 : decode prog_14_method_10_code 58 = .ok (.getfield 30, 3) := dd135_53.2.2.2.2.1
theorem d135_61 : decode prog_14_method_10_code 61 = .ok (.iconst 3, 1) := dd135_53.2.2.2.2.2.1
theorem d135_62 : decode prog_14_method_10_code 62 = .ok (.iload_n 1, 1) := dd135_53.2.2.2.2.2.2.1
theorem d135_63 : decode prog_14_method_10_code 63 = .ok (.imul, 1) := dd135_53.2.2.2.2.2.2.2.1
theorem d135_64 : decode prog_14_method_10_code 64 = .ok (.iload_n 2, 1) := dd135_53.2.2.2.2.2.2.2.2.1
theorem d135_65 : decode prog_14_method_10_code 65 = .ok (.iadd, 1) := dd135_53.2.2.2.2.2.2.2.2.2.1
theorem d135_66 : decode prog_14_method_10_code 66 = .ok (.iload_n 3, 1) := dd135_53.2.2.2.2.2.2.2.2.2.2.1
theorem d135_67 : decode prog_14_method_10_code 67 = .ok (.iastore, 1) := dd135_53.2.2.2.2.2.2.2.2.2.2.2.1
theorem d135_68 : decode prog_14_method_10_code 68 = .ok (.iload 4, 2) := dd135_53.2.2.2.2.2.2.2.2.2.2.2.2.1
theorem d135_70 : decode prog_14_method_10_code 70 = .ok (.ireturn, 1) := dd135_53.2.2.2.2.2.2.2.2.2.2.2.2.2
theorem b135_0 {d : Nat} {S : mm_S} {a0 : Nat} {x1 : Int32} {x2 : Int32} {x3 : Int32} (h0 : mm_rk S a0 = 12) : mm_ex (d + 1) 135 0 [.ref a0, .int x1, .int x2, .int x3, .null] [] S =
    mm_bd (mm_cl d 129 [.ref a0, .int x1] S) (fun v S2 => mm_ex (d + 1) 135 5 [.ref a0, .int x1, .int x2, .int x3, .null] (v.toList ++ []) S2) :=
  Eq.trans (mx_aload_n t135 d135_0 (x := a0) rfl) <|
  Eq.trans (mx_iload_n t135 d135_1 (x := x1) rfl) <|
  (mx_virt (st := []) (k := 12) t135 [.int x1] d135_2 vt12_169 rfl rfl (Nat.le_of_ble_eq_true rfl) (Nat.le_of_ble_eq_true rfl) h0)
theorem b135_5 {d : Nat} {S : mm_S} {a0 : Nat} {x1 : Int32} {x2 : Int32} {x3 : Int32} {p0 : Int32} : mm_ex d 135 5 [.ref a0, .int x1, .int x2, .int x3, .null] [.int p0] S =
    if p0 = nI 0 then mm_ex d 135 17 [.ref a0, .int x1, .int x2, .int x3, .null] [] S else mm_ex d 135 8 [.ref a0, .int x1, .int x2, .int x3, .null] [] S :=
  (mx_ieq t135 d135_5 (tgt := 17) (by decide))
theorem b135_8 {d : Nat} {S : mm_S} {a0 : Nat} {x1 : Int32} {x2 : Int32} {x3 : Int32} : mm_ex (d + 1) 135 8 [.ref a0, .int x1, .int x2, .int x3, .null] [] S =
    mm_bd (mm_cl d 128 [.int x2, .int (nI 0), .int (nI 2)] S) (fun v S2 => mm_ex (d + 1) 135 14 [.ref a0, .int x1, .int x2, .int x3, .null] (v.toList ++ []) S2) :=
  Eq.trans (mx_iload_n t135 d135_8 (x := x2) rfl) <|
  Eq.trans (mx_iconst t135 d135_9 (v := nI 0) rfl) <|
  Eq.trans (mx_iconst t135 d135_10 (v := nI 2) rfl) <|
  (mx_stat (st := []) t135 [.int x2, .int (nI 0), .int (nI 2)] d135_11 acn12_162 mxn12_162 st12_162 rfl (Nat.le_of_ble_eq_true rfl) (Nat.le_of_ble_eq_true rfl))
theorem b135_14 {d : Nat} {S : mm_S} {a0 : Nat} {x1 : Int32} {x2 : Int32} {x3 : Int32} {p0 : Int32} : mm_ex d 135 14 [.ref a0, .int x1, .int x2, .int x3, .null] [.int p0] S =
    if p0 = nI 0 then mm_ex d 135 17 [.ref a0, .int x1, .int x2, .int x3, .null] [] S else mm_ex d 135 19 [.ref a0, .int x1, .int x2, .int x3, .null] [] S :=
  (mx_ine t135 d135_14 (tgt := 19) (by decide))
theorem b135_17 {d : Nat} {S : mm_S} {a0 : Nat} {x1 : Int32} {x2 : Int32} {x3 : Int32} : mm_ex d 135 17 [.ref a0, .int x1, .int x2, .int x3, .null] [] S =
    some (some (.int (-1)), S) :=
  Eq.trans (mx_iconst t135 d135_17 (v := -1) rfl) <|
  (mx_iret t135 d135_18 (ty := .int) rfl rfl (fun h => nomatch h))
theorem b135_19 {d : Nat} {S : mm_S} {a0 : Nat} {x1 : Int32} {x2 : Int32} {x3 : Int32} : mm_ex (d + 1) 135 19 [.ref a0, .int x1, .int x2, .int x3, .null] [] S =
    mm_bd (mm_cl d 128 [.int x3, .int (nI 0), .int (nI 3)] S) (fun v S2 => mm_ex (d + 1) 135 25 [.ref a0, .int x1, .int x2, .int x3, .null] (v.toList ++ []) S2) :=
  Eq.trans (mx_iload_n t135 d135_19 (x := x3) rfl) <|
  Eq.trans (mx_iconst t135 d135_20 (v := nI 0) rfl) <|
  Eq.trans (mx_iconst t135 d135_21 (v := nI 3) rfl) <|
  (mx_stat (st := []) t135 [.int x3, .int (nI 0), .int (nI 3)] d135_22 acn12_162 mxn12_162 st12_162 rfl (Nat.le_of_ble_eq_true rfl) (Nat.le_of_ble_eq_true rfl))
theorem b135_25 {d : Nat} {S : mm_S} {a0 : Nat} {x1 : Int32} {x2 : Int32} {x3 : Int32} {p0 : Int32} : mm_ex d 135 25 [.ref a0, .int x1, .int x2, .int x3, .null] [.int p0] S =
    if p0 = nI 0 then mm_ex d 135 28 [.ref a0, .int x1, .int x2, .int x3, .null] [] S else mm_ex d 135 31 [.ref a0, .int x1, .int x2, .int x3, .null] [] S :=
  (mx_ine t135 d135_25 (tgt := 31) (by decide))
theorem b135_28 {d : Nat} {S : mm_S} {a0 : Nat} {x1 : Int32} {x2 : Int32} {x3 : Int32} : mm_ex d 135 28 [.ref a0, .int x1, .int x2, .int x3, .null] [] S =
    some (some (.int (-2)), S) :=
  Eq.trans (mx_bipush t135 d135_28 (v := -2) rfl) <|
  (mx_iret t135 d135_30 (ty := .int) rfl rfl (fun h => nomatch h))
theorem b135_31 {d : Nat} {S : mm_S} {a0 : Nat} {x1 : Int32} {x2 : Int32} {x3 : Int32} (h0 : mm_obj S a0 12 = true) (h1 : (mm_R S a0 1).isSome = true) (h2 : mm_inb x1 (mm_N S (mm_rg S a0 1)) = true) (h3 : mm_arr S (mm_rg S a0 1) 13 = true) : mm_ex d 135 31 [.ref a0, .int x1, .int x2, .int x3, .null] [] S =
    if (mm_M S (mm_rg S a0 1) (x1).toNatClampNeg) = (nI 6) then mm_ex d 135 45 [.ref a0, .int x1, .int x2, .int x3, .null] [] S else mm_ex d 135 42 [.ref a0, .int x1, .int x2, .int x3, .null] [] S :=
  Eq.trans (mx_aload_n t135 d135_31 (x := a0) rfl) <|
  Eq.trans (mx_getR t135 d135_32 rfl fl12_9 h0 h1) <|
  Eq.trans (mx_iload_n t135 d135_35 (x := x1) rfl) <|
  Eq.trans (mx_iald t135 d135_36 h3 h2) <|
  Eq.trans (mx_bipush t135 d135_37 (v := nI 6) rfl) <|
  (mx_ceq t135 d135_39 (tgt := 45) (by decide))
theorem b135_42 {d : Nat} {S : mm_S} {a0 : Nat} {x1 : Int32} {x2 : Int32} {x3 : Int32} : mm_ex d 135 42 [.ref a0, .int x1, .int x2, .int x3, .null] [] S =
    some (some (.int (-3)), S) :=
  Eq.trans (mx_bipush t135 d135_42 (v := -3) rfl) <|
  (mx_iret t135 d135_44 (ty := .int) rfl rfl (fun h => nomatch h))
theorem b135_45 {d : Nat} {S : mm_S} {a0 : Nat} {x1 : Int32} {x2 : Int32} {x3 : Int32} (h0 : mm_obj S a0 12 = true) (h1 : (mm_R S a0 7).isSome = true) (h2 : mm_inb (((nI 3) * x1) + x2) (mm_N S (mm_rg S a0 7)) = true) (h3 : mm_arr S (mm_rg S a0 7) 13 = true) : mm_ex d 135 45 [.ref a0, .int x1, .int x2, .int x3, .null] [] S =
    some (some (.int (mm_M S (mm_rg S a0 7) (((nI 3) * x1) + x2).toNatClampNeg)), (mm_uM S (mm_rg S a0 7) (((nI 3) * x1) + x2).toNatClampNeg x3)) :=
  Eq.trans (mx_aload_n t135 d135_45 (x := a0) rfl) <|
  Eq.trans (mx_getR t135 d135_46 rfl fl12_30 h0 h1) <|
  Eq.trans (mx_iconst t135 d135_49 (v := nI 3) rfl) <|
  Eq.trans (mx_iload_n t135 d135_50 (x := x1) rfl) <|
  Eq.trans (mx_imul t135 d135_51) <|
  Eq.trans (mx_iload_n t135 d135_52 (x := x2) rfl) <|
  Eq.trans (mx_iadd t135 d135_53) <|
  Eq.trans (mx_iald t135 d135_54 h3 h2) <|
  Eq.trans (mx_istore t135 d135_55 (ls' := [.ref a0, .int x1, .int x2, .int x3, .int (mm_M S (mm_rg S a0 7) (((nI 3) * x1) + x2).toNatClampNeg)]) rfl rfl) <|
  Eq.trans (mx_aload_n t135 d135_57 (x := a0) rfl) <|
  Eq.trans (mx_getR t135 d135_58 rfl fl12_30 h0 h1) <|
  Eq.trans (mx_iconst t135 d135_61 (v := nI 3) rfl) <|
  Eq.trans (mx_iload_n t135 d135_62 (x := x1) rfl) <|
  Eq.trans (mx_imul t135 d135_63) <|
  Eq.trans (mx_iload_n t135 d135_64 (x := x2) rfl) <|
  Eq.trans (mx_iadd t135 d135_65) <|
  Eq.trans (mx_iload_n t135 d135_66 (x := x3) rfl) <|
  Eq.trans (mx_iast2 t135 d135_67 h3 h2) <|
  Eq.trans (mx_iload t135 d135_68 (x := mm_M S (mm_rg S a0 7) (((nI 3) * x1) + x2).toNatClampNeg) rfl) <|
  (mx_iret t135 d135_70 (ty := .int) rfl rfl (fun h => nomatch h))
theorem e135 {d : Nat} {S : mm_S} {a0 : Nat} {x1 : Int32} {x2 : Int32} {x3 : Int32} : mm_cl d 135 [.ref a0, .int x1, .int x2, .int x3] S = mm_ex d 135 0 [.ref a0, .int x1, .int x2, .int x3, .null] [] S := mm_cl_eq t135 (Nat.le_of_ble_eq_true rfl) rfl
/-! X12_back -/
theorem dd136_0 : (decode prog_14_method_11_code 0 = .ok (.aload_n 0, 1)) ∧ (decode prog_14_method_11_code 1 = .ok (.iload_n 1, 1)) ∧ (decode prog_14_method_11_code 2 = .ok (.invokevirtual 169, 3)) ∧ (decode prog_14_method_11_code 5 = .ok (.ifCond .ne 5, 3)) ∧ (decode prog_14_method_11_code 8 = .ok (.iconst (-1), 1)) ∧ (decode prog_14_method_11_code 9 = .ok (.ireturn, 1)) ∧ (decode prog_14_method_11_code 10 = .ok (.aload_n 0, 1)) ∧ (decode prog_14_method_11_code 11 = .ok (.iload_n 1, 1)) ∧ (decode prog_14_method_11_code 12 = .ok (.invokevirtual 173, 3)) ∧ (decode prog_14_method_11_code 15 = .ok (.bipush (-5), 2)) ∧ (decode prog_14_method_11_code 17 = .ok (.if_icmp .eq 6, 3)) ∧ (decode prog_14_method_11_code 20 = .ok (.bipush (-3), 2)) ∧ (decode prog_14_method_11_code 22 = .ok (.ireturn, 1)) ∧ (decode prog_14_method_11_code 23 = .ok (.aload_n 0, 1)) ∧ (decode prog_14_method_11_code 24 = .ok (.getfield 33, 3)) ∧ (decode prog_14_method_11_code 27 = .ok (.aload_n 0, 1)) := by decide +kernel
theorem d136_0 : decode prog_14_method_11_code 0 = .ok (.aload_n 0, 1) := dd136_0.1
theorem d136_1 : decode prog_14_method_11_code 1 = .ok (.iload_n 1, 1) := dd136_0.2.1
theorem d136_2 : decode prog_14_method_11_code 2 = .ok (.invokevirtual 169, 3) := dd136_0.2.2.1
theorem d136_5 : decode prog_14_method_11_code 5 = .ok (.ifCond .ne 5, 3) := dd136_0.2.2.2.1
theorem d136_8 : decode prog_14_method_11_code 8 = .ok (.iconst (-1), 1) := dd136_0.2.2.2.2.1
theorem d136_9 : decode prog_14_method_11_code 9 = .ok (.ireturn, 1) := dd136_0.2.2.2.2.2.1
theorem d136_10 : decode prog_14_method_11_code 10 = .ok (.aload_n 0, 1) := dd136_0.2.2.2.2.2.2.1
theorem d136_11 : decode prog_14_method_11_code 11 = .ok (.iload_n 1, 1) := dd136_0.2.2.2.2.2.2.2.1
theorem d136_12 : decode prog_14_method_11_code 12 = .ok (.invokevirtual 173, 3) := dd136_0.2.2.2.2.2.2.2.2.1
theorem d136_15 : decode prog_14_method_11_code 15 = .ok (.bipush (-5), 2) := dd136_0.2.2.2.2.2.2.2.2.2.1
theorem d136_17 : decode prog_14_method_11_code 17 = .ok (.if_icmp .eq 6, 3) := dd136_0.2.2.2.2.2.2.2.2.2.2.1
theorem d136_20 : decode prog_14_method_11_code 20 = .ok (.bipush (-3), 2) := dd136_0.2.2.2.2.2.2.2.2.2.2.2.1
theorem d136_22 : decode prog_14_method_11_code 22 = .ok (.ireturn, 1) := dd136_0.2.2.2.2.2.2.2.2.2.2.2.2.1
theorem d136_23 : decode prog_14_method_11_code 23 = .ok (.aload_n 0, 1) := dd136_0.2.2.2.2.2.2.2.2.2.2.2.2.2.1
theorem d136_24 : decode prog_14_method_11_code 24 = .ok (.getfield 33, 3) := dd136_0.2.2.2.2.2.2.2.2.2.2.2.2.2.2.1
theorem d136_27 : decode prog_14_method_11_code 27 = .ok (.aload_n 0, 1) := dd136_0.2.2.2.2.2.2.2.2.2.2.2.2.2.2.2
theorem dd136_28 : (decode prog_14_method_11_code 28 = .ok (.getfield 166, 3)) ∧ (decode prog_14_method_11_code 31 = .ok (.iload_n 1, 1)) ∧ (decode prog_14_method_11_code 32 = .ok (.iastore, 1)) ∧ (decode prog_14_method_11_code 33 = .ok (.aload_n 0, 1)) ∧ (decode prog_14_method_11_code 34 = .ok (.dup, 1)) ∧ (decode prog_14_method_11_code 35 = .ok (.getfield 166, 3)) ∧ (decode prog_14_method_11_code 38 = .ok (.iconst 1, 1)) ∧ (decode prog_14_method_11_code 39 = .ok (.iadd, 1)) ∧ (decode prog_14_method_11_code 40 = .ok (.putfield 166, 3)) ∧ (decode prog_14_method_11_code 43 = .ok (.aload_n 0, 1)) ∧ (decode prog_14_method_11_code 44 = .ok (.getfield 166, 3)) ∧ (decode prog_14_method_11_code 47 = .ok (.iconst 1, 1)) ∧ (decode prog_14_method_11_code 48 = .ok (.isub, 1)) ∧ (decode prog_14_method_11_code 49 = .ok (.ireturn, 1)) := by decide +kernel
theorem d136_28 : decode prog_14_method_11_code 28 = .ok (.getfield 166, 3) := dd136_28.1
theorem d136_31 : decode prog_14_method_11_code 31 = .ok (.iload_n 1, 1) := dd136_28.2.1
theorem d136_32 : decode prog_14_method_11_code 32 = .ok (.iastore, 1) := dd136_28.2.2.1
theorem d136_33 : decode prog_14_method_11_code 33 = .ok (.aload_n 0, 1) := dd136_28.2.2.2.1
theorem d136_34 : decode prog_14_method_11_code 34 = .ok (.dup, 1) := dd136_28.2.2.2.2.1
theorem d136_35 : decode prog_14_method_11_code 35 = .ok (.getfield 166, 3) := dd136_28.2.2.2.2.2.1
theorem d136_38 : decode prog_14_method_11_code 38 = .ok (.iconst 1, 1) := dd136_28.2.2.2.2.2.2.1
theorem d136_39 : decode prog_14_method_11_code 39 = .ok (.iadd, 1) := dd136_28.2.2.2.2.2.2.2.1
theorem d136_40 : decode prog_14_method_11_code 40 = .ok (.putfield 166, 3) := dd136_28.2.2.2.2.2.2.2.2.1
theorem d136_43 : decode prog_14_method_11_code 43 = .ok (.aload_n 0, 1) := dd136_28.2.2.2.2.2.2.2.2.2.1
theorem d136_44 : decode prog_14_method_11_code 44 = .ok (.getfield 166, 3) := dd136_28.2.2.2.2.2.2.2.2.2.2.1
theorem d136_47 : decode prog_14_method_11_code 47 = .ok (.iconst 1, 1) := dd136_28.2.2.2.2.2.2.2.2.2.2.2.1
theorem d136_48 : decode prog_14_method_11_code 48 = .ok (.isub, 1) := dd136_28.2.2.2.2.2.2.2.2.2.2.2.2.1
theorem d136_49 : decode prog_14_method_11_code 49 = .ok (.ireturn, 1) := dd136_28.2.2.2.2.2.2.2.2.2.2.2.2.2
theorem b136_0 {d : Nat} {S : mm_S} {a0 : Nat} {x1 : Int32} (h0 : mm_rk S a0 = 12) : mm_ex (d + 1) 136 0 [.ref a0, .int x1] [] S =
    mm_bd (mm_cl d 129 [.ref a0, .int x1] S) (fun v S2 => mm_ex (d + 1) 136 5 [.ref a0, .int x1] (v.toList ++ []) S2) :=
  Eq.trans (mx_aload_n t136 d136_0 (x := a0) rfl) <|
  Eq.trans (mx_iload_n t136 d136_1 (x := x1) rfl) <|
  (mx_virt (st := []) (k := 12) t136 [.int x1] d136_2 vt12_169 rfl rfl (Nat.le_of_ble_eq_true rfl) (Nat.le_of_ble_eq_true rfl) h0)
theorem b136_5 {d : Nat} {S : mm_S} {a0 : Nat} {x1 : Int32} {p0 : Int32} : mm_ex d 136 5 [.ref a0, .int x1] [.int p0] S =
    if p0 = nI 0 then mm_ex d 136 8 [.ref a0, .int x1] [] S else mm_ex d 136 10 [.ref a0, .int x1] [] S :=
  (mx_ine t136 d136_5 (tgt := 10) (by decide))
theorem b136_8 {d : Nat} {S : mm_S} {a0 : Nat} {x1 : Int32} : mm_ex d 136 8 [.ref a0, .int x1] [] S =
    some (some (.int (-1)), S) :=
  Eq.trans (mx_iconst t136 d136_8 (v := -1) rfl) <|
  (mx_iret t136 d136_9 (ty := .int) rfl rfl (fun h => nomatch h))
theorem b136_10 {d : Nat} {S : mm_S} {a0 : Nat} {x1 : Int32} (h0 : mm_rk S a0 = 12) : mm_ex (d + 1) 136 10 [.ref a0, .int x1] [] S =
    mm_bd (mm_cl d 130 [.ref a0, .int x1] S) (fun v S2 => mm_ex (d + 1) 136 15 [.ref a0, .int x1] (v.toList ++ []) S2) :=
  Eq.trans (mx_aload_n t136 d136_10 (x := a0) rfl) <|
  Eq.trans (mx_iload_n t136 d136_11 (x := x1) rfl) <|
  (mx_virt (st := []) (k := 12) t136 [.int x1] d136_12 vt12_173 rfl rfl (Nat.le_of_ble_eq_true rfl) (Nat.le_of_ble_eq_true rfl) h0)
theorem b136_15 {d : Nat} {S : mm_S} {a0 : Nat} {x1 : Int32} {p0 : Int32} : mm_ex d 136 15 [.ref a0, .int x1] [.int p0] S =
    if p0 = (-5) then mm_ex d 136 23 [.ref a0, .int x1] [] S else mm_ex d 136 20 [.ref a0, .int x1] [] S :=
  Eq.trans (mx_bipush t136 d136_15 (v := -5) rfl) <|
  (mx_ceq t136 d136_17 (tgt := 23) (by decide))
theorem b136_20 {d : Nat} {S : mm_S} {a0 : Nat} {x1 : Int32} : mm_ex d 136 20 [.ref a0, .int x1] [] S =
    some (some (.int (-3)), S) :=
  Eq.trans (mx_bipush t136 d136_20 (v := -3) rfl) <|
  (mx_iret t136 d136_22 (ty := .int) rfl rfl (fun h => nomatch h))
theorem b136_23 {d : Nat} {S : mm_S} {a0 : Nat} {x1 : Int32} (h0 : mm_obj S a0 12 = true) (h1 : (mm_R S a0 9).isSome = true) (h2 : mm_arr S (mm_rg S a0 9) 13 = true) (h3 : mm_inb (mm_M S a0 8) (mm_N S (mm_rg S a0 9)) = true) : mm_ex d 136 23 [.ref a0, .int x1] [] S =
    mm_ex d 136 35 [.ref a0, .int x1] [.ref a0, .ref a0] (mm_uM S (mm_rg S a0 9) (mm_M S a0 8).toNatClampNeg x1) :=
  Eq.trans (mx_aload_n t136 d136_23 (x := a0) rfl) <|
  Eq.trans (mx_getR t136 d136_24 rfl fl12_33 h0 h1) <|
  Eq.trans (mx_aload_n t136 d136_27 (x := a0) rfl) <|
  Eq.trans (mx_geti t136 d136_28 rfl fl12_166 h0) <|
  Eq.trans (mx_iload_n t136 d136_31 (x := x1) rfl) <|
  Eq.trans (mx_iast2 t136 d136_32 h2 h3) <|
  Eq.trans (mx_aload_n t136 d136_33 (x := a0) rfl) <|
  (mx_dupr t136 d136_34)
theorem b136_35 {d : Nat} {S : mm_S} {a0 : Nat} {x1 : Int32} {p0 : Nat} {p1 : Nat} (h0 : mm_obj S p0 12 = true) (h1 : mm_obj S p1 12 = true) : mm_ex d 136 35 [.ref a0, .int x1] [.ref p0, .ref p1] S =
    mm_ex d 136 44 [.ref a0, .int x1] [.ref a0] (mm_uM S p1 8 ((mm_M S p0 8) + (nI 1))) :=
  Eq.trans (mx_geti t136 d136_35 rfl fl12_166 h0) <|
  Eq.trans (mx_iconst t136 d136_38 (v := nI 1) rfl) <|
  Eq.trans (mx_iadd t136 d136_39) <|
  Eq.trans (mx_puti2 t136 d136_40 fl12_166 rfl h1) <|
  (mx_aload_n t136 d136_43 (x := a0) rfl)
theorem b136_44 {d : Nat} {S : mm_S} {a0 : Nat} {x1 : Int32} {p0 : Nat} (h0 : mm_obj S p0 12 = true) : mm_ex d 136 44 [.ref a0, .int x1] [.ref p0] S =
    some (some (.int ((mm_M S p0 8) - (nI 1))), S) :=
  Eq.trans (mx_geti t136 d136_44 rfl fl12_166 h0) <|
  Eq.trans (mx_iconst t136 d136_47 (v := nI 1) rfl) <|
  Eq.trans (mx_isub t136 d136_48) <|
  (mx_iret t136 d136_49 (ty := .int) rfl rfl (fun h => nomatch h))
theorem e136 {d : Nat} {S : mm_S} {a0 : Nat} {x1 : Int32} : mm_cl d 136 [.ref a0, .int x1] S = mm_ex d 136 0 [.ref a0, .int x1] [] S := mm_cl_eq t136 (Nat.le_of_ble_eq_true rfl) rfl
/-! X12_set -/
theorem dd137_0 : (decode prog_14_method_12_code 0 = .ok (.iload_n 1, 1)) ∧ (decode prog_14_method_12_code 1 = .ok (.iconst 0, 1)) ∧ (decode prog_14_method_12_code 2 = .ok (.iconst 1, 1)) ∧ (decode prog_14_method_12_code 3 = .ok (.invokestatic 162, 3)) ∧ (decode prog_14_method_12_code 6 = .ok (.ifCond .ne 5, 3)) ∧ (decode prog_14_method_12_code 9 = .ok (.iconst (-1), 1)) ∧ (decode prog_14_method_12_code 10 = .ok (.ireturn, 1)) ∧ (decode prog_14_method_12_code 11 = .ok (.iload_n 2, 1)) ∧ (decode prog_14_method_12_code 12 = .ok (.iconst 0, 1)) ∧ (decode prog_14_method_12_code 13 = .ok (.iload_n 1, 1)) ∧ (decode prog_14_method_12_code 14 = .ok (.ifCond .ne 9, 3)) ∧ (decode prog_14_method_12_code 17 = .ok (.sipush 999, 3)) ∧ (decode prog_14_method_12_code 20 = .ok (.goto 5, 3)) ∧ (decode prog_14_method_12_code 23 = .ok (.bipush 9, 2)) ∧ (decode prog_14_method_12_code 25 = .ok (.invokestatic 162, 3)) ∧ (decode prog_14_method_12_code 28 = .ok (.ifCond .ne 6, 3)) := by decide +kernel
theorem d137_0 : decode prog_14_method_12_code 0 = .ok (.iload_n 1, 1) := dd137_0.1
theorem d137_1 : decode prog_14_method_12_code 1 = .ok (.iconst 0, 1) := dd137_0.2.1
theorem d137_2 : decode prog_14_method_12_code 2 = .ok (.iconst 1, 1) := dd137_0.2.2.1
theorem d137_3 : decode prog_14_method_12_code 3 = .ok (.invokestatic 162, 3) := dd137_0.2.2.2.1
theorem d137_6 : decode prog_14_method_12_code 6 = .ok (.ifCond .ne 5, 3) := dd137_0.2.2.2.2.1
theorem d137_9 : decode prog_14_method_12_code 9 = .ok (.iconst (-1), 1) := dd137_0.2.2.2.2.2.1
theorem d137_10 : decode prog_14_method_12_code 10 = .ok (.ireturn, 1) := dd137_0.2.2.2.2.2.2.1
theorem d137_11 : decode prog_14_method_12_code 11 = .ok (.iload_n 2, 1) := dd137_0.2.2.2.2.2.2.2.1
theorem d137_12 : decode prog_14_method_12_code 12 = .ok (.iconst 0, 1) := dd137_0.2.2.2.2.2.2.2.2.1
theorem d137_13 : decode prog_14_method_12_code 13 = .ok (.iload_n 1, 1) := dd137_0.2.2.2.2.2.2.2.2.2.1
theorem d137_14 : decode prog_14_method_12_code 14 = .ok (.ifCond .ne 9, 3) := dd137_0.2.2.2.2.2.2.2.2.2.2.1
theorem d137_17 : decode prog_14_method_12_code 17 = .ok (.sipush 999, 3) := dd137_0.2.2.2.2.2.2.2.2.2.2.2.1
theorem d137_20 : decode prog_14_method_12_code 20 = .ok (.goto 5, 3) := dd137_0.2.2.2.2.2.2.2.2.2.2.2.2.1
theorem d137_23 : decode prog_14_method_12_code 23 = .ok (.bipush 9, 2) := dd137_0.2.2.2.2.2.2.2.2.2.2.2.2.2.1
theorem d137_25 : decode prog_14_method_12_code 25 = .ok (.invokestatic 162, 3) := dd137_0.2.2.2.2.2.2.2.2.2.2.2.2.2.2.1
theorem d137_28 : decode prog_14_method_12_code 28 = .ok (.ifCond .ne 6, 3) := dd137_0.2.2.2.2.2.2.2.2.2.2.2.2.2.2.2
theorem dd137_31 : (decode prog_14_method_12_code 31 = .ok (.bipush (-2), 2)) ∧ (decode prog_14_method_12_code 33 = .ok (.ireturn, 1)) ∧ (decode prog_14_method_12_code 34 = .ok (.iload_n 1, 1)) ∧ (decode prog_14_method_12_code 35 = .ok (.ifCond .ne 10, 3)) ∧ (decode prog_14_method_12_code 38 = .ok (.aload_n 0, 1)) ∧ (decode prog_14_method_12_code 39 = .ok (.getfield 36, 3)) ∧ (decode prog_14_method_12_code 42 = .ok (.goto 7, 3)) ∧ (decode prog_14_method_12_code 45 = .ok (.aload_n 0, 1)) ∧ (decode prog_14_method_12_code 46 = .ok (.getfield 40, 3)) ∧ (decode prog_14_method_12_code 49 = .ok (.istore_n 3, 1)) ∧ (decode prog_14_method_12_code 50 = .ok (.aload_n 0, 1)) ∧ (decode prog_14_method_12_code 51 = .ok (.iload_n 1, 1)) ∧ (decode prog_14_method_12_code 52 = .ok (.ifCond .ne 7, 3)) ∧ (decode prog_14_method_12_code 55 = .ok (.iload_n 2, 1)) ∧ (decode prog_14_method_12_code 56 = .ok (.goto 7, 3)) ∧ (decode prog_14_method_12_code 59 = .ok (.aload_n 0, 1)) := by decide +kernel
theorem d137_31 : decode prog_14_method_12_code 31 = .ok (.bipush (-2), 2) := dd137_31.1
theorem d137_33 : decode prog_14_method_12_code 33 = .ok (.ireturn, 1) := dd137_31.2.1
theorem d137_34 : decode prog_14_method_12_code 34 = .ok (.iload_n 1, 1) := dd137_31.2.2.1
theorem d137_35 : decode prog_14_method_12_code 35 = .ok (.ifCond .ne 10, 3) := dd137_31.2.2.2.1
theorem d137_38 : decode prog_14_method_12_code 38 = .ok (.aload_n 0, 1) := dd137_31.2.2.2.2.1
theorem d137_39 : decode prog_14_method_12_code 39 = .ok (.getfield 36, 3) := dd137_31.2.2.2.2.2.1
theorem d137_42 : decode prog_14_method_12_code 42 = .ok (.goto 7, 3) := dd137_31.2.2.2.2.2.2.1
theorem d137_45 : decode prog_14_method_12_code 45 = .ok (.aload_n 0, 1) := dd137_31.2.2.2.2.2.2.2.1
theorem d137_46 : decode prog_14_method_12_code 46 = .ok (.getfield 40, 3) := dd137_31.2.2.2.2.2.2.2.2.1
theorem d137_49 : decode prog_14_method_12_code 49 = .ok (.istore_n 3, 1) := dd137_31.2.2.2.2.2.2.2.2.2.1
theorem d137_50 : decode prog_14_method_12_code 50 = .ok (.aload_n 0, 1) := dd137_31.2.2.2.2.2.2.2.2.2.2.1
theorem d137_51 : decode prog_14_method_12_code 51 = .ok (.iload_n 1, 1) := dd137_31.2.2.2.2.2.2.2.2.2.2.2.1
theorem d137_52 : decode prog_14_method_12_code 52 = .ok (.ifCond .ne 7, 3) := dd137_31.2.2.2.2.2.2.2.2.2.2.2.2.1
theorem d137_55 : decode prog_14_method_12_code 55 = .ok (.iload_n 2, 1) := dd137_31.2.2.2.2.2.2.2.2.2.2.2.2.2.1
theorem d137_56 : decode prog_14_method_12_code 56 = .ok (.goto 7, 3) := dd137_31.2.2.2.2.2.2.2.2.2.2.2.2.2.2.1
theorem d137_59 : decode prog_14_method_12_code 59 = .ok (.aload_n 0, 1) := dd137_31.2.2.2.2.2.2.2.2.2.2.2.2.2.2.2
theorem dd137_60 : (decode prog_14_method_12_code 60 = .ok (.getfield 36, 3)) ∧ (decode prog_14_method_12_code 63 = .ok (.putfield 36, 3)) ∧ (decode prog_14_method_12_code 66 = .ok (.aload_n 0, 1)) ∧ (decode prog_14_method_12_code 67 = .ok (.iload_n 1, 1)) ∧ (decode prog_14_method_12_code 68 = .ok (.iconst 1, 1)) ∧ (decode prog_14_method_12_code 69 = .ok (.if_icmp .ne 7, 3)) ∧ (decode prog_14_method_12_code 72 = .ok (.iload_n 2, 1)) ∧ (decode prog_14_method_12_code 73 = .ok (.goto 7, 3)) ∧ (decode prog_14_method_12_code 76 = .ok (.aload_n 0, 1)) ∧ (decode prog_14_method_12_code 77 = .ok (.getfield 40, 3)) ∧ (decode prog_14_method_12_code 80 = .ok (.putfield 40, 3)) ∧ (decode prog_14_method_12_code 83 = .ok (.iload_n 3, 1)) ∧ (decode prog_14_method_12_code 84 = .ok (.ireturn, 1)) := by decide +kernel
theorem d137_60 : decode prog_14_method_12_code 60 = .ok (.getfield 36, 3) := dd137_60.1
theorem d137_63 : decode prog_14_method_12_code 63 = .ok (.putfield 36, 3) := dd137_60.2.1
theorem d137_66 : decode prog_14_method_12_code 66 = .ok (.aload_n 0, 1) := dd137_60.2.2.1
theorem d137_67 : decode prog_14_method_12_code 67 = .ok (.iload_n 1, 1) := dd137_60.2.2.2.1
theorem d137_68 : decode prog_14_method_12_code 68 = .ok (.iconst 1, 1) := dd137_60.2.2.2.2.1
theorem d137_69 : decode prog_14_method_12_code 69 = .ok (.if_icmp .ne 7, 3) := dd137_60.2.2.2.2.2.1
theorem d137_72 : decode prog_14_method_12_code 72 = .ok (.iload_n 2, 1) := dd137_60.2.2.2.2.2.2.1
theorem d137_73 : decode prog_14_method_12_code 73 = .ok (.goto 7, 3) := dd137_60.2.2.2.2.2.2.2.1
theorem d137_76 : decode prog_14_method_12_code 76 = .ok (.aload_n 0, 1) := dd137_60.2.2.2.2.2.2.2.2.1
theorem d137_77 : decode prog_14_method_12_code 77 = .ok (.getfield 40, 3) := dd137_60.2.2.2.2.2.2.2.2.2.1
theorem d137_80 : decode prog_14_method_12_code 80 = .ok (.putfield 40, 3) := dd137_60.2.2.2.2.2.2.2.2.2.2.1
theorem d137_83 : decode prog_14_method_12_code 83 = .ok (.iload_n 3, 1) := dd137_60.2.2.2.2.2.2.2.2.2.2.2.1
theorem d137_84 : decode prog_14_method_12_code 84 = .ok (.ireturn, 1) := dd137_60.2.2.2.2.2.2.2.2.2.2.2.2
theorem b137_0 {d : Nat} {S : mm_S} {a0 : Nat} {x1 : Int32} {x2 : Int32} : mm_ex (d + 1) 137 0 [.ref a0, .int x1, .int x2, .null] [] S =
    mm_bd (mm_cl d 128 [.int x1, .int (nI 0), .int (nI 1)] S) (fun v S2 => mm_ex (d + 1) 137 6 [.ref a0, .int x1, .int x2, .null] (v.toList ++ []) S2) :=
  Eq.trans (mx_iload_n t137 d137_0 (x := x1) rfl) <|
  Eq.trans (mx_iconst t137 d137_1 (v := nI 0) rfl) <|
  Eq.trans (mx_iconst t137 d137_2 (v := nI 1) rfl) <|
  (mx_stat (st := []) t137 [.int x1, .int (nI 0), .int (nI 1)] d137_3 acn12_162 mxn12_162 st12_162 rfl (Nat.le_of_ble_eq_true rfl) (Nat.le_of_ble_eq_true rfl))
theorem b137_6 {d : Nat} {S : mm_S} {a0 : Nat} {x1 : Int32} {x2 : Int32} {p0 : Int32} : mm_ex d 137 6 [.ref a0, .int x1, .int x2, .null] [.int p0] S =
    if p0 = nI 0 then mm_ex d 137 9 [.ref a0, .int x1, .int x2, .null] [] S else mm_ex d 137 11 [.ref a0, .int x1, .int x2, .null] [] S :=
  (mx_ine t137 d137_6 (tgt := 11) (by decide))
theorem b137_9 {d : Nat} {S : mm_S} {a0 : Nat} {x1 : Int32} {x2 : Int32} : mm_ex d 137 9 [.ref a0, .int x1, .int x2, .null] [] S =
    some (some (.int (-1)), S) :=
  Eq.trans (mx_iconst t137 d137_9 (v := -1) rfl) <|
  (mx_iret t137 d137_10 (ty := .int) rfl rfl (fun h => nomatch h))
theorem b137_11 {d : Nat} {S : mm_S} {a0 : Nat} {x1 : Int32} {x2 : Int32} : mm_ex d 137 11 [.ref a0, .int x1, .int x2, .null] [] S =
    if x1 = nI 0 then mm_ex d 137 17 [.ref a0, .int x1, .int x2, .null] [.int (nI 0), .int x2] S else mm_ex d 137 23 [.ref a0, .int x1, .int x2, .null] [.int (nI 0), .int x2] S :=
  Eq.trans (mx_iload_n t137 d137_11 (x := x2) rfl) <|
  Eq.trans (mx_iconst t137 d137_12 (v := nI 0) rfl) <|
  Eq.trans (mx_iload_n t137 d137_13 (x := x1) rfl) <|
  (mx_ine t137 d137_14 (tgt := 23) (by decide))
theorem b137_17 {d : Nat} {S : mm_S} {a0 : Nat} {x1 : Int32} {x2 : Int32} {p0 : Int32} {p1 : Int32} : mm_ex (d + 1) 137 17 [.ref a0, .int x1, .int x2, .null] [.int p0, .int p1] S =
    mm_bd (mm_cl d 128 [.int p1, .int p0, .int (nI 999)] S) (fun v S2 => mm_ex (d + 1) 137 28 [.ref a0, .int x1, .int x2, .null] (v.toList ++ []) S2) :=
  Eq.trans (mx_sipush t137 d137_17 (v := nI 999) rfl) <|
  Eq.trans (mx_goto t137 d137_20 (tgt := 25) (by decide)) <|
  (mx_stat (st := []) t137 [.int p1, .int p0, .int (nI 999)] d137_25 acn12_162 mxn12_162 st12_162 rfl (Nat.le_of_ble_eq_true rfl) (Nat.le_of_ble_eq_true rfl))
theorem b137_23 {d : Nat} {S : mm_S} {a0 : Nat} {x1 : Int32} {x2 : Int32} {p0 : Int32} {p1 : Int32} : mm_ex (d + 1) 137 23 [.ref a0, .int x1, .int x2, .null] [.int p0, .int p1] S =
    mm_bd (mm_cl d 128 [.int p1, .int p0, .int (nI 9)] S) (fun v S2 => mm_ex (d + 1) 137 28 [.ref a0, .int x1, .int x2, .null] (v.toList ++ []) S2) :=
  Eq.trans (mx_bipush t137 d137_23 (v := nI 9) rfl) <|
  (mx_stat (st := []) t137 [.int p1, .int p0, .int (nI 9)] d137_25 acn12_162 mxn12_162 st12_162 rfl (Nat.le_of_ble_eq_true rfl) (Nat.le_of_ble_eq_true rfl))
theorem b137_28 {d : Nat} {S : mm_S} {a0 : Nat} {x1 : Int32} {x2 : Int32} {p0 : Int32} : mm_ex d 137 28 [.ref a0, .int x1, .int x2, .null] [.int p0] S =
    if p0 = nI 0 then mm_ex d 137 31 [.ref a0, .int x1, .int x2, .null] [] S else mm_ex d 137 34 [.ref a0, .int x1, .int x2, .null] [] S :=
  (mx_ine t137 d137_28 (tgt := 34) (by decide))
theorem b137_31 {d : Nat} {S : mm_S} {a0 : Nat} {x1 : Int32} {x2 : Int32} : mm_ex d 137 31 [.ref a0, .int x1, .int x2, .null] [] S =
    some (some (.int (-2)), S) :=
  Eq.trans (mx_bipush t137 d137_31 (v := -2) rfl) <|
  (mx_iret t137 d137_33 (ty := .int) rfl rfl (fun h => nomatch h))
theorem b137_34 {d : Nat} {S : mm_S} {a0 : Nat} {x1 : Int32} {x2 : Int32} : mm_ex d 137 34 [.ref a0, .int x1, .int x2, .null] [] S =
    if x1 = nI 0 then mm_ex d 137 38 [.ref a0, .int x1, .int x2, .null] [] S else mm_ex d 137 45 [.ref a0, .int x1, .int x2, .null] [] S :=
  Eq.trans (mx_iload_n t137 d137_34 (x := x1) rfl) <|
  (mx_ine t137 d137_35 (tgt := 45) (by decide))
theorem b137_38 {d : Nat} {S : mm_S} {a0 : Nat} {x1 : Int32} {x2 : Int32} (h0 : mm_obj S a0 12 = true) : mm_ex d 137 38 [.ref a0, .int x1, .int x2, .null] [] S =
    if x1 = nI 0 then mm_ex d 137 55 [.ref a0, .int x1, .int x2, .int (mm_M S a0 10)] [.ref a0] S else mm_ex d 137 59 [.ref a0, .int x1, .int x2, .int (mm_M S a0 10)] [.ref a0] S :=
  Eq.trans (mx_aload_n t137 d137_38 (x := a0) rfl) <|
  Eq.trans (mx_geti t137 d137_39 rfl fl12_36 h0) <|
  Eq.trans (mx_goto t137 d137_42 (tgt := 49) (by decide)) <|
  Eq.trans (mx_istore_n t137 d137_49 (ls' := [.ref a0, .int x1, .int x2, .int (mm_M S a0 10)]) rfl rfl) <|
  Eq.trans (mx_aload_n t137 d137_50 (x := a0) rfl) <|
  Eq.trans (mx_iload_n t137 d137_51 (x := x1) rfl) <|
  (mx_ine t137 d137_52 (tgt := 59) (by decide))
theorem b137_45 {d : Nat} {S : mm_S} {a0 : Nat} {x1 : Int32} {x2 : Int32} (h0 : mm_obj S a0 12 = true) : mm_ex d 137 45 [.ref a0, .int x1, .int x2, .null] [] S =
    if x1 = nI 0 then mm_ex d 137 55 [.ref a0, .int x1, .int x2, .int (mm_M S a0 11)] [.ref a0] S else mm_ex d 137 59 [.ref a0, .int x1, .int x2, .int (mm_M S a0 11)] [.ref a0] S :=
  Eq.trans (mx_aload_n t137 d137_45 (x := a0) rfl) <|
  Eq.trans (mx_geti t137 d137_46 rfl fl12_40 h0) <|
  Eq.trans (mx_istore_n t137 d137_49 (ls' := [.ref a0, .int x1, .int x2, .int (mm_M S a0 11)]) rfl rfl) <|
  Eq.trans (mx_aload_n t137 d137_50 (x := a0) rfl) <|
  Eq.trans (mx_iload_n t137 d137_51 (x := x1) rfl) <|
  (mx_ine t137 d137_52 (tgt := 59) (by decide))
theorem b137_55 {d : Nat} {S : mm_S} {a0 : Nat} {x1 : Int32} {x2 : Int32} {x3 : Int32} {p0 : Nat} (h0 : mm_obj S p0 12 = true) : mm_ex d 137 55 [.ref a0, .int x1, .int x2, .int x3] [.ref p0] S =
    if x1 = (nI 1) then mm_ex d 137 72 [.ref a0, .int x1, .int x2, .int x3] [.ref a0] (mm_uM S p0 10 x2) else mm_ex d 137 76 [.ref a0, .int x1, .int x2, .int x3] [.ref a0] (mm_uM S p0 10 x2) :=
  Eq.trans (mx_iload_n t137 d137_55 (x := x2) rfl) <|
  Eq.trans (mx_goto t137 d137_56 (tgt := 63) (by decide)) <|
  Eq.trans (mx_puti2 t137 d137_63 fl12_36 rfl h0) <|
  Eq.trans (mx_aload_n t137 d137_66 (x := a0) rfl) <|
  Eq.trans (mx_iload_n t137 d137_67 (x := x1) rfl) <|
  Eq.trans (mx_iconst t137 d137_68 (v := nI 1) rfl) <|
  (mx_cne t137 d137_69 (tgt := 76) (by decide))
theorem b137_59 {d : Nat} {S : mm_S} {a0 : Nat} {x1 : Int32} {x2 : Int32} {x3 : Int32} {p0 : Nat} (h0 : mm_obj S a0 12 = true) (h1 : mm_obj S p0 12 = true) : mm_ex d 137 59 [.ref a0, .int x1, .int x2, .int x3] [.ref p0] S =
    if x1 = (nI 1) then mm_ex d 137 72 [.ref a0, .int x1, .int x2, .int x3] [.ref a0] (mm_uM S p0 10 (mm_M S a0 10)) else mm_ex d 137 76 [.ref a0, .int x1, .int x2, .int x3] [.ref a0] (mm_uM S p0 10 (mm_M S a0 10)) :=
  Eq.trans (mx_aload_n t137 d137_59 (x := a0) rfl) <|
  Eq.trans (mx_geti t137 d137_60 rfl fl12_36 h0) <|
  Eq.trans (mx_puti2 t137 d137_63 fl12_36 rfl h1) <|
  Eq.trans (mx_aload_n t137 d137_66 (x := a0) rfl) <|
  Eq.trans (mx_iload_n t137 d137_67 (x := x1) rfl) <|
  Eq.trans (mx_iconst t137 d137_68 (v := nI 1) rfl) <|
  (mx_cne t137 d137_69 (tgt := 76) (by decide))
theorem b137_72 {d : Nat} {S : mm_S} {a0 : Nat} {x1 : Int32} {x2 : Int32} {x3 : Int32} {p0 : Nat} (h0 : mm_obj S p0 12 = true) : mm_ex d 137 72 [.ref a0, .int x1, .int x2, .int x3] [.ref p0] S =
    some (some (.int x3), (mm_uM S p0 11 x2)) :=
  Eq.trans (mx_iload_n t137 d137_72 (x := x2) rfl) <|
  Eq.trans (mx_goto t137 d137_73 (tgt := 80) (by decide)) <|
  Eq.trans (mx_puti2 t137 d137_80 fl12_40 rfl h0) <|
  Eq.trans (mx_iload_n t137 d137_83 (x := x3) rfl) <|
  (mx_iret t137 d137_84 (ty := .int) rfl rfl (fun h => nomatch h))
theorem b137_76 {d : Nat} {S : mm_S} {a0 : Nat} {x1 : Int32} {x2 : Int32} {x3 : Int32} {p0 : Nat} (h0 : mm_obj S a0 12 = true) (h1 : mm_obj S p0 12 = true) : mm_ex d 137 76 [.ref a0, .int x1, .int x2, .int x3] [.ref p0] S =
    some (some (.int x3), (mm_uM S p0 11 (mm_M S a0 11))) :=
  Eq.trans (mx_aload_n t137 d137_76 (x := a0) rfl) <|
  Eq.trans (mx_geti t137 d137_77 rfl fl12_40 h0) <|
  Eq.trans (mx_puti2 t137 d137_80 fl12_40 rfl h1) <|
  Eq.trans (mx_iload_n t137 d137_83 (x := x3) rfl) <|
  (mx_iret t137 d137_84 (ty := .int) rfl rfl (fun h => nomatch h))
theorem e137 {d : Nat} {S : mm_S} {a0 : Nat} {x1 : Int32} {x2 : Int32} : mm_cl d 137 [.ref a0, .int x1, .int x2] S = mm_ex d 137 0 [.ref a0, .int x1, .int x2, .null] [] S := mm_cl_eq t137 (Nat.le_of_ble_eq_true rfl) rfl
/-! X12_feed -/
theorem dd138_0 : (decode prog_14_method_13_code 0 = .ok (.iload_n 1, 1)) ∧ (decode prog_14_method_13_code 1 = .ok (.iconst 0, 1)) ∧ (decode prog_14_method_13_code 2 = .ok (.bipush 127, 2)) ∧ (decode prog_14_method_13_code 4 = .ok (.invokestatic 162, 3)) ∧ (decode prog_14_method_13_code 7 = .ok (.ifCond .ne 6, 3)) ∧ (decode prog_14_method_13_code 10 = .ok (.bipush (-2), 2)) ∧ (decode prog_14_method_13_code 12 = .ok (.ireturn, 1)) ∧ (decode prog_14_method_13_code 13 = .ok (.aload_n 0, 1)) ∧ (decode prog_14_method_13_code 14 = .ok (.getfield 184, 3)) ∧ (decode prog_14_method_13_code 17 = .ok (.bipush 100, 2)) ∧ (decode prog_14_method_13_code 19 = .ok (.if_icmp .ne 6, 3)) ∧ (decode prog_14_method_13_code 22 = .ok (.bipush (-4), 2)) ∧ (decode prog_14_method_13_code 24 = .ok (.ireturn, 1)) ∧ (decode prog_14_method_13_code 25 = .ok (.aload_n 0, 1)) ∧ (decode prog_14_method_13_code 26 = .ok (.getfield 67, 3)) ∧ (decode prog_14_method_13_code 29 = .ok (.aload_n 0, 1)) := by decide +kernel
theorem d138_0 : decode prog_14_method_13_code 0 = .ok (.iload_n 1, 1) := dd138_0.1
theorem d138_1 : decode prog_14_method_13_code 1 = .ok (.iconst 0, 1) := dd138_0.2.1
theorem d138_2 : decode prog_14_method_13_code 2 = .ok (.bipush 127, 2) := dd138_0.2.2.1
theorem d138_4 : decode prog_14_method_13_code 4 = .ok (.invokestatic 162, 3) := dd138_0.2.2.2.1
theorem d138_7 : decode prog_14_method_13_code 7 = .ok (.ifCond .ne 6, 3) := dd138_0.2.2.2.2.1
theorem d138_10 : decode prog_14_method_13_code 10 = .ok (.bipush (-2), 2) := dd138_0.2.2.2.2.2.1
theorem d138_12 : decode prog_14_method_13_code 12 = .ok (.ireturn, 1) := dd138_0.2.2.2.2.2.2.1
theorem d138_13 : decode prog_14_method_13_code 13 = .ok (.aload_n 0, 1) := dd138_0.2.2.2.2.2.2.2.1
theorem d138_14 : decode prog_14_method_13_code 14 = .ok (.getfield 184, 3) := dd138_0.2.2.2.2.2.2.2.2.1
theorem d138_17 : decode prog_14_method_13_code 17 = .ok (.bipush 100, 2) := dd138_0.2.2.2.2.2.2.2.2.2.1
theorem d138_19 : decode prog_14_method_13_code 19 = .ok (.if_icmp .ne 6, 3) := dd138_0.2.2.2.2.2.2.2.2.2.2.1
theorem d138_22 : decode prog_14_method_13_code 22 = .ok (.bipush (-4), 2) := dd138_0.2.2.2.2.2.2.2.2.2.2.2.1
theorem d138_24 : decode prog_14_method_13_code 24 = .ok (.ireturn, 1) := dd138_0.2.2.2.2.2.2.2.2.2.2.2.2.1
theorem d138_25 : decode prog_14_method_13_code 25 = .ok (.aload_n 0, 1) := dd138_0.2.2.2.2.2.2.2.2.2.2.2.2.2.1
theorem d138_26 : decode prog_14_method_13_code 26 = .ok (.getfield 67, 3) := dd138_0.2.2.2.2.2.2.2.2.2.2.2.2.2.2.1
theorem d138_29 : decode prog_14_method_13_code 29 = .ok (.aload_n 0, 1) := dd138_0.2.2.2.2.2.2.2.2.2.2.2.2.2.2.2
theorem dd138_30 : (decode prog_14_method_13_code 30 = .ok (.getfield 184, 3)) ∧ (decode prog_14_method_13_code 33 = .ok (.iload_n 1, 1)) ∧ (decode prog_14_method_13_code 34 = .ok (.iastore, 1)) ∧ (decode prog_14_method_13_code 35 = .ok (.aload_n 0, 1)) ∧ (decode prog_14_method_13_code 36 = .ok (.dup, 1)) ∧ (decode prog_14_method_13_code 37 = .ok (.getfield 184, 3)) ∧ (decode prog_14_method_13_code 40 = .ok (.iconst 1, 1)) ∧ (decode prog_14_method_13_code 41 = .ok (.iadd, 1)) ∧ (decode prog_14_method_13_code 42 = .ok (.putfield 184, 3)) ∧ (decode prog_14_method_13_code 45 = .ok (.aload_n 0, 1)) ∧ (decode prog_14_method_13_code 46 = .ok (.getfield 184, 3)) ∧ (decode prog_14_method_13_code 49 = .ok (.ireturn, 1)) := by decide +kernel
theorem d138_30 : decode prog_14_method_13_code 30 = .ok (.getfield 184, 3) := dd138_30.1
theorem d138_33 : decode prog_14_method_13_code 33 = .ok (.iload_n 1, 1) := dd138_30.2.1
theorem d138_34 : decode prog_14_method_13_code 34 = .ok (.iastore, 1) := dd138_30.2.2.1
theorem d138_35 : decode prog_14_method_13_code 35 = .ok (.aload_n 0, 1) := dd138_30.2.2.2.1
theorem d138_36 : decode prog_14_method_13_code 36 = .ok (.dup, 1) := dd138_30.2.2.2.2.1
theorem d138_37 : decode prog_14_method_13_code 37 = .ok (.getfield 184, 3) := dd138_30.2.2.2.2.2.1
theorem d138_40 : decode prog_14_method_13_code 40 = .ok (.iconst 1, 1) := dd138_30.2.2.2.2.2.2.1
theorem d138_41 : decode prog_14_method_13_code 41 = .ok (.iadd, 1) := dd138_30.2.2.2.2.2.2.2.1
theorem d138_42 : decode prog_14_method_13_code 42 = .ok (.putfield 184, 3) := dd138_30.2.2.2.2.2.2.2.2.1
theorem d138_45 : decode prog_14_method_13_code 45 = .ok (.aload_n 0, 1) := dd138_30.2.2.2.2.2.2.2.2.2.1
theorem d138_46 : decode prog_14_method_13_code 46 = .ok (.getfield 184, 3) := dd138_30.2.2.2.2.2.2.2.2.2.2.1
theorem d138_49 : decode prog_14_method_13_code 49 = .ok (.ireturn, 1) := dd138_30.2.2.2.2.2.2.2.2.2.2.2
theorem b138_0 {d : Nat} {S : mm_S} {a0 : Nat} {x1 : Int32} : mm_ex (d + 1) 138 0 [.ref a0, .int x1] [] S =
    mm_bd (mm_cl d 128 [.int x1, .int (nI 0), .int (nI 127)] S) (fun v S2 => mm_ex (d + 1) 138 7 [.ref a0, .int x1] (v.toList ++ []) S2) :=
  Eq.trans (mx_iload_n t138 d138_0 (x := x1) rfl) <|
  Eq.trans (mx_iconst t138 d138_1 (v := nI 0) rfl) <|
  Eq.trans (mx_bipush t138 d138_2 (v := nI 127) rfl) <|
  (mx_stat (st := []) t138 [.int x1, .int (nI 0), .int (nI 127)] d138_4 acn12_162 mxn12_162 st12_162 rfl (Nat.le_of_ble_eq_true rfl) (Nat.le_of_ble_eq_true rfl))
theorem b138_7 {d : Nat} {S : mm_S} {a0 : Nat} {x1 : Int32} {p0 : Int32} : mm_ex d 138 7 [.ref a0, .int x1] [.int p0] S =
    if p0 = nI 0 then mm_ex d 138 10 [.ref a0, .int x1] [] S else mm_ex d 138 13 [.ref a0, .int x1] [] S :=
  (mx_ine t138 d138_7 (tgt := 13) (by decide))
theorem b138_10 {d : Nat} {S : mm_S} {a0 : Nat} {x1 : Int32} : mm_ex d 138 10 [.ref a0, .int x1] [] S =
    some (some (.int (-2)), S) :=
  Eq.trans (mx_bipush t138 d138_10 (v := -2) rfl) <|
  (mx_iret t138 d138_12 (ty := .int) rfl rfl (fun h => nomatch h))
theorem b138_13 {d : Nat} {S : mm_S} {a0 : Nat} {x1 : Int32} (h0 : mm_obj S a0 12 = true) : mm_ex d 138 13 [.ref a0, .int x1] [] S =
    if (mm_M S a0 26) = (nI 100) then mm_ex d 138 22 [.ref a0, .int x1] [] S else mm_ex d 138 25 [.ref a0, .int x1] [] S :=
  Eq.trans (mx_aload_n t138 d138_13 (x := a0) rfl) <|
  Eq.trans (mx_geti t138 d138_14 rfl fl12_184 h0) <|
  Eq.trans (mx_bipush t138 d138_17 (v := nI 100) rfl) <|
  (mx_cne t138 d138_19 (tgt := 25) (by decide))
theorem b138_22 {d : Nat} {S : mm_S} {a0 : Nat} {x1 : Int32} : mm_ex d 138 22 [.ref a0, .int x1] [] S =
    some (some (.int (-4)), S) :=
  Eq.trans (mx_bipush t138 d138_22 (v := -4) rfl) <|
  (mx_iret t138 d138_24 (ty := .int) rfl rfl (fun h => nomatch h))
theorem b138_25 {d : Nat} {S : mm_S} {a0 : Nat} {x1 : Int32} (h0 : mm_obj S a0 12 = true) (h1 : (mm_R S a0 25).isSome = true) (h2 : mm_arr S (mm_rg S a0 25) 13 = true) (h3 : mm_inb (mm_M S a0 26) (mm_N S (mm_rg S a0 25)) = true) : mm_ex d 138 25 [.ref a0, .int x1] [] S =
    mm_ex d 138 37 [.ref a0, .int x1] [.ref a0, .ref a0] (mm_uM S (mm_rg S a0 25) (mm_M S a0 26).toNatClampNeg x1) :=
  Eq.trans (mx_aload_n t138 d138_25 (x := a0) rfl) <|
  Eq.trans (mx_getR t138 d138_26 rfl fl12_67 h0 h1) <|
  Eq.trans (mx_aload_n t138 d138_29 (x := a0) rfl) <|
  Eq.trans (mx_geti t138 d138_30 rfl fl12_184 h0) <|
  Eq.trans (mx_iload_n t138 d138_33 (x := x1) rfl) <|
  Eq.trans (mx_iast2 t138 d138_34 h2 h3) <|
  Eq.trans (mx_aload_n t138 d138_35 (x := a0) rfl) <|
  (mx_dupr t138 d138_36)
theorem b138_37 {d : Nat} {S : mm_S} {a0 : Nat} {x1 : Int32} {p0 : Nat} {p1 : Nat} (h0 : mm_obj S p0 12 = true) (h1 : mm_obj S p1 12 = true) : mm_ex d 138 37 [.ref a0, .int x1] [.ref p0, .ref p1] S =
    mm_ex d 138 46 [.ref a0, .int x1] [.ref a0] (mm_uM S p1 26 ((mm_M S p0 26) + (nI 1))) :=
  Eq.trans (mx_geti t138 d138_37 rfl fl12_184 h0) <|
  Eq.trans (mx_iconst t138 d138_40 (v := nI 1) rfl) <|
  Eq.trans (mx_iadd t138 d138_41) <|
  Eq.trans (mx_puti2 t138 d138_42 fl12_184 rfl h1) <|
  (mx_aload_n t138 d138_45 (x := a0) rfl)
theorem b138_46 {d : Nat} {S : mm_S} {a0 : Nat} {x1 : Int32} {p0 : Nat} (h0 : mm_obj S p0 12 = true) : mm_ex d 138 46 [.ref a0, .int x1] [.ref p0] S =
    some (some (.int (mm_M S p0 26)), S) :=
  Eq.trans (mx_geti t138 d138_46 rfl fl12_184 h0) <|
  (mx_iret t138 d138_49 (ty := .int) rfl rfl (fun h => nomatch h))
theorem e138 {d : Nat} {S : mm_S} {a0 : Nat} {x1 : Int32} : mm_cl d 138 [.ref a0, .int x1] S = mm_ex d 138 0 [.ref a0, .int x1] [] S := mm_cl_eq t138 (Nat.le_of_ble_eq_true rfl) rfl
/-! X12_sign -/
theorem d139_0 : decode prog_14_method_14_code 0 = .ok (.aload_n 0, 1) := by decide +kernel
theorem d139_1 : decode prog_14_method_14_code 1 = .ok (.getfield 187, 3) := by decide +kernel
theorem d139_4 : decode prog_14_method_14_code 4 = .ok (.aload_n 0, 1) := by decide +kernel
theorem d139_5 : decode prog_14_method_14_code 5 = .ok (.getfield 184, 3) := by decide +kernel
theorem d139_8 : decode prog_14_method_14_code 8 = .ok (.if_icmp .ge 15, 3) := by decide +kernel
theorem d139_11 : decode prog_14_method_14_code 11 = .ok (.aload_n 0, 1) := by decide +kernel
theorem d139_12 : decode prog_14_method_14_code 12 = .ok (.getfield 67, 3) := by decide +kernel
theorem d139_15 : decode prog_14_method_14_code 15 = .ok (.aload_n 0, 1) := by decide +kernel
theorem d139_16 : decode prog_14_method_14_code 16 = .ok (.getfield 187, 3) := by decide +kernel
theorem d139_19 : decode prog_14_method_14_code 19 = .ok (.iaload, 1) := by decide +kernel
theorem d139_20 : decode prog_14_method_14_code 20 = .ok (.goto 4, 3) := by decide +kernel
theorem d139_23 : decode prog_14_method_14_code 23 = .ok (.iconst (-1), 1) := by decide +kernel
theorem d139_24 : decode prog_14_method_14_code 24 = .ok (.ireturn, 1) := by decide +kernel
theorem b139_0 {d : Nat} {S : mm_S} {a0 : Nat} (h0 : mm_obj S a0 12 = true) : mm_ex d 139 0 [.ref a0] [] S =
    if (mm_M S a0 26) ≤ (mm_M S a0 36) then mm_ex d 139 23 [.ref a0] [] S else mm_ex d 139 11 [.ref a0] [] S :=
  Eq.trans (mx_aload_n t139 d139_0 (x := a0) rfl) <|
  Eq.trans (mx_geti t139 d139_1 rfl fl12_187 h0) <|
  Eq.trans (mx_aload_n t139 d139_4 (x := a0) rfl) <|
  Eq.trans (mx_geti t139 d139_5 rfl fl12_184 h0) <|
  (mx_cge t139 d139_8 (tgt := 23) (by decide))
theorem b139_11 {d : Nat} {S : mm_S} {a0 : Nat} (h0 : mm_obj S a0 12 = true) (h1 : (mm_R S a0 25).isSome = true) (h2 : mm_inb (mm_M S a0 36) (mm_N S (mm_rg S a0 25)) = true) (h3 : mm_arr S (mm_rg S a0 25) 13 = true) : mm_ex d 139 11 [.ref a0] [] S =
    some (some (.int (mm_M S (mm_rg S a0 25) (mm_M S a0 36).toNatClampNeg)), S) :=
  Eq.trans (mx_aload_n t139 d139_11 (x := a0) rfl) <|
  Eq.trans (mx_getR t139 d139_12 rfl fl12_67 h0 h1) <|
  Eq.trans (mx_aload_n t139 d139_15 (x := a0) rfl) <|
  Eq.trans (mx_geti t139 d139_16 rfl fl12_187 h0) <|
  Eq.trans (mx_iald t139 d139_19 h3 h2) <|
  Eq.trans (mx_goto t139 d139_20 (tgt := 24) (by decide)) <|
  (mx_iret t139 d139_24 (ty := .int) rfl rfl (fun h => nomatch h))
theorem b139_23 {d : Nat} {S : mm_S} {a0 : Nat} : mm_ex d 139 23 [.ref a0] [] S =
    some (some (.int (-1)), S) :=
  Eq.trans (mx_iconst t139 d139_23 (v := -1) rfl) <|
  (mx_iret t139 d139_24 (ty := .int) rfl rfl (fun h => nomatch h))
theorem e139 {d : Nat} {S : mm_S} {a0 : Nat} : mm_cl d 139 [.ref a0] S = mm_ex d 139 0 [.ref a0] [] S := mm_cl_eq t139 (Nat.le_of_ble_eq_true rfl) rfl
/-! X12_isFigure -/
theorem d140_0 : decode prog_14_method_15_code 0 = .ok (.iload_n 0, 1) := by decide +kernel
theorem d140_1 : decode prog_14_method_15_code 1 = .ok (.bipush 48, 2) := by decide +kernel
theorem d140_3 : decode prog_14_method_15_code 3 = .ok (.bipush 57, 2) := by decide +kernel
theorem d140_5 : decode prog_14_method_15_code 5 = .ok (.invokestatic 162, 3) := by decide +kernel
theorem d140_8 : decode prog_14_method_15_code 8 = .ok (.ireturn, 1) := by decide +kernel
theorem b140_0 {d : Nat} {S : mm_S} {x0 : Int32} : mm_ex (d + 1) 140 0 [.int x0] [] S =
    mm_bd (mm_cl d 128 [.int x0, .int (nI 48), .int (nI 57)] S) (fun v S2 => mm_ex (d + 1) 140 8 [.int x0] (v.toList ++ []) S2) :=
  Eq.trans (mx_iload_n t140 d140_0 (x := x0) rfl) <|
  Eq.trans (mx_bipush t140 d140_1 (v := nI 48) rfl) <|
  Eq.trans (mx_bipush t140 d140_3 (v := nI 57) rfl) <|
  (mx_stat (st := []) t140 [.int x0, .int (nI 48), .int (nI 57)] d140_5 acn12_162 mxn12_162 st12_162 rfl (Nat.le_of_ble_eq_true rfl) (Nat.le_of_ble_eq_true rfl))
theorem b140_8 {d : Nat} {S : mm_S} {x0 : Int32} {p0 : Int32} (h0 : narrow .boolean (.int p0) = .int p0) : mm_ex d 140 8 [.int x0] [.int p0] S =
    some (some (.int p0), S) :=
  (mx_iret t140 d140_8 (ty := .boolean) rfl h0 (fun h => nomatch h))
theorem e140 {d : Nat} {S : mm_S} {x0 : Int32} : mm_cl d 140 [.int x0] S = mm_ex d 140 0 [.int x0] [] S := mm_cl_eq t140 (Nat.le_of_ble_eq_true rfl) rfl
/-! X12_goesBy -/
theorem d141_0 : decode prog_14_method_16_code 0 = .ok (.aload_n 0, 1) := by decide +kernel
theorem d141_1 : decode prog_14_method_16_code 1 = .ok (.invokevirtual 190, 3) := by decide +kernel
theorem d141_4 : decode prog_14_method_16_code 4 = .ok (.iload_n 1, 1) := by decide +kernel
theorem d141_5 : decode prog_14_method_16_code 5 = .ok (.if_icmp .eq 5, 3) := by decide +kernel
theorem d141_8 : decode prog_14_method_16_code 8 = .ok (.iconst 0, 1) := by decide +kernel
theorem d141_9 : decode prog_14_method_16_code 9 = .ok (.ireturn, 1) := by decide +kernel
theorem d141_10 : decode prog_14_method_16_code 10 = .ok (.aload_n 0, 1) := by decide +kernel
theorem d141_11 : decode prog_14_method_16_code 11 = .ok (.dup, 1) := by decide +kernel
theorem d141_12 : decode prog_14_method_16_code 12 = .ok (.getfield 187, 3) := by decide +kernel
theorem d141_15 : decode prog_14_method_16_code 15 = .ok (.iconst 1, 1) := by decide +kernel
theorem d141_16 : decode prog_14_method_16_code 16 = .ok (.iadd, 1) := by decide +kernel
theorem d141_17 : decode prog_14_method_16_code 17 = .ok (.putfield 187, 3) := by decide +kernel
theorem d141_20 : decode prog_14_method_16_code 20 = .ok (.iconst 1, 1) := by decide +kernel
theorem d141_21 : decode prog_14_method_16_code 21 = .ok (.ireturn, 1) := by decide +kernel
theorem b141_0 {d : Nat} {S : mm_S} {a0 : Nat} {x1 : Int32} (h0 : mm_rk S a0 = 12) : mm_ex (d + 1) 141 0 [.ref a0, .int x1] [] S =
    mm_bd (mm_cl d 139 [.ref a0] S) (fun v S2 => mm_ex (d + 1) 141 4 [.ref a0, .int x1] (v.toList ++ []) S2) :=
  Eq.trans (mx_aload_n t141 d141_0 (x := a0) rfl) <|
  (mx_virt (st := []) (k := 12) t141 [] d141_1 vt12_190 rfl rfl (Nat.le_of_ble_eq_true rfl) (Nat.le_of_ble_eq_true rfl) h0)
theorem b141_4 {d : Nat} {S : mm_S} {a0 : Nat} {x1 : Int32} {p0 : Int32} : mm_ex d 141 4 [.ref a0, .int x1] [.int p0] S =
    if p0 = x1 then mm_ex d 141 10 [.ref a0, .int x1] [] S else mm_ex d 141 8 [.ref a0, .int x1] [] S :=
  Eq.trans (mx_iload_n t141 d141_4 (x := x1) rfl) <|
  (mx_ceq t141 d141_5 (tgt := 10) (by decide))
theorem b141_8 {d : Nat} {S : mm_S} {a0 : Nat} {x1 : Int32} : mm_ex d 141 8 [.ref a0, .int x1] [] S =
    some (some (.int (nI 0)), S) :=
  Eq.trans (mx_iconst t141 d141_8 (v := nI 0) rfl) <|
  (mx_iret t141 d141_9 (ty := .boolean) rfl rfl (fun h => nomatch h))
theorem b141_10 {d : Nat} {S : mm_S} {a0 : Nat} {x1 : Int32} (h0 : mm_obj S a0 12 = true) : mm_ex d 141 10 [.ref a0, .int x1] [] S =
    some (some (.int (nI 1)), (mm_uM S a0 36 ((mm_M S a0 36) + (nI 1)))) :=
  Eq.trans (mx_aload_n t141 d141_10 (x := a0) rfl) <|
  Eq.trans (mx_dupr t141 d141_11) <|
  Eq.trans (mx_geti t141 d141_12 rfl fl12_187 h0) <|
  Eq.trans (mx_iconst t141 d141_15 (v := nI 1) rfl) <|
  Eq.trans (mx_iadd t141 d141_16) <|
  Eq.trans (mx_puti2 t141 d141_17 fl12_187 rfl h0) <|
  Eq.trans (mx_iconst t141 d141_20 (v := nI 1) rfl) <|
  (mx_iret t141 d141_21 (ty := .boolean) rfl rfl (fun h => nomatch h))
theorem e141 {d : Nat} {S : mm_S} {a0 : Nat} {x1 : Int32} : mm_cl d 141 [.ref a0, .int x1] S = mm_ex d 141 0 [.ref a0, .int x1] [] S := mm_cl_eq t141 (Nat.le_of_ble_eq_true rfl) rfl
/-! X12_numberRead -/
theorem dd142_0 : (decode prog_14_method_17_code 0 = .ok (.aload_n 0, 1)) ∧ (decode prog_14_method_17_code 1 = .ok (.invokevirtual 190, 3)) ∧ (decode prog_14_method_17_code 4 = .ok (.invokestatic 194, 3)) ∧ (decode prog_14_method_17_code 7 = .ok (.ifCond .ne 5, 3)) ∧ (decode prog_14_method_17_code 10 = .ok (.iconst (-1), 1)) ∧ (decode prog_14_method_17_code 11 = .ok (.ireturn, 1)) ∧ (decode prog_14_method_17_code 12 = .ok (.aload_n 0, 1)) ∧ (decode prog_14_method_17_code 13 = .ok (.invokevirtual 190, 3)) ∧ (decode prog_14_method_17_code 16 = .ok (.bipush 48, 2)) ∧ (decode prog_14_method_17_code 18 = .ok (.isub, 1)) ∧ (decode prog_14_method_17_code 19 = .ok (.istore_n 1, 1)) ∧ (decode prog_14_method_17_code 20 = .ok (.aload_n 0, 1)) ∧ (decode prog_14_method_17_code 21 = .ok (.dup, 1)) ∧ (decode prog_14_method_17_code 22 = .ok (.getfield 187, 3)) ∧ (decode prog_14_method_17_code 25 = .ok (.iconst 1, 1)) ∧ (decode prog_14_method_17_code 26 = .ok (.iadd, 1)) := by decide +kernel
theorem d142_0 : decode prog_14_method_17_code 0 = .ok (.aload_n 0, 1) := dd142_0.1
theorem d142_1 : decode prog_14_method_17_code 1 = .ok (.invokevirtual 190, 3) := dd142_0.2.1
theorem d142_4 : decode prog_14_method_17_code 4 = .ok (.invokestatic 194, 3) := dd142_0.2.2.1
theorem d142_7 : decode prog_14_method_17_code 7 = .ok (.ifCond .ne 5, 3) := dd142_0.2.2.2.1
theorem d142_10 : decode prog_14_method_17_code 10 = .ok (.iconst (-1), 1) := dd142_0.2.2.2.2.1
theorem d142_11 : decode prog_14_method_17_code 11 = .ok (.ireturn, 1) := dd142_0.2.2.2.2.2.1
theorem d142_12 : decode prog_14_method_17_code 12 = .ok (.aload_n 0, 1) := dd142_0.2.2.2.2.2.2.1
theorem d142_13 : decode prog_14_method_17_code 13 = .ok (.invokevirtual 190, 3) := dd142_0.2.2.2.2.2.2.2.1
theorem d142_16 : decode prog_14_method_17_code 16 = .ok (.bipush 48, 2) := dd142_0.2.2.2.2.2.2.2.2.1
theorem d142_18 : decode prog_14_method_17_code 18 = .ok (.isub, 1) := dd142_0.2.2.2.2.2.2.2.2.2.1
theorem d142_19 : decode prog_14_method_17_code 19 = .ok (.istore_n 1, 1) := dd142_0.2.2.2.2.2.2.2.2.2.2.1
theorem d142_20 : decode prog_14_method_17_code 20 = .ok (.aload_n 0, 1) := dd142_0.2.2.2.2.2.2.2.2.2.2.2.1
theorem d142_21 : decode prog_14_method_17_code 21 = .ok (.dup, 1) := dd142_0.2.2.2.2.2.2.2.2.2.2.2.2.1
theorem d142_22 : decode prog_14_method_17_code 22 = .ok (.getfield 187, 3) := dd142_0.2.2.2.2.2.2.2.2.2.2.2.2.2.1
theorem d142_25 : decode prog_14_method_17_code 25 = .ok (.iconst 1, 1) := dd142_0.2.2.2.2.2.2.2.2.2.2.2.2.2.2.1
theorem d142_26 : decode prog_14_method_17_code 26 = .ok (.iadd, 1) := dd142_0.2.2.2.2.2.2.2.2.2.2.2.2.2.2.2
theorem dd142_27 : (decode prog_14_method_17_code 27 = .ok (.putfield 187, 3)) ∧ (decode prog_14_method_17_code 30 = .ok (.aload_n 0, 1)) ∧ (decode prog_14_method_17_code 31 = .ok (.invokevirtual 190, 3)) ∧ (decode prog_14_method_17_code 34 = .ok (.invokestatic 194, 3)) ∧ (decode prog_14_method_17_code 37 = .ok (.ifCond .eq 26, 3)) ∧ (decode prog_14_method_17_code 40 = .ok (.bipush 10, 2)) ∧ (decode prog_14_method_17_code 42 = .ok (.iload_n 1, 1)) ∧ (decode prog_14_method_17_code 43 = .ok (.imul, 1)) ∧ (decode prog_14_method_17_code 44 = .ok (.aload_n 0, 1)) ∧ (decode prog_14_method_17_code 45 = .ok (.invokevirtual 190, 3)) ∧ (decode prog_14_method_17_code 48 = .ok (.iadd, 1)) ∧ (decode prog_14_method_17_code 49 = .ok (.bipush 48, 2)) ∧ (decode prog_14_method_17_code 51 = .ok (.isub, 1)) ∧ (decode prog_14_method_17_code 52 = .ok (.istore_n 1, 1)) ∧ (decode prog_14_method_17_code 53 = .ok (.aload_n 0, 1)) ∧ (decode prog_14_method_17_code 54 = .ok (.dup, 1)) := by decide +kernel
theorem d142_27 : decode prog_14_method_17_code 27 = .ok (.putfield 187, 3) := dd142_27.1
theorem d142_30 : decode prog_14_method_17_code 30 = .ok (.aload_n 0, 1) := dd142_27.2.1
theorem d142_31 : decode prog_14_method_17_code 31 = .ok (.invokevirtual 190, 3) := dd142_27.2.2.1
theorem d142_34 : decode prog_14_method_17_code 34 = .ok (.invokestatic 194, 3) := dd142_27.2.2.2.1
theorem d142_37 : decode prog_14_method_17_code 37 = .ok (.ifCond .eq 26, 3) := dd142_27.2.2.2.2.1
theorem d142_40 : decode prog_14_method_17_code 40 = .ok (.bipush 10, 2) := dd142_27.2.2.2.2.2.1
theorem d142_42 : decode prog_14_method_17_code 42 = .ok (.iload_n 1, 1) := dd142_27.2.2.2.2.2.2.1
theorem d142_43 : decode prog_14_method_17_code 43 = .ok (.imul, 1) := dd142_27.2.2.2.2.2.2.2.1
theorem d142_44 : decode prog_14_method_17_code 44 = .ok (.aload_n 0, 1) := dd142_27.2.2.2.2.2.2.2.2.1
theorem d142_45 : decode prog_14_method_17_code 45 = .ok (.invokevirtual 190, 3) := dd142_27.2.2.2.2.2.2.2.2.2.1
theorem d142_48 : decode prog_14_method_17_code 48 = .ok (.iadd, 1) := dd142_27.2.2.2.2.2.2.2.2.2.2.1
theorem d142_49 : decode prog_14_method_17_code 49 = .ok (.bipush 48, 2) := dd142_27.2.2.2.2.2.2.2.2.2.2.2.1
theorem d142_51 : decode prog_14_method_17_code 51 = .ok (.isub, 1) := dd142_27.2.2.2.2.2.2.2.2.2.2.2.2.1
theorem d142_52 : decode prog_14_method_17_code 52 = .ok (.istore_n 1, 1) := dd142_27.2.2.2.2.2.2.2.2.2.2.2.2.2.1
theorem d142_53 : decode prog_14_method_17_code 53 = .ok (.aload_n 0, 1) := dd142_27.2.2.2.2.2.2.2.2.2.2.2.2.2.2.1
theorem d142_54 : decode prog_14_method_17_code 54 = .ok (.dup, 1) := dd142_27.2.2.2.2.2.2.2.2.2.2.2.2.2.2.2
theorem dd142_55 : (decode prog_14_method_17_code 55 = .ok (.getfield 187, 3)) ∧ (decode prog_14_method_17_code 58 = .ok (.iconst 1, 1)) ∧ (decode prog_14_method_17_code 59 = .ok (.iadd, 1)) ∧ (decode prog_14_method_17_code 60 = .ok (.putfield 187, 3)) ∧ (decode prog_14_method_17_code 63 = .ok (.iload_n 1, 1)) ∧ (decode prog_14_method_17_code 64 = .ok (.ireturn, 1)) := by decide +kernel
theorem d142_55 : decode prog_14_method_17_code 55 = .ok (.getfield 187, 3) := dd142_55.1
theorem d142_58 : decode prog_14_method_17_code 58 = .ok (.iconst 1, 1) := dd142_55.2.1
theorem d142_59 : decode prog_14_method_17_code 59 = .ok (.iadd, 1) := dd142_55.2.2.1
theorem d142_60 : decode prog_14_method_17_code 60 = .ok (.putfield 187, 3) := dd142_55.2.2.2.1
theorem d142_63 : decode prog_14_method_17_code 63 = .ok (.iload_n 1, 1) := dd142_55.2.2.2.2.1
theorem d142_64 : decode prog_14_method_17_code 64 = .ok (.ireturn, 1) := dd142_55.2.2.2.2.2
theorem b142_0 {d : Nat} {S : mm_S} {a0 : Nat} (h0 : mm_rk S a0 = 12) : mm_ex (d + 1) 142 0 [.ref a0, .null] [] S =
    mm_bd (mm_cl d 139 [.ref a0] S) (fun v S2 => mm_ex (d + 1) 142 4 [.ref a0, .null] (v.toList ++ []) S2) :=
  Eq.trans (mx_aload_n t142 d142_0 (x := a0) rfl) <|
  (mx_virt (st := []) (k := 12) t142 [] d142_1 vt12_190 rfl rfl (Nat.le_of_ble_eq_true rfl) (Nat.le_of_ble_eq_true rfl) h0)
theorem b142_4 {d : Nat} {S : mm_S} {a0 : Nat} {p0 : Int32} : mm_ex (d + 1) 142 4 [.ref a0, .null] [.int p0] S =
    mm_bd (mm_cl d 140 [.int p0] S) (fun v S2 => mm_ex (d + 1) 142 7 [.ref a0, .null] (v.toList ++ []) S2) :=
  (mx_stat (st := []) t142 [.int p0] d142_4 acn12_194 mxn12_194 st12_194 rfl (Nat.le_of_ble_eq_true rfl) (Nat.le_of_ble_eq_true rfl))
theorem b142_7 {d : Nat} {S : mm_S} {a0 : Nat} {p0 : Int32} : mm_ex d 142 7 [.ref a0, .null] [.int p0] S =
    if p0 = nI 0 then mm_ex d 142 10 [.ref a0, .null] [] S else mm_ex d 142 12 [.ref a0, .null] [] S :=
  (mx_ine t142 d142_7 (tgt := 12) (by decide))
theorem b142_10 {d : Nat} {S : mm_S} {a0 : Nat} : mm_ex d 142 10 [.ref a0, .null] [] S =
    some (some (.int (-1)), S) :=
  Eq.trans (mx_iconst t142 d142_10 (v := -1) rfl) <|
  (mx_iret t142 d142_11 (ty := .int) rfl rfl (fun h => nomatch h))
theorem b142_12 {d : Nat} {S : mm_S} {a0 : Nat} (h0 : mm_rk S a0 = 12) : mm_ex (d + 1) 142 12 [.ref a0, .null] [] S =
    mm_bd (mm_cl d 139 [.ref a0] S) (fun v S2 => mm_ex (d + 1) 142 16 [.ref a0, .null] (v.toList ++ []) S2) :=
  Eq.trans (mx_aload_n t142 d142_12 (x := a0) rfl) <|
  (mx_virt (st := []) (k := 12) t142 [] d142_13 vt12_190 rfl rfl (Nat.le_of_ble_eq_true rfl) (Nat.le_of_ble_eq_true rfl) h0)
theorem b142_16 {d : Nat} {S : mm_S} {a0 : Nat} {p0 : Int32} (h0 : mm_obj S a0 12 = true) (h1 : mm_rk S a0 = 12) : mm_ex (d + 1) 142 16 [.ref a0, .null] [.int p0] S =
    mm_bd (mm_cl d 139 [.ref a0] (mm_uM S a0 36 ((mm_M S a0 36) + (nI 1)))) (fun v S2 => mm_ex (d + 1) 142 34 [.ref a0, .int (p0 - (nI 48))] (v.toList ++ []) S2) :=
  Eq.trans (mx_bipush t142 d142_16 (v := nI 48) rfl) <|
  Eq.trans (mx_isub t142 d142_18) <|
  Eq.trans (mx_istore_n t142 d142_19 (ls' := [.ref a0, .int (p0 - (nI 48))]) rfl rfl) <|
  Eq.trans (mx_aload_n t142 d142_20 (x := a0) rfl) <|
  Eq.trans (mx_dupr t142 d142_21) <|
  Eq.trans (mx_geti t142 d142_22 rfl fl12_187 h0) <|
  Eq.trans (mx_iconst t142 d142_25 (v := nI 1) rfl) <|
  Eq.trans (mx_iadd t142 d142_26) <|
  Eq.trans (mx_puti2 t142 d142_27 fl12_187 rfl h0) <|
  Eq.trans (mx_aload_n t142 d142_30 (x := a0) rfl) <|
  (mx_virt (st := []) (k := 12) t142 [] d142_31 vt12_190 rfl rfl (Nat.le_of_ble_eq_true rfl) (Nat.le_of_ble_eq_true rfl) h1)
theorem b142_34 {d : Nat} {S : mm_S} {a0 : Nat} {x1 : Int32} {p0 : Int32} : mm_ex (d + 1) 142 34 [.ref a0, .int x1] [.int p0] S =
    mm_bd (mm_cl d 140 [.int p0] S) (fun v S2 => mm_ex (d + 1) 142 37 [.ref a0, .int x1] (v.toList ++ []) S2) :=
  (mx_stat (st := []) t142 [.int p0] d142_34 acn12_194 mxn12_194 st12_194 rfl (Nat.le_of_ble_eq_true rfl) (Nat.le_of_ble_eq_true rfl))
theorem b142_37 {d : Nat} {S : mm_S} {a0 : Nat} {x1 : Int32} {p0 : Int32} : mm_ex d 142 37 [.ref a0, .int x1] [.int p0] S =
    if p0 = nI 0 then mm_ex d 142 63 [.ref a0, .int x1] [] S else mm_ex d 142 40 [.ref a0, .int x1] [] S :=
  (mx_ieq t142 d142_37 (tgt := 63) (by decide))
theorem b142_40 {d : Nat} {S : mm_S} {a0 : Nat} {x1 : Int32} (h0 : mm_rk S a0 = 12) : mm_ex (d + 1) 142 40 [.ref a0, .int x1] [] S =
    mm_bd (mm_cl d 139 [.ref a0] S) (fun v S2 => mm_ex (d + 1) 142 48 [.ref a0, .int x1] (v.toList ++ [.int ((nI 10) * x1)]) S2) :=
  Eq.trans (mx_bipush t142 d142_40 (v := nI 10) rfl) <|
  Eq.trans (mx_iload_n t142 d142_42 (x := x1) rfl) <|
  Eq.trans (mx_imul t142 d142_43) <|
  Eq.trans (mx_aload_n t142 d142_44 (x := a0) rfl) <|
  (mx_virt (st := [.int ((nI 10) * x1)]) (k := 12) t142 [] d142_45 vt12_190 rfl rfl (Nat.le_of_ble_eq_true rfl) (Nat.le_of_ble_eq_true rfl) h0)
theorem b142_48 {d : Nat} {S : mm_S} {a0 : Nat} {x1 : Int32} {p0 : Int32} {p1 : Int32} (h0 : mm_obj S a0 12 = true) : mm_ex d 142 48 [.ref a0, .int x1] [.int p0, .int p1] S =
    some (some (.int ((p1 + p0) - (nI 48))), (mm_uM S a0 36 ((mm_M S a0 36) + (nI 1)))) :=
  Eq.trans (mx_iadd t142 d142_48) <|
  Eq.trans (mx_bipush t142 d142_49 (v := nI 48) rfl) <|
  Eq.trans (mx_isub t142 d142_51) <|
  Eq.trans (mx_istore_n t142 d142_52 (ls' := [.ref a0, .int ((p1 + p0) - (nI 48))]) rfl rfl) <|
  Eq.trans (mx_aload_n t142 d142_53 (x := a0) rfl) <|
  Eq.trans (mx_dupr t142 d142_54) <|
  Eq.trans (mx_geti t142 d142_55 rfl fl12_187 h0) <|
  Eq.trans (mx_iconst t142 d142_58 (v := nI 1) rfl) <|
  Eq.trans (mx_iadd t142 d142_59) <|
  Eq.trans (mx_puti2 t142 d142_60 fl12_187 rfl h0) <|
  Eq.trans (mx_iload_n t142 d142_63 (x := (p1 + p0) - (nI 48)) rfl) <|
  (mx_iret t142 d142_64 (ty := .int) rfl rfl (fun h => nomatch h))
theorem b142_63 {d : Nat} {S : mm_S} {a0 : Nat} {x1 : Int32} : mm_ex d 142 63 [.ref a0, .int x1] [] S =
    some (some (.int x1), S) :=
  Eq.trans (mx_iload_n t142 d142_63 (x := x1) rfl) <|
  (mx_iret t142 d142_64 (ty := .int) rfl rfl (fun h => nomatch h))
theorem e142 {d : Nat} {S : mm_S} {a0 : Nat} : mm_cl d 142 [.ref a0] S = mm_ex d 142 0 [.ref a0, .null] [] S := mm_cl_eq t142 (Nat.le_of_ble_eq_true rfl) rfl
/-! X12_wordRead -/
theorem dd143_0 : (decode prog_14_method_18_code 0 = .ok (.iconst (-1), 1)) ∧ (decode prog_14_method_18_code 1 = .ok (.istore_n 1, 1)) ∧ (decode prog_14_method_18_code 2 = .ok (.iconst 0, 1)) ∧ (decode prog_14_method_18_code 3 = .ok (.istore_n 2, 1)) ∧ (decode prog_14_method_18_code 4 = .ok (.iload_n 2, 1)) ∧ (decode prog_14_method_18_code 5 = .ok (.bipush 6, 2)) ∧ (decode prog_14_method_18_code 7 = .ok (.if_icmp .ge 30, 3)) ∧ (decode prog_14_method_18_code 10 = .ok (.aload_n 0, 1)) ∧ (decode prog_14_method_18_code 11 = .ok (.invokevirtual 190, 3)) ∧ (decode prog_14_method_18_code 14 = .ok (.aload_n 0, 1)) ∧ (decode prog_14_method_18_code 15 = .ok (.getfield 86, 3)) ∧ (decode prog_14_method_18_code 18 = .ok (.iconst 4, 1)) ∧ (decode prog_14_method_18_code 19 = .ok (.iload_n 2, 1)) ∧ (decode prog_14_method_18_code 20 = .ok (.imul, 1)) ∧ (decode prog_14_method_18_code 21 = .ok (.iaload, 1)) ∧ (decode prog_14_method_18_code 22 = .ok (.if_icmp .ne 7, 3)) := by decide +kernel
theorem d143_0 : decode prog_14_method_18_code 0 = .ok (.iconst (-1), 1) := dd143_0.1
theorem d143_1 : decode prog_14_method_18_code 1 = .ok (.istore_n 1, 1) := dd143_0.2.1
theorem d143_2 : decode prog_14_method_18_code 2 = .ok (.iconst 0, 1) := dd143_0.2.2.1
theorem d143_3 : decode prog_14_method_18_code 3 = .ok (.istore_n 2, 1) := dd143_0.2.2.2.1
theorem d143_4 : decode prog_14_method_18_code 4 = .ok (.iload_n 2, 1) := dd143_0.2.2.2.2.1
theorem d143_5 : decode prog_14_method_18_code 5 = .ok (.bipush 6, 2) := dd143_0.2.2.2.2.2.1
theorem d143_7 : decode prog_14_method_18_code 7 = .ok (.if_icmp .ge 30, 3) := dd143_0.2.2.2.2.2.2.1
theorem d143_10 : decode prog_14_method_18_code 10 = .ok (.aload_n 0, 1) := dd143_0.2.2.2.2.2.2.2.1
theorem d143_11 : decode prog_14_method_18_code 11 = .ok (.invokevirtual 190, 3) := dd143_0.2.2.2.2.2.2.2.2.1
theorem d143_14 : decode prog_14_method_18_code 14 = .ok (.aload_n 0, 1) := dd143_0.2.2.2.2.2.2.2.2.2.1
theorem d143_15 : decode prog_14_method_18_code 15 = .ok (.getfield 86, 3) := dd143_0.2.2.2.2.2.2.2.2.2.2.1
theorem d143_18 : decode prog_14_method_18_code 18 = .ok (.iconst 4, 1) := dd143_0.2.2.2.2.2.2.2.2.2.2.2.1
theorem d143_19 : decode prog_14_method_18_code 19 = .ok (.iload_n 2, 1) := dd143_0.2.2.2.2.2.2.2.2.2.2.2.2.1
theorem d143_20 : decode prog_14_method_18_code 20 = .ok (.imul, 1) := dd143_0.2.2.2.2.2.2.2.2.2.2.2.2.2.1
theorem d143_21 : decode prog_14_method_18_code 21 = .ok (.iaload, 1) := dd143_0.2.2.2.2.2.2.2.2.2.2.2.2.2.2.1
theorem d143_22 : decode prog_14_method_18_code 22 = .ok (.if_icmp .ne 7, 3) := dd143_0.2.2.2.2.2.2.2.2.2.2.2.2.2.2.2
theorem dd143_25 : (decode prog_14_method_18_code 25 = .ok (.iload_n 2, 1)) ∧ (decode prog_14_method_18_code 26 = .ok (.goto 4, 3)) ∧ (decode prog_14_method_18_code 29 = .ok (.iload_n 1, 1)) ∧ (decode prog_14_method_18_code 30 = .ok (.istore_n 1, 1)) ∧ (decode prog_14_method_18_code 31 = .ok (.iinc 2 1, 3)) ∧ (decode prog_14_method_18_code 34 = .ok (.goto (-30), 3)) ∧ (decode prog_14_method_18_code 37 = .ok (.iconst 0, 1)) ∧ (decode prog_14_method_18_code 38 = .ok (.istore_n 2, 1)) ∧ (decode prog_14_method_18_code 39 = .ok (.iload_n 1, 1)) ∧ (decode prog_14_method_18_code 40 = .ok (.iconst (-1), 1)) ∧ (decode prog_14_method_18_code 41 = .ok (.if_icmp .eq 38, 3)) ∧ (decode prog_14_method_18_code 44 = .ok (.iload_n 2, 1)) ∧ (decode prog_14_method_18_code 45 = .ok (.aload_n 0, 1)) ∧ (decode prog_14_method_18_code 46 = .ok (.getfield 89, 3)) ∧ (decode prog_14_method_18_code 49 = .ok (.iload_n 1, 1)) ∧ (decode prog_14_method_18_code 50 = .ok (.iaload, 1)) := by decide +kernel
theorem d143_25 : decode prog_14_method_18_code 25 = .ok (.iload_n 2, 1) := dd143_25.1
theorem d143_26 : decode prog_14_method_18_code 26 = .ok (.goto 4, 3) := dd143_25.2.1
theorem d143_29 : decode prog_14_method_18_code 29 = .ok (.iload_n 1, 1) := dd143_25.2.2.1
theorem d143_30 : decode prog_14_method_18_code 30 = .ok (.istore_n 1, 1) := dd143_25.2.2.2.1
theorem d143_31 : decode prog_14_method_18_code 31 = .ok (.iinc 2 1, 3) := dd143_25.2.2.2.2.1
theorem d143_34 : decode prog_14_method_18_code 34 = .ok (.goto (-30), 3) := dd143_25.2.2.2.2.2.1
theorem d143_37 : decode prog_14_method_18_code 37 = .ok (.iconst 0, 1) := dd143_25.2.2.2.2.2.2.1
theorem d143_38 : decode prog_14_method_18_code 38 = .ok (.istore_n 2, 1) := dd143_25.2.2.2.2.2.2.2.1
theorem d143_39 : decode prog_14_method_18_code 39 = .ok (.iload_n 1, 1) := dd143_25.2.2.2.2.2.2.2.2.1
theorem d143_40 : decode prog_14_method_18_code 40 = .ok (.iconst (-1), 1) := dd143_25.2.2.2.2.2.2.2.2.2.1
theorem d143_41 : decode prog_14_method_18_code 41 = .ok (.if_icmp .eq 38, 3) := dd143_25.2.2.2.2.2.2.2.2.2.2.1
theorem d143_44 : decode prog_14_method_18_code 44 = .ok (.iload_n 2, 1) := dd143_25.2.2.2.2.2.2.2.2.2.2.2.1
theorem d143_45 : decode prog_14_method_18_code 45 = .ok (.aload_n 0, 1) := dd143_25.2.2.2.2.2.2.2.2.2.2.2.2.1
theorem d143_46 : decode prog_14_method_18_code 46 = .ok (.getfield 89, 3) := dd143_25.2.2.2.2.2.2.2.2.2.2.2.2.2.1
theorem d143_49 : decode prog_14_method_18_code 49 = .ok (.iload_n 1, 1) := dd143_25.2.2.2.2.2.2.2.2.2.2.2.2.2.2.1
theorem d143_50 : decode prog_14_method_18_code 50 = .ok (.iaload, 1) := dd143_25.2.2.2.2.2.2.2.2.2.2.2.2.2.2.2
theorem dd143_51 : (decode prog_14_method_18_code 51 = .ok (.if_icmp .ge 28, 3)) ∧ (decode prog_14_method_18_code 54 = .ok (.aload_n 0, 1)) ∧ (decode prog_14_method_18_code 55 = .ok (.aload_n 0, 1)) ∧ (decode prog_14_method_18_code 56 = .ok (.getfield 86, 3)) ∧ (decode prog_14_method_18_code 59 = .ok (.iconst 4, 1)) ∧ (decode prog_14_method_18_code 60 = .ok (.iload_n 1, 1)) ∧ (decode prog_14_method_18_code 61 = .ok (.imul, 1)) ∧ (decode prog_14_method_18_code 62 = .ok (.iload_n 2, 1)) ∧ (decode prog_14_method_18_code 63 = .ok (.iadd, 1)) ∧ (decode prog_14_method_18_code 64 = .ok (.iaload, 1)) ∧ (decode prog_14_method_18_code 65 = .ok (.invokevirtual 197, 3)) ∧ (decode prog_14_method_18_code 68 = .ok (.ifCond .ne 5, 3)) ∧ (decode prog_14_method_18_code 71 = .ok (.iconst (-1), 1)) ∧ (decode prog_14_method_18_code 72 = .ok (.ireturn, 1)) ∧ (decode prog_14_method_18_code 73 = .ok (.iinc 2 1, 3)) ∧ (decode prog_14_method_18_code 76 = .ok (.goto (-37), 3)) := by decide +kernel
theorem d143_51 : decode prog_14_method_18_code 51 = .ok (.if_icmp .ge 28, 3) := dd143_51.1
theorem d143_54 : decode prog_14_method_18_code 54 = .ok (.aload_n 0, 1) := dd143_51.2.1
theorem d143_55 : decode prog_14_method_18_code 55 = .ok (.aload_n 0, 1) := dd143_51.2.2.1
theorem d143_56 : decode prog_14_method_18_code 56 = .ok (.getfield 86, 3) := dd143_51.2.2.2.1
theorem d143_59 : decode prog_14_method_18_code 59 = .ok (.iconst 4, 1) := dd143_51.2.2.2.2.1
theorem d143_60 : decode prog_14_method_18_code 60 = .ok (.iload_n 1, 1) := dd143_51.2.2.2.2.2.1
theorem d143_61 : decode prog_14_method_18_code 61 = .ok (.imul, 1) := dd143_51.2.2.2.2.2.2.1
theorem d143_62 : decode prog_14_method_18_code 62 = .ok (.iload_n 2, 1) := dd143_51.2.2.2.2.2.2.2.1
theorem d143_63 : decode prog_14_method_18_code 63 = .ok (.iadd, 1) := dd143_51.2.2.2.2.2.2.2.2.1
theorem d143_64 : decode prog_14_method_18_code 64 = .ok (.iaload, 1) := dd143_51.2.2.2.2.2.2.2.2.2.1
theorem d143_65 : decode prog_14_method_18_code 65 = .ok (.invokevirtual 197, 3) := dd143_51.2.2.2.2.2.2.2.2.2.2.1
theorem d143_68 : decode prog_14_method_18_code 68 = .ok (.ifCond .ne 5, 3) := dd143_51.2.2.2.2.2.2.2.2.2.2.2.1
theorem d143_71 : decode prog_14_method_18_code 71 = .ok (.iconst (-1), 1) := dd143_51.2.2.2.2.2.2.2.2.2.2.2.2.1
theorem d143_72 : decode prog_14_method_18_code 72 = .ok (.ireturn, 1) := dd143_51.2.2.2.2.2.2.2.2.2.2.2.2.2.1
theorem d143_73 : decode prog_14_method_18_code 73 = .ok (.iinc 2 1, 3) := dd143_51.2.2.2.2.2.2.2.2.2.2.2.2.2.2.1
theorem d143_76 : decode prog_14_method_18_code 76 = .ok (.goto (-37), 3) := dd143_51.2.2.2.2.2.2.2.2.2.2.2.2.2.2.2
theorem dd143_79 : (decode prog_14_method_18_code 79 = .ok (.iload_n 1, 1)) ∧ (decode prog_14_method_18_code 80 = .ok (.ireturn, 1)) := by decide +kernel
theorem d143_79 : decode prog_14_method_18_code 79 = .ok (.iload_n 1, 1) := dd143_79.1
theorem d143_80 : decode prog_14_method_18_code 80 = .ok (.ireturn, 1) := dd143_79.2
theorem b143_0 {d : Nat} {S : mm_S} {a0 : Nat} : mm_ex d 143 0 [.ref a0, .null, .null] [] S =
    mm_ex d 143 4 [.ref a0, .int (-1), .int (nI 0)] [] S :=
  Eq.trans (mx_iconst t143 d143_0 (v := -1) rfl) <|
  Eq.trans (mx_istore_n t143 d143_1 (ls' := [.ref a0, .int (-1), .null]) rfl rfl) <|
  Eq.trans (mx_iconst t143 d143_2 (v := nI 0) rfl) <|
  (mx_istore_n t143 d143_3 (ls' := [.ref a0, .int (-1), .int (nI 0)]) rfl rfl)
theorem b143_4 {d : Nat} {S : mm_S} {a0 : Nat} {x1 : Int32} {x2 : Int32} : mm_ex d 143 4 [.ref a0, .int x1, .int x2] [] S =
    if (nI 6) ≤ x2 then mm_ex d 143 37 [.ref a0, .int x1, .int x2] [] S else mm_ex d 143 10 [.ref a0, .int x1, .int x2] [] S :=
  Eq.trans (mx_iload_n t143 d143_4 (x := x2) rfl) <|
  Eq.trans (mx_bipush t143 d143_5 (v := nI 6) rfl) <|
  (mx_cge t143 d143_7 (tgt := 37) (by decide))
theorem b143_10 {d : Nat} {S : mm_S} {a0 : Nat} {x1 : Int32} {x2 : Int32} (h0 : mm_rk S a0 = 12) : mm_ex (d + 1) 143 10 [.ref a0, .int x1, .int x2] [] S =
    mm_bd (mm_cl d 139 [.ref a0] S) (fun v S2 => mm_ex (d + 1) 143 14 [.ref a0, .int x1, .int x2] (v.toList ++ []) S2) :=
  Eq.trans (mx_aload_n t143 d143_10 (x := a0) rfl) <|
  (mx_virt (st := []) (k := 12) t143 [] d143_11 vt12_190 rfl rfl (Nat.le_of_ble_eq_true rfl) (Nat.le_of_ble_eq_true rfl) h0)
theorem b143_14 {d : Nat} {S : mm_S} {a0 : Nat} {x1 : Int32} {x2 : Int32} {p0 : Int32} (h0 : mm_obj S a0 12 = true) (h1 : (mm_R S a0 33).isSome = true) (h2 : mm_inb ((nI 4) * x2) (mm_N S (mm_rg S a0 33)) = true) (h3 : mm_arr S (mm_rg S a0 33) 13 = true) : mm_ex d 143 14 [.ref a0, .int x1, .int x2] [.int p0] S =
    if p0 = (mm_M S (mm_rg S a0 33) ((nI 4) * x2).toNatClampNeg) then mm_ex d 143 25 [.ref a0, .int x1, .int x2] [] S else mm_ex d 143 29 [.ref a0, .int x1, .int x2] [] S :=
  Eq.trans (mx_aload_n t143 d143_14 (x := a0) rfl) <|
  Eq.trans (mx_getR t143 d143_15 rfl fl12_86 h0 h1) <|
  Eq.trans (mx_iconst t143 d143_18 (v := nI 4) rfl) <|
  Eq.trans (mx_iload_n t143 d143_19 (x := x2) rfl) <|
  Eq.trans (mx_imul t143 d143_20) <|
  Eq.trans (mx_iald t143 d143_21 h3 h2) <|
  (mx_cne t143 d143_22 (tgt := 29) (by decide))
theorem b143_25 {d : Nat} {S : mm_S} {a0 : Nat} {x1 : Int32} {x2 : Int32} : mm_ex d 143 25 [.ref a0, .int x1, .int x2] [] S =
    mm_ex d 143 4 [.ref a0, .int x2, .int (x2 + nI 1)] [] S :=
  Eq.trans (mx_iload_n t143 d143_25 (x := x2) rfl) <|
  Eq.trans (mx_goto t143 d143_26 (tgt := 30) (by decide)) <|
  Eq.trans (mx_istore_n t143 d143_30 (ls' := [.ref a0, .int x2, .int x2]) rfl rfl) <|
  Eq.trans (mx_iinc t143 d143_31 (x := x2) (v := nI 1) (ls' := [.ref a0, .int x2, .int (x2 + nI 1)]) rfl rfl rfl rfl) <|
  (mx_goto t143 d143_34 (tgt := 4) (by decide))
theorem b143_29 {d : Nat} {S : mm_S} {a0 : Nat} {x1 : Int32} {x2 : Int32} : mm_ex d 143 29 [.ref a0, .int x1, .int x2] [] S =
    mm_ex d 143 4 [.ref a0, .int x1, .int (x2 + nI 1)] [] S :=
  Eq.trans (mx_iload_n t143 d143_29 (x := x1) rfl) <|
  Eq.trans (mx_istore_n t143 d143_30 (ls' := [.ref a0, .int x1, .int x2]) rfl rfl) <|
  Eq.trans (mx_iinc t143 d143_31 (x := x2) (v := nI 1) (ls' := [.ref a0, .int x1, .int (x2 + nI 1)]) rfl rfl rfl rfl) <|
  (mx_goto t143 d143_34 (tgt := 4) (by decide))
theorem b143_37 {d : Nat} {S : mm_S} {a0 : Nat} {x1 : Int32} {x2 : Int32} : mm_ex d 143 37 [.ref a0, .int x1, .int x2] [] S =
    mm_ex d 143 39 [.ref a0, .int x1, .int (nI 0)] [] S :=
  Eq.trans (mx_iconst t143 d143_37 (v := nI 0) rfl) <|
  (mx_istore_n t143 d143_38 (ls' := [.ref a0, .int x1, .int (nI 0)]) rfl rfl)
theorem b143_39 {d : Nat} {S : mm_S} {a0 : Nat} {x1 : Int32} {x2 : Int32} : mm_ex d 143 39 [.ref a0, .int x1, .int x2] [] S =
    if x1 = (-1) then mm_ex d 143 79 [.ref a0, .int x1, .int x2] [] S else mm_ex d 143 44 [.ref a0, .int x1, .int x2] [] S :=
  Eq.trans (mx_iload_n t143 d143_39 (x := x1) rfl) <|
  Eq.trans (mx_iconst t143 d143_40 (v := -1) rfl) <|
  (mx_ceq t143 d143_41 (tgt := 79) (by decide))
theorem b143_44 {d : Nat} {S : mm_S} {a0 : Nat} {x1 : Int32} {x2 : Int32} (h0 : mm_obj S a0 12 = true) (h1 : (mm_R S a0 34).isSome = true) (h2 : mm_inb x1 (mm_N S (mm_rg S a0 34)) = true) (h3 : mm_arr S (mm_rg S a0 34) 13 = true) : mm_ex d 143 44 [.ref a0, .int x1, .int x2] [] S =
    if (mm_M S (mm_rg S a0 34) (x1).toNatClampNeg) ≤ x2 then mm_ex d 143 79 [.ref a0, .int x1, .int x2] [] S else mm_ex d 143 54 [.ref a0, .int x1, .int x2] [] S :=
  Eq.trans (mx_iload_n t143 d143_44 (x := x2) rfl) <|
  Eq.trans (mx_aload_n t143 d143_45 (x := a0) rfl) <|
  Eq.trans (mx_getR t143 d143_46 rfl fl12_89 h0 h1) <|
  Eq.trans (mx_iload_n t143 d143_49 (x := x1) rfl) <|
  Eq.trans (mx_iald t143 d143_50 h3 h2) <|
  (mx_cge t143 d143_51 (tgt := 79) (by decide))
theorem b143_54 {d : Nat} {S : mm_S} {a0 : Nat} {x1 : Int32} {x2 : Int32} (h0 : mm_obj S a0 12 = true) (h1 : (mm_R S a0 33).isSome = true) (h2 : mm_inb (((nI 4) * x1) + x2) (mm_N S (mm_rg S a0 33)) = true) (h3 : mm_arr S (mm_rg S a0 33) 13 = true) (h4 : mm_rk S a0 = 12) : mm_ex (d + 1) 143 54 [.ref a0, .int x1, .int x2] [] S =
    mm_bd (mm_cl d 141 [.ref a0, .int (mm_M S (mm_rg S a0 33) (((nI 4) * x1) + x2).toNatClampNeg)] S) (fun v S2 => mm_ex (d + 1) 143 68 [.ref a0, .int x1, .int x2] (v.toList ++ []) S2) :=
  Eq.trans (mx_aload_n t143 d143_54 (x := a0) rfl) <|
  Eq.trans (mx_aload_n t143 d143_55 (x := a0) rfl) <|
  Eq.trans (mx_getR t143 d143_56 rfl fl12_86 h0 h1) <|
  Eq.trans (mx_iconst t143 d143_59 (v := nI 4) rfl) <|
  Eq.trans (mx_iload_n t143 d143_60 (x := x1) rfl) <|
  Eq.trans (mx_imul t143 d143_61) <|
  Eq.trans (mx_iload_n t143 d143_62 (x := x2) rfl) <|
  Eq.trans (mx_iadd t143 d143_63) <|
  Eq.trans (mx_iald t143 d143_64 h3 h2) <|
  (mx_virt (st := []) (k := 12) t143 [.int (mm_M S (mm_rg S a0 33) (((nI 4) * x1) + x2).toNatClampNeg)] d143_65 vt12_197 rfl rfl (Nat.le_of_ble_eq_true rfl) (Nat.le_of_ble_eq_true rfl) h4)
theorem b143_68 {d : Nat} {S : mm_S} {a0 : Nat} {x1 : Int32} {x2 : Int32} {p0 : Int32} : mm_ex d 143 68 [.ref a0, .int x1, .int x2] [.int p0] S =
    if p0 = nI 0 then mm_ex d 143 71 [.ref a0, .int x1, .int x2] [] S else mm_ex d 143 73 [.ref a0, .int x1, .int x2] [] S :=
  (mx_ine t143 d143_68 (tgt := 73) (by decide))
theorem b143_71 {d : Nat} {S : mm_S} {a0 : Nat} {x1 : Int32} {x2 : Int32} : mm_ex d 143 71 [.ref a0, .int x1, .int x2] [] S =
    some (some (.int (-1)), S) :=
  Eq.trans (mx_iconst t143 d143_71 (v := -1) rfl) <|
  (mx_iret t143 d143_72 (ty := .int) rfl rfl (fun h => nomatch h))
theorem b143_73 {d : Nat} {S : mm_S} {a0 : Nat} {x1 : Int32} {x2 : Int32} : mm_ex d 143 73 [.ref a0, .int x1, .int x2] [] S =
    mm_ex d 143 39 [.ref a0, .int x1, .int (x2 + nI 1)] [] S :=
  Eq.trans (mx_iinc t143 d143_73 (x := x2) (v := nI 1) (ls' := [.ref a0, .int x1, .int (x2 + nI 1)]) rfl rfl rfl rfl) <|
  (mx_goto t143 d143_76 (tgt := 39) (by decide))
theorem b143_79 {d : Nat} {S : mm_S} {a0 : Nat} {x1 : Int32} {x2 : Int32} : mm_ex d 143 79 [.ref a0, .int x1, .int x2] [] S =
    some (some (.int x1), S) :=
  Eq.trans (mx_iload_n t143 d143_79 (x := x1) rfl) <|
  (mx_iret t143 d143_80 (ty := .int) rfl rfl (fun h => nomatch h))
theorem e143 {d : Nat} {S : mm_S} {a0 : Nat} : mm_cl d 143 [.ref a0] S = mm_ex d 143 0 [.ref a0, .null, .null] [] S := mm_cl_eq t143 (Nat.le_of_ble_eq_true rfl) rfl
/-! X12_codes -/
theorem d144_0 : decode prog_14_method_19_code 0 = .ok (.aload_n 0, 1) := by decide +kernel
theorem d144_1 : decode prog_14_method_19_code 1 = .ok (.getfield 64, 3) := by decide +kernel
theorem d144_4 : decode prog_14_method_19_code 4 = .ok (.sipush 720, 3) := by decide +kernel
theorem d144_7 : decode prog_14_method_19_code 7 = .ok (.aload_n 0, 1) := by decide +kernel
theorem d144_8 : decode prog_14_method_19_code 8 = .ok (.getfield 200, 3) := by decide +kernel
theorem d144_11 : decode prog_14_method_19_code 11 = .ok (.iadd, 1) := by decide +kernel
theorem d144_12 : decode prog_14_method_19_code 12 = .ok (.iload_n 1, 1) := by decide +kernel
theorem d144_13 : decode prog_14_method_19_code 13 = .ok (.iastore, 1) := by decide +kernel
theorem d144_14 : decode prog_14_method_19_code 14 = .ok (.aload_n 0, 1) := by decide +kernel
theorem d144_15 : decode prog_14_method_19_code 15 = .ok (.dup, 1) := by decide +kernel
theorem d144_16 : decode prog_14_method_19_code 16 = .ok (.getfield 200, 3) := by decide +kernel
theorem d144_19 : decode prog_14_method_19_code 19 = .ok (.iconst 1, 1) := by decide +kernel
theorem d144_20 : decode prog_14_method_19_code 20 = .ok (.iadd, 1) := by decide +kernel
theorem d144_21 : decode prog_14_method_19_code 21 = .ok (.putfield 200, 3) := by decide +kernel
theorem d144_24 : decode prog_14_method_19_code 24 = .ok (.return_, 1) := by decide +kernel
theorem b144_0 {d : Nat} {S : mm_S} {a0 : Nat} {x1 : Int32} (h0 : mm_obj S a0 12 = true) (h1 : (mm_R S a0 24).isSome = true) (h2 : mm_arr S (mm_rg S a0 24) 13 = true) (h3 : mm_inb ((nI 720) + (mm_M S a0 37)) (mm_N S (mm_rg S a0 24)) = true) : mm_ex d 144 0 [.ref a0, .int x1] [] S =
    mm_ex d 144 16 [.ref a0, .int x1] [.ref a0, .ref a0] (mm_uM S (mm_rg S a0 24) ((nI 720) + (mm_M S a0 37)).toNatClampNeg x1) :=
  Eq.trans (mx_aload_n t144 d144_0 (x := a0) rfl) <|
  Eq.trans (mx_getR t144 d144_1 rfl fl12_64 h0 h1) <|
  Eq.trans (mx_sipush t144 d144_4 (v := nI 720) rfl) <|
  Eq.trans (mx_aload_n t144 d144_7 (x := a0) rfl) <|
  Eq.trans (mx_geti t144 d144_8 rfl fl12_200 h0) <|
  Eq.trans (mx_iadd t144 d144_11) <|
  Eq.trans (mx_iload_n t144 d144_12 (x := x1) rfl) <|
  Eq.trans (mx_iast2 t144 d144_13 h2 h3) <|
  Eq.trans (mx_aload_n t144 d144_14 (x := a0) rfl) <|
  (mx_dupr t144 d144_15)
theorem b144_16 {d : Nat} {S : mm_S} {a0 : Nat} {x1 : Int32} {p0 : Nat} {p1 : Nat} (h0 : mm_obj S p0 12 = true) (h1 : mm_obj S p1 12 = true) : mm_ex d 144 16 [.ref a0, .int x1] [.ref p0, .ref p1] S =
    some (none, (mm_uM S p1 37 ((mm_M S p0 37) + (nI 1)))) :=
  Eq.trans (mx_geti t144 d144_16 rfl fl12_200 h0) <|
  Eq.trans (mx_iconst t144 d144_19 (v := nI 1) rfl) <|
  Eq.trans (mx_iadd t144 d144_20) <|
  Eq.trans (mx_puti2 t144 d144_21 fl12_200 rfl h1) <|
  (mx_vret t144 d144_24 rfl)
theorem e144 {d : Nat} {S : mm_S} {a0 : Nat} {x1 : Int32} : mm_cl d 144 [.ref a0, .int x1] S = mm_ex d 144 0 [.ref a0, .int x1] [] S := mm_cl_eq t144 (Nat.le_of_ble_eq_true rfl) rfl
