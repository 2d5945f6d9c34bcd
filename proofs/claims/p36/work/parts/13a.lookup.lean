/-! ===== the tables' entries, one row each ===== -/
theorem fl0_9 : mm_fd mm_FL 0 9 = some (0, 0, 0, 1) := by decide +kernel
theorem fl0_15 : mm_fd mm_FL 0 15 = some (0, 1, 0, 1) := by decide +kernel
theorem fl0_18 : mm_fd mm_FL 0 18 = some (0, 2, 0, 1) := by decide +kernel
theorem fl0_21 : mm_fd mm_FL 0 21 = some (0, 3, 0, 1) := by decide +kernel
theorem fl1_11 : mm_fd mm_FL 1 11 = some (1, 0, 2, 1) := by decide +kernel
theorem fl1_17 : mm_fd mm_FL 1 17 = some (1, 1, 2, 1) := by decide +kernel
theorem fl1_21 : mm_fd mm_FL 1 21 = some (1, 2, 2, 1) := by decide +kernel
theorem fl1_24 : mm_fd mm_FL 1 24 = some (1, 3, 2, 1) := by decide +kernel
theorem fl1_27 : mm_fd mm_FL 1 27 = some (1, 4, 2, 1) := by decide +kernel
theorem fl1_30 : mm_fd mm_FL 1 30 = some (1, 5, 2, 1) := by decide +kernel
theorem fl1_33 : mm_fd mm_FL 1 33 = some (1, 6, 2, 1) := by decide +kernel
theorem fl1_38 : mm_fd mm_FL 1 38 = some (1, 7, 2, 1) := by decide +kernel
theorem fl1_41 : mm_fd mm_FL 1 41 = some (1, 12, 0, 0) := by decide +kernel
theorem fl1_45 : mm_fd mm_FL 1 45 = some (1, 13, 0, 0) := by decide +kernel
theorem fl1_48 : mm_fd mm_FL 1 48 = some (1, 8, 2, 0) := by decide +kernel
theorem fl1_52 : mm_fd mm_FL 1 52 = some (6, 3, 0, 0) := by decide +kernel
theorem fl1_55 : mm_fd mm_FL 1 55 = some (1, 9, 0, 0) := by decide +kernel
theorem fl1_62 : mm_fd mm_FL 1 62 = some (1, 10, 0, 0) := by decide +kernel
theorem fl1_65 : mm_fd mm_FL 1 65 = some (1, 11, 0, 0) := by decide +kernel
theorem fl1_68 : mm_fd mm_FL 1 68 = some (1, 14, 0, 0) := by decide +kernel
theorem fl1_71 : mm_fd mm_FL 1 71 = some (1, 15, 0, 0) := by decide +kernel
theorem fl1_74 : mm_fd mm_FL 1 74 = some (1, 16, 0, 0) := by decide +kernel
theorem fl1_77 : mm_fd mm_FL 1 77 = some (1, 17, 0, 0) := by decide +kernel
theorem fl1_91 : mm_fd mm_FL 1 91 = some (6, 2, 0, 0) := by decide +kernel
theorem fl1_94 : mm_fd mm_FL 1 94 = some (1, 18, 0, 0) := by decide +kernel
theorem fl1_97 : mm_fd mm_FL 1 97 = some (1, 19, 0, 0) := by decide +kernel
theorem fl1_100 : mm_fd mm_FL 1 100 = some (0, 0, 0, 1) := by decide +kernel
theorem fl1_107 : mm_fd mm_FL 1 107 = some (0, 3, 0, 1) := by decide +kernel
theorem fl1_124 : mm_fd mm_FL 1 124 = some (6, 0, 0, 0) := by decide +kernel
theorem fl1_133 : mm_fd mm_FL 1 133 = some (6, 1, 0, 0) := by decide +kernel
theorem fl2_9 : mm_fd mm_FL 2 9 = some (1, 12, 0, 0) := by decide +kernel
theorem fl2_15 : mm_fd mm_FL 2 15 = some (0, 2, 0, 1) := by decide +kernel
theorem fl2_20 : mm_fd mm_FL 2 20 = some (0, 1, 0, 1) := by decide +kernel
theorem fl3_9 : mm_fd mm_FL 3 9 = some (1, 11, 0, 0) := by decide +kernel
theorem fl3_15 : mm_fd mm_FL 3 15 = some (0, 2, 0, 1) := by decide +kernel
theorem fl3_20 : mm_fd mm_FL 3 20 = some (0, 1, 0, 1) := by decide +kernel
theorem fl4_15 : mm_fd mm_FL 4 15 = some (0, 2, 0, 1) := by decide +kernel
theorem fl5_9 : mm_fd mm_FL 5 9 = some (5, 1, 2, 1) := by decide +kernel
theorem fl5_13 : mm_fd mm_FL 5 13 = some (5, 0, 0, 0) := by decide +kernel
theorem fl5_17 : mm_fd mm_FL 5 17 = some (5, 3, 2, 0) := by decide +kernel
theorem fl5_26 : mm_fd mm_FL 5 26 = some (5, 2, 0, 0) := by decide +kernel
theorem fl5_86 : mm_fd mm_FL 5 86 = some (6, 0, 0, 0) := by decide +kernel
theorem fl5_89 : mm_fd mm_FL 5 89 = some (6, 1, 0, 0) := by decide +kernel
theorem fl5_98 : mm_fd mm_FL 5 98 = some (6, 2, 0, 0) := by decide +kernel
theorem fl5_101 : mm_fd mm_FL 5 101 = some (6, 3, 0, 0) := by decide +kernel
theorem fl6_9 : mm_fd mm_FL 6 9 = some (6, 4, 2, 1) := by decide +kernel
theorem fl6_13 : mm_fd mm_FL 6 13 = some (6, 5, 2, 1) := by decide +kernel
theorem fl6_16 : mm_fd mm_FL 6 16 = some (6, 6, 2, 1) := by decide +kernel
theorem fl6_21 : mm_fd mm_FL 6 21 = some (6, 7, 2, 1) := by decide +kernel
theorem fl6_27 : mm_fd mm_FL 6 27 = some (6, 8, 0, 0) := by decide +kernel
theorem fl6_31 : mm_fd mm_FL 6 31 = some (6, 9, 0, 0) := by decide +kernel
theorem fl6_34 : mm_fd mm_FL 6 34 = some (6, 0, 0, 0) := by decide +kernel
theorem fl6_37 : mm_fd mm_FL 6 37 = some (6, 1, 0, 0) := by decide +kernel
theorem fl6_40 : mm_fd mm_FL 6 40 = some (6, 2, 0, 0) := by decide +kernel
theorem fl6_43 : mm_fd mm_FL 6 43 = some (6, 3, 0, 0) := by decide +kernel
theorem fl7_9 : mm_fd mm_FL 7 9 = some (1, 13, 0, 0) := by decide +kernel
theorem fl7_15 : mm_fd mm_FL 7 15 = some (0, 2, 0, 1) := by decide +kernel
theorem fl8_9 : mm_fd mm_FL 8 9 = some (8, 0, 2, 1) := by decide +kernel
theorem fl8_13 : mm_fd mm_FL 8 13 = some (8, 1, 0, 0) := by decide +kernel
theorem fl8_17 : mm_fd mm_FL 8 17 = some (8, 2, 0, 0) := by decide +kernel
theorem fl9_9 : mm_fd mm_FL 9 9 = some (1, 2, 2, 1) := by decide +kernel
theorem fl9_15 : mm_fd mm_FL 9 15 = some (0, 1, 0, 1) := by decide +kernel
theorem fl9_21 : mm_fd mm_FL 9 21 = some (1, 12, 0, 0) := by decide +kernel
theorem fl9_43 : mm_fd mm_FL 9 43 = some (0, 2, 0, 1) := by decide +kernel
theorem fl10_9 : mm_fd mm_FL 10 9 = some (1, 18, 0, 0) := by decide +kernel
theorem fl10_15 : mm_fd mm_FL 10 15 = some (1, 12, 0, 0) := by decide +kernel
theorem fl10_18 : mm_fd mm_FL 10 18 = some (0, 1, 0, 1) := by decide +kernel
theorem fl11_17 : mm_fd mm_FL 11 17 = some (11, 0, 2, 1) := by decide +kernel
theorem fl11_23 : mm_fd mm_FL 11 23 = some (11, 1, 2, 1) := by decide +kernel
theorem fl11_26 : mm_fd mm_FL 11 26 = some (11, 2, 2, 1) := by decide +kernel
theorem fl11_29 : mm_fd mm_FL 11 29 = some (11, 3, 2, 1) := by decide +kernel
theorem fl11_32 : mm_fd mm_FL 11 32 = some (11, 4, 2, 1) := by decide +kernel
theorem fl11_39 : mm_fd mm_FL 11 39 = some (11, 5, 2, 1) := by decide +kernel
theorem fl11_45 : mm_fd mm_FL 11 45 = some (11, 6, 2, 1) := by decide +kernel
theorem fl11_50 : mm_fd mm_FL 11 50 = some (11, 7, 2, 1) := by decide +kernel
theorem fl11_54 : mm_fd mm_FL 11 54 = some (11, 8, 2, 1) := by decide +kernel
theorem fl11_57 : mm_fd mm_FL 11 57 = some (11, 9, 2, 1) := by decide +kernel
theorem fl11_60 : mm_fd mm_FL 11 60 = some (11, 10, 2, 1) := by decide +kernel
theorem fl11_65 : mm_fd mm_FL 11 65 = some (1, 10, 0, 0) := by decide +kernel
theorem fl11_81 : mm_fd mm_FL 11 81 = some (1, 0, 2, 1) := by decide +kernel
theorem fl11_85 : mm_fd mm_FL 11 85 = some (0, 0, 0, 1) := by decide +kernel
theorem fl11_88 : mm_fd mm_FL 11 88 = some (0, 2, 0, 1) := by decide +kernel
theorem fl11_91 : mm_fd mm_FL 11 91 = some (0, 3, 0, 1) := by decide +kernel
theorem fl11_94 : mm_fd mm_FL 11 94 = some (1, 1, 2, 1) := by decide +kernel
theorem fl11_101 : mm_fd mm_FL 11 101 = some (1, 3, 2, 1) := by decide +kernel
theorem fl11_111 : mm_fd mm_FL 11 111 = some (1, 18, 0, 0) := by decide +kernel
theorem fl11_114 : mm_fd mm_FL 11 114 = some (1, 19, 0, 0) := by decide +kernel
theorem fl11_120 : mm_fd mm_FL 11 120 = some (1, 4, 2, 1) := by decide +kernel
theorem fl11_124 : mm_fd mm_FL 11 124 = some (1, 2, 2, 1) := by decide +kernel
theorem fl11_130 : mm_fd mm_FL 11 130 = some (1, 12, 0, 0) := by decide +kernel
theorem fl11_133 : mm_fd mm_FL 11 133 = some (1, 13, 0, 0) := by decide +kernel
theorem fl11_139 : mm_fd mm_FL 11 139 = some (5, 0, 0, 0) := by decide +kernel
theorem fl11_142 : mm_fd mm_FL 11 142 = some (11, 11, 0, 0) := by decide +kernel
theorem fl11_155 : mm_fd mm_FL 11 155 = some (1, 8, 2, 0) := by decide +kernel
theorem fl11_159 : mm_fd mm_FL 11 159 = some (6, 0, 0, 0) := by decide +kernel
theorem fl11_162 : mm_fd mm_FL 11 162 = some (6, 1, 0, 0) := by decide +kernel
theorem fl11_165 : mm_fd mm_FL 11 165 = some (6, 2, 0, 0) := by decide +kernel
theorem fl11_168 : mm_fd mm_FL 11 168 = some (6, 3, 0, 0) := by decide +kernel
theorem fl11_171 : mm_fd mm_FL 11 171 = some (1, 14, 0, 0) := by decide +kernel
theorem fl11_174 : mm_fd mm_FL 11 174 = some (1, 15, 0, 0) := by decide +kernel
theorem fl11_177 : mm_fd mm_FL 11 177 = some (1, 11, 0, 0) := by decide +kernel
theorem fl11_242 : mm_fd mm_FL 11 242 = some (1, 5, 2, 1) := by decide +kernel
theorem fl11_258 : mm_fd mm_FL 11 258 = some (1, 16, 0, 0) := by decide +kernel
theorem fl11_268 : mm_fd mm_FL 11 268 = some (1, 17, 0, 0) := by decide +kernel
theorem fl11_271 : mm_fd mm_FL 11 271 = some (1, 6, 2, 1) := by decide +kernel
theorem fl11_280 : mm_fd mm_FL 11 280 = some (8, 1, 0, 0) := by decide +kernel
theorem fl11_283 : mm_fd mm_FL 11 283 = some (8, 2, 0, 0) := by decide +kernel
theorem fl11_284 : mm_fd mm_FL 11 284 = some (8, 0, 2, 1) := by decide +kernel
theorem fl11_288 : mm_fd mm_FL 11 288 = some (11, 12, 3, 0) := by decide +kernel
theorem fl11_347 : mm_fd mm_FL 11 347 = some (1, 9, 0, 0) := by decide +kernel
theorem fl12_9 : mm_fd mm_FL 12 9 = some (12, 1, 2, 1) := by decide +kernel
theorem fl12_15 : mm_fd mm_FL 12 15 = some (12, 2, 2, 1) := by decide +kernel
theorem fl12_18 : mm_fd mm_FL 12 18 = some (12, 3, 2, 1) := by decide +kernel
theorem fl12_21 : mm_fd mm_FL 12 21 = some (12, 4, 2, 1) := by decide +kernel
theorem fl12_24 : mm_fd mm_FL 12 24 = some (12, 5, 2, 1) := by decide +kernel
theorem fl12_27 : mm_fd mm_FL 12 27 = some (12, 6, 2, 1) := by decide +kernel
theorem fl12_30 : mm_fd mm_FL 12 30 = some (12, 7, 2, 1) := by decide +kernel
theorem fl12_33 : mm_fd mm_FL 12 33 = some (12, 9, 2, 1) := by decide +kernel
theorem fl12_36 : mm_fd mm_FL 12 36 = some (12, 10, 0, 0) := by decide +kernel
theorem fl12_40 : mm_fd mm_FL 12 40 = some (12, 11, 0, 0) := by decide +kernel
theorem fl12_43 : mm_fd mm_FL 12 43 = some (12, 16, 2, 1) := by decide +kernel
theorem fl12_46 : mm_fd mm_FL 12 46 = some (12, 18, 0, 0) := by decide +kernel
theorem fl12_49 : mm_fd mm_FL 12 49 = some (12, 19, 2, 1) := by decide +kernel
theorem fl12_52 : mm_fd mm_FL 12 52 = some (12, 20, 2, 1) := by decide +kernel
theorem fl12_55 : mm_fd mm_FL 12 55 = some (12, 21, 2, 1) := by decide +kernel
theorem fl12_58 : mm_fd mm_FL 12 58 = some (12, 22, 2, 1) := by decide +kernel
theorem fl12_61 : mm_fd mm_FL 12 61 = some (12, 23, 2, 1) := by decide +kernel
theorem fl12_64 : mm_fd mm_FL 12 64 = some (12, 24, 2, 1) := by decide +kernel
theorem fl12_67 : mm_fd mm_FL 12 67 = some (12, 25, 2, 1) := by decide +kernel
theorem fl12_70 : mm_fd mm_FL 12 70 = some (12, 27, 0, 0) := by decide +kernel
theorem fl12_73 : mm_fd mm_FL 12 73 = some (12, 29, 2, 1) := by decide +kernel
theorem fl12_76 : mm_fd mm_FL 12 76 = some (12, 30, 2, 1) := by decide +kernel
theorem fl12_79 : mm_fd mm_FL 12 79 = some (12, 31, 2, 1) := by decide +kernel
theorem fl12_82 : mm_fd mm_FL 12 82 = some (12, 32, 2, 1) := by decide +kernel
theorem fl12_86 : mm_fd mm_FL 12 86 = some (12, 33, 2, 1) := by decide +kernel
theorem fl12_89 : mm_fd mm_FL 12 89 = some (12, 34, 2, 1) := by decide +kernel
theorem fl12_92 : mm_fd mm_FL 12 92 = some (12, 35, 2, 1) := by decide +kernel
theorem fl12_95 : mm_fd mm_FL 12 95 = some (12, 38, 2, 1) := by decide +kernel
theorem fl12_98 : mm_fd mm_FL 12 98 = some (12, 41, 2, 1) := by decide +kernel
theorem fl12_102 : mm_fd mm_FL 12 102 = some (12, 44, 2, 1) := by decide +kernel
theorem fl12_105 : mm_fd mm_FL 12 105 = some (12, 45, 2, 1) := by decide +kernel
theorem fl12_108 : mm_fd mm_FL 12 108 = some (12, 46, 2, 1) := by decide +kernel
theorem fl12_111 : mm_fd mm_FL 12 111 = some (12, 52, 2, 1) := by decide +kernel
theorem fl12_114 : mm_fd mm_FL 12 114 = some (12, 55, 2, 1) := by decide +kernel
theorem fl12_117 : mm_fd mm_FL 12 117 = some (12, 56, 2, 1) := by decide +kernel
theorem fl12_120 : mm_fd mm_FL 12 120 = some (12, 57, 2, 1) := by decide +kernel
theorem fl12_123 : mm_fd mm_FL 12 123 = some (12, 58, 2, 1) := by decide +kernel
theorem fl12_126 : mm_fd mm_FL 12 126 = some (12, 64, 2, 1) := by decide +kernel
theorem fl12_129 : mm_fd mm_FL 12 129 = some (12, 65, 2, 1) := by decide +kernel
theorem fl12_132 : mm_fd mm_FL 12 132 = some (12, 66, 2, 1) := by decide +kernel
theorem fl12_135 : mm_fd mm_FL 12 135 = some (12, 67, 2, 1) := by decide +kernel
theorem fl12_138 : mm_fd mm_FL 12 138 = some (12, 68, 2, 1) := by decide +kernel
theorem fl12_141 : mm_fd mm_FL 12 141 = some (12, 69, 2, 1) := by decide +kernel
theorem fl12_144 : mm_fd mm_FL 12 144 = some (12, 70, 2, 1) := by decide +kernel
theorem fl12_147 : mm_fd mm_FL 12 147 = some (12, 71, 2, 1) := by decide +kernel
theorem fl12_150 : mm_fd mm_FL 12 150 = some (12, 72, 2, 1) := by decide +kernel
theorem fl12_153 : mm_fd mm_FL 12 153 = some (12, 73, 2, 1) := by decide +kernel
theorem fl12_156 : mm_fd mm_FL 12 156 = some (12, 75, 2, 1) := by decide +kernel
theorem fl12_159 : mm_fd mm_FL 12 159 = some (12, 0, 0, 0) := by decide +kernel
theorem fl12_166 : mm_fd mm_FL 12 166 = some (12, 8, 0, 0) := by decide +kernel
theorem fl12_184 : mm_fd mm_FL 12 184 = some (12, 26, 0, 0) := by decide +kernel
theorem fl12_187 : mm_fd mm_FL 12 187 = some (12, 36, 0, 0) := by decide +kernel
theorem fl12_200 : mm_fd mm_FL 12 200 = some (12, 37, 0, 0) := by decide +kernel
theorem fl12_209 : mm_fd mm_FL 12 209 = some (12, 39, 0, 0) := by decide +kernel
theorem fl12_212 : mm_fd mm_FL 12 212 = some (12, 40, 0, 0) := by decide +kernel
theorem fl12_237 : mm_fd mm_FL 12 237 = some (12, 17, 0, 0) := by decide +kernel
theorem fl12_257 : mm_fd mm_FL 12 257 = some (12, 12, 0, 0) := by decide +kernel
theorem fl12_260 : mm_fd mm_FL 12 260 = some (12, 13, 0, 0) := by decide +kernel
theorem fl12_284 : mm_fd mm_FL 12 284 = some (12, 42, 0, 0) := by decide +kernel
theorem fl12_287 : mm_fd mm_FL 12 287 = some (12, 43, 0, 0) := by decide +kernel
theorem fl12_296 : mm_fd mm_FL 12 296 = some (12, 47, 0, 0) := by decide +kernel
theorem fl12_299 : mm_fd mm_FL 12 299 = some (12, 48, 0, 0) := by decide +kernel
theorem fl12_302 : mm_fd mm_FL 12 302 = some (12, 49, 0, 0) := by decide +kernel
theorem fl12_305 : mm_fd mm_FL 12 305 = some (12, 50, 0, 0) := by decide +kernel
theorem fl12_308 : mm_fd mm_FL 12 308 = some (12, 51, 0, 0) := by decide +kernel
theorem fl12_340 : mm_fd mm_FL 12 340 = some (12, 14, 0, 0) := by decide +kernel
theorem fl12_343 : mm_fd mm_FL 12 343 = some (12, 54, 3, 0) := by decide +kernel
theorem fl12_356 : mm_fd mm_FL 12 356 = some (12, 53, 1, 0) := by decide +kernel
theorem fl12_365 : mm_fd mm_FL 12 365 = some (12, 15, 0, 0) := by decide +kernel
theorem fl12_371 : mm_fd mm_FL 12 371 = some (12, 59, 3, 0) := by decide +kernel
theorem fl12_374 : mm_fd mm_FL 12 374 = some (12, 60, 0, 0) := by decide +kernel
theorem fl12_377 : mm_fd mm_FL 12 377 = some (12, 61, 0, 0) := by decide +kernel
theorem fl12_380 : mm_fd mm_FL 12 380 = some (12, 62, 0, 0) := by decide +kernel
theorem fl12_383 : mm_fd mm_FL 12 383 = some (12, 63, 0, 0) := by decide +kernel
theorem fl12_386 : mm_fd mm_FL 12 386 = some (12, 28, 0, 0) := by decide +kernel
theorem fl12_398 : mm_fd mm_FL 12 398 = some (12, 74, 0, 0) := by decide +kernel
theorem st0_30 : mm_fd mm_ST 0 30 = some (2, 1) := by decide +kernel
theorem st2_31 : mm_fd mm_ST 2 31 = some (2, 1) := by decide +kernel
theorem st3_31 : mm_fd mm_ST 3 31 = some (2, 1) := by decide +kernel
theorem st4_21 : mm_fd mm_ST 4 21 = some (2, 1) := by decide +kernel
theorem st5_66 : mm_fd mm_ST 5 66 = some (1, 40) := by decide +kernel
theorem st5_127 : mm_fd mm_ST 5 127 = some (3, 50) := by decide +kernel
theorem st6_50 : mm_fd mm_ST 6 50 = some (2, 54) := by decide +kernel
theorem st7_24 : mm_fd mm_ST 7 24 = some (2, 1) := by decide +kernel
theorem st9_32 : mm_fd mm_ST 9 32 = some (2, 1) := by decide +kernel
theorem st10_31 : mm_fd mm_ST 10 31 = some (2, 1) := by decide +kernel
theorem st11_69 : mm_fd mm_ST 11 69 = some (4, 111) := by decide +kernel
theorem st11_97 : mm_fd mm_ST 11 97 = some (1, 108) := by decide +kernel
theorem st11_235 : mm_fd mm_ST 11 235 = some (3, 126) := by decide +kernel
theorem st11_274 : mm_fd mm_ST 11 274 = some (1, 109) := by decide +kernel
theorem st11_301 : mm_fd mm_ST 11 301 = some (2, 112) := by decide +kernel
theorem st12_162 : mm_fd mm_ST 12 162 = some (3, 128) := by decide +kernel
theorem st12_194 : mm_fd mm_ST 12 194 = some (1, 140) := by decide +kernel
theorem st12_323 : mm_fd mm_ST 12 323 = some (1, 177) := by decide +kernel
theorem st12_331 : mm_fd mm_ST 12 331 = some (3, 181) := by decide +kernel
theorem st12_392 : mm_fd mm_ST 12 392 = some (1, 199) := by decide +kernel
theorem st12_407 : mm_fd mm_ST 12 407 = some (2, 208) := by decide +kernel
theorem st13_495 : mm_fd mm_ST 13 495 = some (2, 220) := by decide +kernel
theorem st13_637 : mm_fd mm_ST 13 637 = some (4, 222) := by decide +kernel
theorem st13_1059 : mm_fd mm_ST 13 1059 = some (3, 224) := by decide +kernel
theorem st14_9 : mm_fd mm_ST 14 9 = some (2, 219) := by decide +kernel
theorem st14_88 : mm_fd mm_ST 14 88 = some (1, 221) := by decide +kernel
theorem st14_95 : mm_fd mm_ST 14 95 = some (4, 223) := by decide +kernel
theorem acn0_30 : mm_fd mm_AC 0 30 = none := by decide +kernel
theorem acn1_127 : mm_fd mm_AC 1 127 = none := by decide +kernel
theorem acn2_31 : mm_fd mm_AC 2 31 = none := by decide +kernel
theorem acn3_31 : mm_fd mm_AC 3 31 = none := by decide +kernel
theorem acn4_21 : mm_fd mm_AC 4 21 = none := by decide +kernel
theorem acn5_66 : mm_fd mm_AC 5 66 = none := by decide +kernel
theorem acn5_92 : mm_fd mm_AC 5 92 = none := by decide +kernel
theorem acn5_127 : mm_fd mm_AC 5 127 = none := by decide +kernel
theorem acn6_50 : mm_fd mm_AC 6 50 = none := by decide +kernel
theorem acn7_24 : mm_fd mm_AC 7 24 = none := by decide +kernel
theorem acn9_32 : mm_fd mm_AC 9 32 = none := by decide +kernel
theorem acn10_31 : mm_fd mm_AC 10 31 = none := by decide +kernel
theorem acn11_69 : mm_fd mm_AC 11 69 = none := by decide +kernel
theorem acn11_97 : mm_fd mm_AC 11 97 = none := by decide +kernel
theorem acn11_235 : mm_fd mm_AC 11 235 = none := by decide +kernel
theorem acn11_248 : mm_fd mm_AC 11 248 = none := by decide +kernel
theorem acn11_274 : mm_fd mm_AC 11 274 = none := by decide +kernel
theorem acn11_301 : mm_fd mm_AC 11 301 = none := by decide +kernel
theorem acn12_162 : mm_fd mm_AC 12 162 = none := by decide +kernel
theorem acn12_194 : mm_fd mm_AC 12 194 = none := by decide +kernel
theorem acn12_323 : mm_fd mm_AC 12 323 = none := by decide +kernel
theorem acn12_331 : mm_fd mm_AC 12 331 = none := by decide +kernel
theorem acn12_392 : mm_fd mm_AC 12 392 = none := by decide +kernel
theorem acn12_407 : mm_fd mm_AC 12 407 = none := by decide +kernel
theorem acn13_495 : mm_fd mm_AC 13 495 = none := by decide +kernel
theorem acn13_637 : mm_fd mm_AC 13 637 = none := by decide +kernel
theorem acn13_1059 : mm_fd mm_AC 13 1059 = none := by decide +kernel
theorem acn14_9 : mm_fd mm_AC 14 9 = none := by decide +kernel
theorem acn14_38 : mm_fd mm_AC 14 38 = none := by decide +kernel
theorem acn14_88 : mm_fd mm_AC 14 88 = none := by decide +kernel
theorem acn14_92 : mm_fd mm_AC 14 92 = none := by decide +kernel
theorem acn14_95 : mm_fd mm_AC 14 95 = none := by decide +kernel
theorem mxn0_30 : mm_fd mm_MX 0 30 = none := by decide +kernel
theorem mxn2_31 : mm_fd mm_MX 2 31 = none := by decide +kernel
theorem mxn3_31 : mm_fd mm_MX 3 31 = none := by decide +kernel
theorem mxn4_21 : mm_fd mm_MX 4 21 = none := by decide +kernel
theorem mxn5_66 : mm_fd mm_MX 5 66 = none := by decide +kernel
theorem mxn5_127 : mm_fd mm_MX 5 127 = none := by decide +kernel
theorem mxn6_50 : mm_fd mm_MX 6 50 = none := by decide +kernel
theorem mxn7_24 : mm_fd mm_MX 7 24 = none := by decide +kernel
theorem mxn9_32 : mm_fd mm_MX 9 32 = none := by decide +kernel
theorem mxn10_31 : mm_fd mm_MX 10 31 = none := by decide +kernel
theorem mxn11_69 : mm_fd mm_MX 11 69 = none := by decide +kernel
theorem mxn11_97 : mm_fd mm_MX 11 97 = none := by decide +kernel
theorem mxn11_235 : mm_fd mm_MX 11 235 = none := by decide +kernel
theorem mxn11_274 : mm_fd mm_MX 11 274 = none := by decide +kernel
theorem mxn11_301 : mm_fd mm_MX 11 301 = none := by decide +kernel
theorem mxn12_162 : mm_fd mm_MX 12 162 = none := by decide +kernel
theorem mxn12_194 : mm_fd mm_MX 12 194 = none := by decide +kernel
theorem mxn12_323 : mm_fd mm_MX 12 323 = none := by decide +kernel
theorem mxn12_331 : mm_fd mm_MX 12 331 = none := by decide +kernel
theorem mxn12_392 : mm_fd mm_MX 12 392 = none := by decide +kernel
theorem mxn12_407 : mm_fd mm_MX 12 407 = none := by decide +kernel
theorem mxn13_495 : mm_fd mm_MX 13 495 = none := by decide +kernel
theorem mxn13_637 : mm_fd mm_MX 13 637 = none := by decide +kernel
theorem mxn13_1059 : mm_fd mm_MX 13 1059 = none := by decide +kernel
theorem mxn14_9 : mm_fd mm_MX 14 9 = none := by decide +kernel
theorem mxn14_88 : mm_fd mm_MX 14 88 = none := by decide +kernel
theorem mxn14_95 : mm_fd mm_MX 14 95 = none := by decide +kernel
theorem mxx1_127 : mm_fd mm_MX 1 127 = some 0 := by decide +kernel
theorem mxx5_92 : mm_fd mm_MX 5 92 = some 0 := by decide +kernel
theorem mxx11_248 : mm_fd mm_MX 11 248 = some 0 := by decide +kernel
theorem mxx14_38 : mm_fd mm_MX 14 38 = some 0 := by decide +kernel
theorem mxx14_92 : mm_fd mm_MX 14 92 = some 1 := by decide +kernel
theorem ac1_56 : mm_fd mm_AC 1 56 = some () := by decide +kernel
theorem ac11_320 : mm_fd mm_AC 11 320 = some () := by decide +kernel
theorem vt0_24 : mm_fd mm_VT 0 24 = some (0, [(1, 18)]) := by decide +kernel
theorem vt0_34 : mm_fd mm_VT 0 34 = some (2, [(0, 3), (2, 3), (3, 71), (4, 3), (7, 57), (9, 68), (10, 71)]) := by decide +kernel
theorem vt0_38 : mm_fd mm_VT 0 38 = some (2, [(0, 4), (2, 4), (3, 4), (4, 33), (7, 58), (9, 67), (10, 4)]) := by decide +kernel
theorem vt1_80 : mm_fd mm_VT 1 80 = some (1, [(1, 13)]) := by decide +kernel
theorem vt1_84 : mm_fd mm_VT 1 84 = some (1, [(1, 12)]) := by decide +kernel
theorem vt1_88 : mm_fd mm_VT 1 88 = some (1, [(1, 14)]) := by decide +kernel
theorem vt1_103 : mm_fd mm_VT 1 103 = some (1, [(1, 17)]) := by decide +kernel
theorem vt1_110 : mm_fd mm_VT 1 110 = some (2, [(6, 52)]) := by decide +kernel
theorem vt1_114 : mm_fd mm_VT 1 114 = some (1, [(1, 19)]) := by decide +kernel
theorem vt1_117 : mm_fd mm_VT 1 117 = some (1, [(0, 2), (2, 26), (3, 29), (4, 32), (7, 56), (9, 66), (10, 70)]) := by decide +kernel
theorem vt1_121 : mm_fd mm_VT 1 121 = some (1, [(1, 22)]) := by decide +kernel
theorem vt1_136 : mm_fd mm_VT 1 136 = some (0, [(1, 20)]) := by decide +kernel
theorem vt1_140 : mm_fd mm_VT 1 140 = some (0, [(1, 21)]) := by decide +kernel
theorem vt2_23 : mm_fd mm_VT 2 23 = some (1, [(1, 17)]) := by decide +kernel
theorem vt2_39 : mm_fd mm_VT 2 39 = some (2, [(2, 4), (9, 67)]) := by decide +kernel
theorem vt3_23 : mm_fd mm_VT 3 23 = some (1, [(1, 16)]) := by decide +kernel
theorem vt4_9 : mm_fd mm_VT 4 9 = some (0, [(1, 18)]) := by decide +kernel
theorem vt5_21 : mm_fd mm_VT 5 21 = some (0, [(6, 48)]) := by decide +kernel
theorem vt5_29 : mm_fd mm_VT 5 29 = some (0, [(5, 41)]) := by decide +kernel
theorem vt5_35 : mm_fd mm_VT 5 35 = some (1, [(5, 39)]) := by decide +kernel
theorem vt5_39 : mm_fd mm_VT 5 39 = some (0, [(100, 212)]) := by decide +kernel
theorem vt5_45 : mm_fd mm_VT 5 45 = some (0, [(5, 38)]) := by decide +kernel
theorem vt5_48 : mm_fd mm_VT 5 48 = some (1, [(100, 214)]) := by decide +kernel
theorem vt5_70 : mm_fd mm_VT 5 70 = some (0, [(100, 213)]) := by decide +kernel
theorem vt5_73 : mm_fd mm_VT 5 73 = some (0, [(5, 46)]) := by decide +kernel
theorem vt5_78 : mm_fd mm_VT 5 78 = some (1, [(5, 42)]) := by decide +kernel
theorem vt5_82 : mm_fd mm_VT 5 82 = some (2, [(6, 51)]) := by decide +kernel
theorem vt5_104 : mm_fd mm_VT 5 104 = some (1, [(5, 43)]) := by decide +kernel
theorem vt5_107 : mm_fd mm_VT 5 107 = some (1, [(6, 49)]) := by decide +kernel
theorem vt5_111 : mm_fd mm_VT 5 111 = some (1, [(5, 44)]) := by decide +kernel
theorem vt5_114 : mm_fd mm_VT 5 114 = some (0, [(5, 45)]) := by decide +kernel
theorem vt5_121 : mm_fd mm_VT 5 121 = some (1, [(100, 215)]) := by decide +kernel
theorem vt6_24 : mm_fd mm_VT 6 24 = some (0, [(6, 48)]) := by decide +kernel
theorem vt6_46 : mm_fd mm_VT 6 46 = some (3, [(6, 53)]) := by decide +kernel
theorem vt9_24 : mm_fd mm_VT 9 24 = some (1, [(1, 16)]) := by decide +kernel
theorem vt10_23 : mm_fd mm_VT 10 23 = some (1, [(1, 16)]) := by decide +kernel
theorem vt11_73 : mm_fd mm_VT 11 73 = some (1, [(1, 9)]) := by decide +kernel
theorem vt11_77 : mm_fd mm_VT 11 77 = some (1, [(1, 8)]) := by decide +kernel
theorem vt11_104 : mm_fd mm_VT 11 104 = some (1, [(1, 12)]) := by decide +kernel
theorem vt11_107 : mm_fd mm_VT 11 107 = some (1, [(1, 19)]) := by decide +kernel
theorem vt11_117 : mm_fd mm_VT 11 117 = some (1, [(11, 110)]) := by decide +kernel
theorem vt11_127 : mm_fd mm_VT 11 127 = some (1, [(1, 13)]) := by decide +kernel
theorem vt11_136 : mm_fd mm_VT 11 136 = some (1, [(5, 35)]) := by decide +kernel
theorem vt11_145 : mm_fd mm_VT 11 145 = some (1, [(5, 37)]) := by decide +kernel
theorem vt11_149 : mm_fd mm_VT 11 149 = some (0, [(5, 36)]) := by decide +kernel
theorem vt11_152 : mm_fd mm_VT 11 152 = some (1, [(1, 10)]) := by decide +kernel
theorem vt11_180 : mm_fd mm_VT 11 180 = some (0, [(1, 11)]) := by decide +kernel
theorem vt11_184 : mm_fd mm_VT 11 184 = some (1, [(1, 7)]) := by decide +kernel
theorem vt11_188 : mm_fd mm_VT 11 188 = some (1, [(1, 15)]) := by decide +kernel
theorem vt11_191 : mm_fd mm_VT 11 191 = some (1, [(0, 2), (2, 26), (3, 29), (4, 32), (7, 56), (9, 66), (10, 70)]) := by decide +kernel
theorem vt11_195 : mm_fd mm_VT 11 195 = some (0, [(1, 20)]) := by decide +kernel
theorem vt11_199 : mm_fd mm_VT 11 199 = some (0, [(1, 21)]) := by decide +kernel
theorem vt11_202 : mm_fd mm_VT 11 202 = some (0, [(11, 113)]) := by decide +kernel
theorem vt11_205 : mm_fd mm_VT 11 205 = some (0, [(11, 114)]) := by decide +kernel
theorem vt11_208 : mm_fd mm_VT 11 208 = some (1, [(1, 16)]) := by decide +kernel
theorem vt11_211 : mm_fd mm_VT 11 211 = some (3, [(11, 116)]) := by decide +kernel
theorem vt11_215 : mm_fd mm_VT 11 215 = some (1, [(11, 119)]) := by decide +kernel
theorem vt11_218 : mm_fd mm_VT 11 218 = some (0, [(1, 23)]) := by decide +kernel
theorem vt11_221 : mm_fd mm_VT 11 221 = some (1, [(11, 117)]) := by decide +kernel
theorem vt11_226 : mm_fd mm_VT 11 226 = some (0, [(11, 120)]) := by decide +kernel
theorem vt11_229 : mm_fd mm_VT 11 229 = some (0, [(11, 121)]) := by decide +kernel
theorem vt11_232 : mm_fd mm_VT 11 232 = some (0, [(11, 122)]) := by decide +kernel
theorem vt11_239 : mm_fd mm_VT 11 239 = some (1, [(11, 115)]) := by decide +kernel
theorem vt11_245 : mm_fd mm_VT 11 245 = some (1, [(11, 118)]) := by decide +kernel
theorem vt11_255 : mm_fd mm_VT 11 255 = some (1, [(1, 14)]) := by decide +kernel
theorem vt11_261 : mm_fd mm_VT 11 261 = some (1, [(11, 124)]) := by decide +kernel
theorem vt11_265 : mm_fd mm_VT 11 265 = some (1, [(11, 125)]) := by decide +kernel
theorem vt11_277 : mm_fd mm_VT 11 277 = some (0, [(8, 61)]) := by decide +kernel
theorem vt11_292 : mm_fd mm_VT 11 292 = some (2, [(0, 3), (2, 3), (3, 71), (4, 3), (7, 57), (9, 68), (10, 71)]) := by decide +kernel
theorem vt11_296 : mm_fd mm_VT 11 296 = some (2, [(0, 4), (2, 4), (3, 4), (4, 33), (7, 58), (9, 67), (10, 4)]) := by decide +kernel
theorem vt11_299 : mm_fd mm_VT 11 299 = some (2, [(0, 5), (2, 27), (3, 30), (4, 5), (7, 5), (9, 27), (10, 5)]) := by decide +kernel
theorem vt11_305 : mm_fd mm_VT 11 305 = some (2, [(8, 60)]) := by decide +kernel
theorem vt11_309 : mm_fd mm_VT 11 309 = some (1, [(8, 62)]) := by decide +kernel
theorem vt11_312 : mm_fd mm_VT 11 312 = some (1, [(8, 64)]) := by decide +kernel
theorem vt11_316 : mm_fd mm_VT 11 316 = some (2, [(8, 63)]) := by decide +kernel
theorem vt11_348 : mm_fd mm_VT 11 348 = some (1, [(1, 22)]) := by decide +kernel
theorem vt11_351 : mm_fd mm_VT 11 351 = some (0, [(1, 24)]) := by decide +kernel
theorem vt11_354 : mm_fd mm_VT 11 354 = some (2, [(11, 123)]) := by decide +kernel
theorem vt12_169 : mm_fd mm_VT 12 169 = some (1, [(12, 129)]) := by decide +kernel
theorem vt12_173 : mm_fd mm_VT 12 173 = some (1, [(12, 130)]) := by decide +kernel
theorem vt12_177 : mm_fd mm_VT 12 177 = some (1, [(12, 156)]) := by decide +kernel
theorem vt12_180 : mm_fd mm_VT 12 180 = some (1, [(12, 157)]) := by decide +kernel
theorem vt12_190 : mm_fd mm_VT 12 190 = some (0, [(12, 139)]) := by decide +kernel
theorem vt12_197 : mm_fd mm_VT 12 197 = some (1, [(12, 141)]) := by decide +kernel
theorem vt12_203 : mm_fd mm_VT 12 203 = some (0, [(12, 142)]) := by decide +kernel
theorem vt12_206 : mm_fd mm_VT 12 206 = some (1, [(12, 144)]) := by decide +kernel
theorem vt12_215 : mm_fd mm_VT 12 215 = some (1, [(12, 148)]) := by decide +kernel
theorem vt12_218 : mm_fd mm_VT 12 218 = some (0, [(12, 145)]) := by decide +kernel
theorem vt12_222 : mm_fd mm_VT 12 222 = some (0, [(12, 146)]) := by decide +kernel
theorem vt12_225 : mm_fd mm_VT 12 225 = some (1, [(12, 147)]) := by decide +kernel
theorem vt12_228 : mm_fd mm_VT 12 228 = some (0, [(12, 143)]) := by decide +kernel
theorem vt12_231 : mm_fd mm_VT 12 231 = some (0, [(12, 149)]) := by decide +kernel
theorem vt12_234 : mm_fd mm_VT 12 234 = some (0, [(12, 150)]) := by decide +kernel
theorem vt12_240 : mm_fd mm_VT 12 240 = some (0, [(12, 151)]) := by decide +kernel
theorem vt12_243 : mm_fd mm_VT 12 243 = some (2, [(12, 153)]) := by decide +kernel
theorem vt12_247 : mm_fd mm_VT 12 247 = some (2, [(12, 154)]) := by decide +kernel
theorem vt12_251 : mm_fd mm_VT 12 251 = some (2, [(12, 155)]) := by decide +kernel
theorem vt12_254 : mm_fd mm_VT 12 254 = some (1, [(12, 158)]) := by decide +kernel
theorem vt12_263 : mm_fd mm_VT 12 263 = some (1, [(12, 161)]) := by decide +kernel
theorem vt12_266 : mm_fd mm_VT 12 266 = some (1, [(12, 160)]) := by decide +kernel
theorem vt12_269 : mm_fd mm_VT 12 269 = some (1, [(12, 162)]) := by decide +kernel
theorem vt12_272 : mm_fd mm_VT 12 272 = some (1, [(12, 165)]) := by decide +kernel
theorem vt12_275 : mm_fd mm_VT 12 275 = some (1, [(12, 163)]) := by decide +kernel
theorem vt12_278 : mm_fd mm_VT 12 278 = some (1, [(12, 164)]) := by decide +kernel
theorem vt12_281 : mm_fd mm_VT 12 281 = some (1, [(12, 166)]) := by decide +kernel
theorem vt12_290 : mm_fd mm_VT 12 290 = some (0, [(12, 168)]) := by decide +kernel
theorem vt12_293 : mm_fd mm_VT 12 293 = some (1, [(12, 169)]) := by decide +kernel
theorem vt12_311 : mm_fd mm_VT 12 311 = some (0, [(12, 171)]) := by decide +kernel
theorem vt12_314 : mm_fd mm_VT 12 314 = some (0, [(12, 173)]) := by decide +kernel
theorem vt12_317 : mm_fd mm_VT 12 317 = some (0, [(12, 172)]) := by decide +kernel
theorem vt12_320 : mm_fd mm_VT 12 320 = some (0, [(12, 174)]) := by decide +kernel
theorem vt12_326 : mm_fd mm_VT 12 326 = some (1, [(12, 178)]) := by decide +kernel
theorem vt12_336 : mm_fd mm_VT 12 336 = some (2, [(12, 185)]) := by decide +kernel
theorem vt12_347 : mm_fd mm_VT 12 347 = some (1, [(12, 188)]) := by decide +kernel
theorem vt12_350 : mm_fd mm_VT 12 350 = some (3, [(12, 190)]) := by decide +kernel
theorem vt12_360 : mm_fd mm_VT 12 360 = some (1, [(12, 189)]) := by decide +kernel
theorem vt12_368 : mm_fd mm_VT 12 368 = some (1, [(12, 194)]) := by decide +kernel
theorem vt12_389 : mm_fd mm_VT 12 389 = some (1, [(12, 198)]) := by decide +kernel
theorem vt12_395 : mm_fd mm_VT 12 395 = some (2, [(12, 200)]) := by decide +kernel
theorem vt12_401 : mm_fd mm_VT 12 401 = some (2, [(12, 201)]) := by decide +kernel
theorem vt12_404 : mm_fd mm_VT 12 404 = some (2, [(12, 202)]) := by decide +kernel
theorem vt13_335 : mm_fd mm_VT 13 335 = some (0, [(100, 217)]) := by decide +kernel
theorem vt13_492 : mm_fd mm_VT 13 492 = some (0, [(100, 218)]) := by decide +kernel
theorem vt13_505 : mm_fd mm_VT 13 505 = some (0, [(100, 212)]) := by decide +kernel
theorem vt13_633 : mm_fd mm_VT 13 633 = some (2, [(100, 216)]) := by decide +kernel
theorem vt17_13 : mm_fd mm_VT 17 13 = some (3, [(11, 73)]) := by decide +kernel
theorem vt17_17 : mm_fd mm_VT 17 17 = some (3, [(12, 131)]) := by decide +kernel
theorem vt17_18 : mm_fd mm_VT 17 18 = some (2, [(11, 74)]) := by decide +kernel
theorem vt17_22 : mm_fd mm_VT 17 22 = some (2, [(12, 132)]) := by decide +kernel
theorem vt17_23 : mm_fd mm_VT 17 23 = some (1, [(11, 75)]) := by decide +kernel
theorem vt17_27 : mm_fd mm_VT 17 27 = some (1, [(12, 133)]) := by decide +kernel
theorem vt17_28 : mm_fd mm_VT 17 28 = some (2, [(11, 76)]) := by decide +kernel
theorem vt17_31 : mm_fd mm_VT 17 31 = some (2, [(12, 134)]) := by decide +kernel
theorem vt17_32 : mm_fd mm_VT 17 32 = some (3, [(11, 77)]) := by decide +kernel
theorem vt17_35 : mm_fd mm_VT 17 35 = some (3, [(12, 135)]) := by decide +kernel
theorem vt17_36 : mm_fd mm_VT 17 36 = some (1, [(11, 78)]) := by decide +kernel
theorem vt17_39 : mm_fd mm_VT 17 39 = some (1, [(12, 136)]) := by decide +kernel
theorem vt17_40 : mm_fd mm_VT 17 40 = some (2, [(11, 79)]) := by decide +kernel
theorem vt17_43 : mm_fd mm_VT 17 43 = some (2, [(12, 137)]) := by decide +kernel
theorem vt17_44 : mm_fd mm_VT 17 44 = some (1, [(11, 80)]) := by decide +kernel
theorem vt17_47 : mm_fd mm_VT 17 47 = some (1, [(12, 138)]) := by decide +kernel
theorem vt17_48 : mm_fd mm_VT 17 48 = some (0, [(11, 81)]) := by decide +kernel
theorem vt17_52 : mm_fd mm_VT 17 52 = some (0, [(12, 152)]) := by decide +kernel
theorem vt17_53 : mm_fd mm_VT 17 53 = some (1, [(11, 82)]) := by decide +kernel
theorem vt17_56 : mm_fd mm_VT 17 56 = some (1, [(12, 159)]) := by decide +kernel
theorem vt17_57 : mm_fd mm_VT 17 57 = some (1, [(11, 83)]) := by decide +kernel
theorem vt17_60 : mm_fd mm_VT 17 60 = some (1, [(12, 167)]) := by decide +kernel
theorem vt17_61 : mm_fd mm_VT 17 61 = some (0, [(11, 84)]) := by decide +kernel
theorem vt17_64 : mm_fd mm_VT 17 64 = some (0, [(12, 170)]) := by decide +kernel
theorem vt17_65 : mm_fd mm_VT 17 65 = some (1, [(11, 85)]) := by decide +kernel
theorem vt17_68 : mm_fd mm_VT 17 68 = some (1, [(12, 175)]) := by decide +kernel
theorem vt17_69 : mm_fd mm_VT 17 69 = some (1, [(11, 86)]) := by decide +kernel
theorem vt17_72 : mm_fd mm_VT 17 72 = some (1, [(12, 176)]) := by decide +kernel
theorem vt17_73 : mm_fd mm_VT 17 73 = some (2, [(11, 87)]) := by decide +kernel
theorem vt17_76 : mm_fd mm_VT 17 76 = some (2, [(12, 179)]) := by decide +kernel
theorem vt17_77 : mm_fd mm_VT 17 77 = some (1, [(11, 88)]) := by decide +kernel
theorem vt17_80 : mm_fd mm_VT 17 80 = some (1, [(12, 180)]) := by decide +kernel
theorem vt17_81 : mm_fd mm_VT 17 81 = some (1, [(11, 89)]) := by decide +kernel
theorem vt17_85 : mm_fd mm_VT 17 85 = some (1, [(12, 182)]) := by decide +kernel
theorem vt17_86 : mm_fd mm_VT 17 86 = some (0, [(11, 90)]) := by decide +kernel
theorem vt17_89 : mm_fd mm_VT 17 89 = some (0, [(12, 183)]) := by decide +kernel
theorem vt17_90 : mm_fd mm_VT 17 90 = some (1, [(11, 91)]) := by decide +kernel
theorem vt17_93 : mm_fd mm_VT 17 93 = some (1, [(12, 184)]) := by decide +kernel
theorem vt17_94 : mm_fd mm_VT 17 94 = some (1, [(11, 92)]) := by decide +kernel
theorem vt17_97 : mm_fd mm_VT 17 97 = some (1, [(12, 186)]) := by decide +kernel
theorem vt17_98 : mm_fd mm_VT 17 98 = some (1, [(11, 93)]) := by decide +kernel
theorem vt17_101 : mm_fd mm_VT 17 101 = some (1, [(12, 187)]) := by decide +kernel
theorem vt17_102 : mm_fd mm_VT 17 102 = some (2, [(11, 94)]) := by decide +kernel
theorem vt17_106 : mm_fd mm_VT 17 106 = some (2, [(12, 191)]) := by decide +kernel
theorem vt17_107 : mm_fd mm_VT 17 107 = some (1, [(11, 95)]) := by decide +kernel
theorem vt17_110 : mm_fd mm_VT 17 110 = some (1, [(12, 192)]) := by decide +kernel
theorem vt17_111 : mm_fd mm_VT 17 111 = some (0, [(11, 96)]) := by decide +kernel
theorem vt17_114 : mm_fd mm_VT 17 114 = some (0, [(12, 193)]) := by decide +kernel
theorem vt17_115 : mm_fd mm_VT 17 115 = some (2, [(11, 97)]) := by decide +kernel
theorem vt17_118 : mm_fd mm_VT 17 118 = some (2, [(12, 195)]) := by decide +kernel
theorem vt17_119 : mm_fd mm_VT 17 119 = some (0, [(11, 98)]) := by decide +kernel
theorem vt17_122 : mm_fd mm_VT 17 122 = some (0, [(12, 196)]) := by decide +kernel
theorem vt17_123 : mm_fd mm_VT 17 123 = some (0, [(11, 99)]) := by decide +kernel
theorem vt17_126 : mm_fd mm_VT 17 126 = some (0, [(12, 197)]) := by decide +kernel
theorem vt17_127 : mm_fd mm_VT 17 127 = some (3, [(11, 100)]) := by decide +kernel
theorem vt17_130 : mm_fd mm_VT 17 130 = some (3, [(12, 203)]) := by decide +kernel
theorem vt17_131 : mm_fd mm_VT 17 131 = some (1, [(11, 101)]) := by decide +kernel
theorem vt17_134 : mm_fd mm_VT 17 134 = some (1, [(12, 204)]) := by decide +kernel
theorem vt17_135 : mm_fd mm_VT 17 135 = some (2, [(11, 102)]) := by decide +kernel
theorem vt17_138 : mm_fd mm_VT 17 138 = some (2, [(12, 205)]) := by decide +kernel
theorem vt17_139 : mm_fd mm_VT 17 139 = some (1, [(11, 103)]) := by decide +kernel
theorem vt17_142 : mm_fd mm_VT 17 142 = some (1, [(12, 206)]) := by decide +kernel
theorem vt17_143 : mm_fd mm_VT 17 143 = some (3, [(11, 104)]) := by decide +kernel
theorem vt17_146 : mm_fd mm_VT 17 146 = some (3, [(12, 207)]) := by decide +kernel
theorem vt17_149 : mm_fd mm_VT 17 149 = some (3, [(11, 105)]) := by decide +kernel
theorem vt17_153 : mm_fd mm_VT 17 153 = some (3, [(12, 209)]) := by decide +kernel
theorem vt17_154 : mm_fd mm_VT 17 154 = some (2, [(11, 106)]) := by decide +kernel
theorem vt17_157 : mm_fd mm_VT 17 157 = some (2, [(12, 210)]) := by decide +kernel
theorem vt17_158 : mm_fd mm_VT 17 158 = some (5, [(11, 107)]) := by decide +kernel
theorem vt17_162 : mm_fd mm_VT 17 162 = some (5, [(12, 211)]) := by decide +kernel
theorem sp2_3 : mm_fd mm_SP 2 3 = some (4, 0, 1) := by decide +kernel
theorem oin2_3 : mm_fd mm_OI 2 3 = none := by decide +kernel
theorem sp2_27 : mm_fd mm_SP 2 27 = some (1, 2, 2) := by decide +kernel
theorem oin2_27 : mm_fd mm_OI 2 27 = none := by decide +kernel
theorem sp2_35 : mm_fd mm_SP 2 35 = some (2, 5, 2) := by decide +kernel
theorem oin2_35 : mm_fd mm_OI 2 35 = none := by decide +kernel
theorem sp3_3 : mm_fd mm_SP 3 3 = some (4, 69, 1) := by decide +kernel
theorem oin3_3 : mm_fd mm_OI 3 3 = none := by decide +kernel
theorem sp3_27 : mm_fd mm_SP 3 27 = some (1, 70, 2) := by decide +kernel
theorem oin3_27 : mm_fd mm_OI 3 27 = none := by decide +kernel
theorem sp3_35 : mm_fd mm_SP 3 35 = some (2, 5, 2) := by decide +kernel
theorem oin3_35 : mm_fd mm_OI 3 35 = none := by decide +kernel
theorem sp4_3 : mm_fd mm_SP 4 3 = some (4, 0, 1) := by decide +kernel
theorem oin4_3 : mm_fd mm_OI 4 3 = none := by decide +kernel
theorem sp4_25 : mm_fd mm_SP 4 25 = some (2, 4, 2) := by decide +kernel
theorem oin4_25 : mm_fd mm_OI 4 25 = none := by decide +kernel
theorem sp7_3 : mm_fd mm_SP 7 3 = some (4, 31, 1) := by decide +kernel
theorem oin7_3 : mm_fd mm_OI 7 3 = none := by decide +kernel
theorem sp7_20 : mm_fd mm_SP 7 20 = some (1, 32, 2) := by decide +kernel
theorem oin7_20 : mm_fd mm_OI 7 20 = none := by decide +kernel
theorem sp7_28 : mm_fd mm_SP 7 28 = some (2, 3, 2) := by decide +kernel
theorem oin7_28 : mm_fd mm_OI 7 28 = none := by decide +kernel
theorem sp7_32 : mm_fd mm_SP 7 32 = some (2, 33, 2) := by decide +kernel
theorem oin7_32 : mm_fd mm_OI 7 32 = none := by decide +kernel
theorem sp9_3 : mm_fd mm_SP 9 3 = some (4, 25, 1) := by decide +kernel
theorem oin9_3 : mm_fd mm_OI 9 3 = none := by decide +kernel
theorem sp9_28 : mm_fd mm_SP 9 28 = some (1, 26, 2) := by decide +kernel
theorem oin9_28 : mm_fd mm_OI 9 28 = none := by decide +kernel
theorem sp9_36 : mm_fd mm_SP 9 36 = some (2, 4, 2) := by decide +kernel
theorem oin9_36 : mm_fd mm_OI 9 36 = none := by decide +kernel
theorem sp9_40 : mm_fd mm_SP 9 40 = some (2, 3, 2) := by decide +kernel
theorem oin9_40 : mm_fd mm_OI 9 40 = none := by decide +kernel
theorem sp10_3 : mm_fd mm_SP 10 3 = some (4, 0, 1) := by decide +kernel
theorem oin10_3 : mm_fd mm_OI 10 3 = none := by decide +kernel
theorem sp10_27 : mm_fd mm_SP 10 27 = some (1, 2, 2) := by decide +kernel
theorem oin10_27 : mm_fd mm_OI 10 27 = none := by decide +kernel
theorem sp10_35 : mm_fd mm_SP 10 35 = some (2, 3, 2) := by decide +kernel
theorem oin10_35 : mm_fd mm_OI 10 35 = none := by decide +kernel
theorem sp11_11 : mm_fd mm_SP 11 11 = some (0, 47, 1) := by decide +kernel
theorem oin11_11 : mm_fd mm_OI 11 11 = none := by decide +kernel
theorem sp11_14 : mm_fd mm_SP 11 14 = some (1, 6, 1) := by decide +kernel
theorem oin11_14 : mm_fd mm_OI 11 14 = none := by decide +kernel
theorem sp11_38 : mm_fd mm_SP 11 38 = some (0, 34, 3) := by decide +kernel
theorem oin11_38 : mm_fd mm_OI 11 38 = none := by decide +kernel
theorem sp11_49 : mm_fd mm_SP 11 49 = some (0, 59, 3) := by decide +kernel
theorem oin11_49 : mm_fd mm_OI 11 49 = none := by decide +kernel
theorem sp11_328 : mm_fd mm_SP 11 328 = some (4, 31, 1) := by decide +kernel
theorem oin11_328 : mm_fd mm_OI 11 328 = none := by decide +kernel
theorem sp11_333 : mm_fd mm_SP 11 333 = some (4, 69, 1) := by decide +kernel
theorem oin11_333 : mm_fd mm_OI 11 333 = none := by decide +kernel
theorem sp11_336 : mm_fd mm_SP 11 336 = some (4, 25, 1) := by decide +kernel
theorem oin11_336 : mm_fd mm_OI 11 336 = none := by decide +kernel
theorem sp11_339 : mm_fd mm_SP 11 339 = some (4, 55, 1) := by decide +kernel
theorem oin11_339 : mm_fd mm_OI 11 339 = none := by decide +kernel
theorem sp11_342 : mm_fd mm_SP 11 342 = some (4, 28, 1) := by decide +kernel
theorem oin11_342 : mm_fd mm_OI 11 342 = none := by decide +kernel
theorem sp11_345 : mm_fd mm_SP 11 345 = some (4, 65, 1) := by decide +kernel
theorem oin11_345 : mm_fd mm_OI 11 345 = none := by decide +kernel
theorem sp11_346 : mm_fd mm_SP 11 346 = some (4, 0, 1) := by decide +kernel
theorem oin11_346 : mm_fd mm_OI 11 346 = none := by decide +kernel
theorem sp17_9 : mm_fd mm_SP 17 9 = some (0, 72, 1) := by decide +kernel
theorem oin17_9 : mm_fd mm_OI 17 9 = none := by decide +kernel
theorem sp17_12 : mm_fd mm_SP 17 12 = some (0, 127, 1) := by decide +kernel
theorem oin17_12 : mm_fd mm_OI 17 12 = none := by decide +kernel
theorem oi0_3 : mm_fd mm_OI 0 3 = some () := by decide +kernel
theorem oi1_3 : mm_fd mm_OI 1 3 = some () := by decide +kernel
theorem oi5_1 : mm_fd mm_OI 5 1 = some () := by decide +kernel
theorem oi6_1 : mm_fd mm_OI 6 1 = some () := by decide +kernel
theorem oi8_1 : mm_fd mm_OI 8 1 = some () := by decide +kernel
theorem oi11_3 : mm_fd mm_OI 11 3 = some () := by decide +kernel
theorem oi12_3 : mm_fd mm_OI 12 3 = some () := by decide +kernel
theorem nw11_9 : mm_fd mm_NW 11 9 = some 6 := by decide +kernel
theorem nw11_12 : mm_fd mm_NW 11 12 = some 1 := by decide +kernel
theorem nw11_36 : mm_fd mm_NW 11 36 = some 5 := by decide +kernel
theorem nw11_43 : mm_fd mm_NW 11 43 = some 8 := by decide +kernel
theorem nw11_63 : mm_fd mm_NW 11 63 = some 0 := by decide +kernel
theorem nw11_326 : mm_fd mm_NW 11 326 = some 4 := by decide +kernel
theorem nw11_331 : mm_fd mm_NW 11 331 = some 10 := by decide +kernel
theorem nw11_334 : mm_fd mm_NW 11 334 = some 2 := by decide +kernel
theorem nw11_337 : mm_fd mm_NW 11 337 = some 7 := by decide +kernel
theorem nw11_340 : mm_fd mm_NW 11 340 = some 3 := by decide +kernel
theorem nw11_343 : mm_fd mm_NW 11 343 = some 9 := by decide +kernel
theorem nw17_7 : mm_fd mm_NW 17 7 = some 11 := by decide +kernel
theorem nw17_10 : mm_fd mm_NW 17 10 = some 12 := by decide +kernel
theorem an1_9 : mm_fd mm_AN 1 9 = some 16 := by decide +kernel
theorem an11_9 : mm_fd mm_AN 11 9 = some 17 := by decide +kernel
theorem an11_43 : mm_fd mm_AN 11 43 = some 18 := by decide +kernel
theorem io11_326 : mm_fd mm_IO 11 326 = some ("PennyMore$Plain", [4, 7]) := by decide +kernel
theorem io11_331 : mm_fd mm_IO 11 331 = some ("PennyMore$Waiting", [3, 10]) := by decide +kernel
theorem io11_334 : mm_fd mm_IO 11 334 = some ("PennyMore$Falling", [2, 9]) := by decide +kernel
theorem io11_337 : mm_fd mm_IO 11 337 = some ("PennyMore$Sure", [7]) := by decide +kernel
theorem io11_340 : mm_fd mm_IO 11 340 = some ("PennyMore$Late", [3]) := by decide +kernel
theorem io11_343 : mm_fd mm_IO 11 343 = some ("PennyMore$Told", [9]) := by decide +kernel
theorem lc5_33 : mm_fd mm_LC 5 33 = some (.ref 1000000) := rfl
theorem lc5_52 : mm_fd mm_LC 5 52 = some (.ref 1000002) := rfl
theorem lc5_54 : mm_fd mm_LC 5 54 = some (.ref 1000004) := rfl
theorem lc5_56 : mm_fd mm_LC 5 56 = some (.ref 1000006) := rfl
theorem lc5_58 : mm_fd mm_LC 5 58 = some (.ref 1000008) := rfl
theorem lc5_60 : mm_fd mm_LC 5 60 = some (.ref 1000010) := rfl
theorem lc5_62 : mm_fd mm_LC 5 62 = some (.ref 1000012) := rfl
theorem lc5_64 : mm_fd mm_LC 5 64 = some (.ref 1000014) := rfl
theorem lc5_76 : mm_fd mm_LC 5 76 = some (.ref 1000016) := rfl
theorem lc5_117 : mm_fd mm_LC 5 117 = some (.ref 1000018) := rfl
theorem lc5_119 : mm_fd mm_LC 5 119 = some (.ref 1000020) := rfl
theorem lc5_125 : mm_fd mm_LC 5 125 = some (.ref 1000022) := rfl
theorem lc11_123 : mm_fd mm_LC 11 123 = some (.int (-100001)) := rfl
theorem lc11_254 : mm_fd mm_LC 11 254 = some (.int (-100003)) := rfl
theorem lc12_183 : mm_fd mm_LC 12 183 = some (.int (-100001)) := rfl
theorem lc12_335 : mm_fd mm_LC 12 335 = some (.int (-100003)) := rfl
theorem l211_224 : mm_fd mm_L2 11 224 = some (-9223372036854775808) := by decide +kernel
theorem l212_329 : mm_fd mm_L2 12 329 = some (-9223372036854775808) := by decide +kernel
theorem l212_354 : mm_fd mm_L2 12 354 = some (10) := by decide +kernel
theorem l212_363 : mm_fd mm_L2 12 363 = some (1000000000000) := by decide +kernel
theorem l217_147 : mm_fd mm_L2 17 147 = some (4294967295) := by decide +kernel
abbrev u0 : mm_mT := (⟨"PennyMore$Buyer", "<init>", "(IIII)V"⟩, prog_2_method_1_code, 5, none, 0)
theorem t0 : mm_mt[0]? = some u0 := rfl
abbrev u1 : mm_mT := (⟨"PennyMore$Buyer", "note", "([II)V"⟩, prog_2_method_2_code, 2, none, 0)
theorem t1 : mm_mt[1]? = some u1 := rfl
abbrev u2 : mm_mT := (⟨"PennyMore$Buyer", "does", "(LPennyMore$Day;)I"⟩, prog_2_method_3_code, 2, some (Jvm.ClassFile.FieldType.int), 0)
theorem t2 : mm_mt[2]? = some u2 := rfl
abbrev u3 : mm_mT := (⟨"PennyMore$Buyer", "bids", "(I[I)I"⟩, prog_2_method_4_code, 3, some (Jvm.ClassFile.FieldType.int), 0)
theorem t3 : mm_mt[3]? = some u3 := rfl
abbrev u4 : mm_mT := (⟨"PennyMore$Buyer", "waits", "(I[I)I"⟩, prog_2_method_5_code, 3, some (Jvm.ClassFile.FieldType.int), 0)
theorem t4 : mm_mt[4]? = some u4 := rfl
abbrev u5 : mm_mT := (⟨"PennyMore$Buyer", "tells", "(I[I)I"⟩, prog_2_method_6_code, 3, some (Jvm.ClassFile.FieldType.int), 0)
theorem t5 : mm_mt[5]? = some u5 := rfl
abbrev u6 : mm_mT := (⟨"PennyMore$Day", "<init>", "(LPennyMore$Shop;)V"⟩, prog_3_method_1_code, 2, none, 1)
theorem t6 : mm_mt[6]? = some u6 := rfl
abbrev u7 : mm_mT := (⟨"PennyMore$Day", "copyOf", "(LPennyMore$Day;)V"⟩, prog_3_method_2_code, 3, none, 1)
theorem t7 : mm_mt[7]? = some u7 := rfl
abbrev u8 : mm_mT := (⟨"PennyMore$Day", "knows", "(I)Z"⟩, prog_3_method_3_code, 2, some (Jvm.ClassFile.FieldType.boolean), 1)
theorem t8 : mm_mt[8]? = some u8 := rfl
abbrev u9 : mm_mT := (⟨"PennyMore$Day", "welcome", "(LPennyMore$Buyer;)V"⟩, prog_3_method_4_code, 4, none, 1)
theorem t9 : mm_mt[9]? = some u9 := rfl
abbrev u10 : mm_mT := (⟨"PennyMore$Day", "open", "(LPennyMore$Shop;)V"⟩, prog_3_method_5_code, 2, none, 1)
theorem t10 : mm_mt[10]? = some u10 := rfl
abbrev u11 : mm_mT := (⟨"PennyMore$Day", "head", "()I"⟩, prog_3_method_6_code, 1, some (Jvm.ClassFile.FieldType.int), 1)
theorem t11 : mm_mt[11]? = some u11 := rfl
abbrev u12 : mm_mT := (⟨"PennyMore$Day", "placeOf", "(I)I"⟩, prog_3_method_7_code, 3, some (Jvm.ClassFile.FieldType.int), 1)
theorem t12 : mm_mt[12]? = some u12 := rfl
abbrev u13 : mm_mT := (⟨"PennyMore$Day", "stand", "(I)V"⟩, prog_3_method_8_code, 2, none, 1)
theorem t13 : mm_mt[13]? = some u13 := rfl
abbrev u14 : mm_mT := (⟨"PennyMore$Day", "leave", "(I)V"⟩, prog_3_method_9_code, 3, none, 1)
theorem t14 : mm_mt[14]? = some u14 := rfl
abbrev u15 : mm_mT := (⟨"PennyMore$Day", "putAhead", "(I)V"⟩, prog_3_method_10_code, 3, none, 1)
theorem t15 : mm_mt[15]? = some u15 := rfl
abbrev u16 : mm_mT := (⟨"PennyMore$Day", "mayGoAway", "(I)Z"⟩, prog_3_method_11_code, 2, some (Jvm.ClassFile.FieldType.boolean), 1)
theorem t16 : mm_mt[16]? = some u16 := rfl
abbrev u17 : mm_mT := (⟨"PennyMore$Day", "friendStands", "(I)Z"⟩, prog_3_method_12_code, 2, some (Jvm.ClassFile.FieldType.boolean), 1)
theorem t17 : mm_mt[17]? = some u17 := rfl
abbrev u18 : mm_mT := (⟨"PennyMore$Day", "gainOfYes", "()I"⟩, prog_3_method_13_code, 1, some (Jvm.ClassFile.FieldType.int), 1)
theorem t18 : mm_mt[18]? = some u18 := rfl
abbrev u19 : mm_mT := (⟨"PennyMore$Day", "weigh", "(I)V"⟩, prog_3_method_14_code, 2, none, 1)
theorem t19 : mm_mt[19]? = some u19 := rfl
abbrev u20 : mm_mT := (⟨"PennyMore$Day", "turnComes", "()Z"⟩, prog_3_method_15_code, 1, some (Jvm.ClassFile.FieldType.boolean), 1)
theorem t20 : mm_mt[20]? = some u20 := rfl
abbrev u21 : mm_mT := (⟨"PennyMore$Day", "turn", "()I"⟩, prog_3_method_16_code, 3, some (Jvm.ClassFile.FieldType.int), 1)
theorem t21 : mm_mt[21]? = some u21 := rfl
abbrev u22 : mm_mT := (⟨"PennyMore$Day", "carryOut", "(I)V"⟩, prog_3_method_17_code, 3, none, 1)
theorem t22 : mm_mt[22]? = some u22 := rfl
abbrev u23 : mm_mT := (⟨"PennyMore$Day", "toEnd", "()V"⟩, prog_3_method_18_code, 2, none, 1)
theorem t23 : mm_mt[23]? = some u23 := rfl
abbrev u24 : mm_mT := (⟨"PennyMore$Day", "gainedByAll", "()I"⟩, prog_3_method_19_code, 3, some (Jvm.ClassFile.FieldType.int), 1)
theorem t24 : mm_mt[24]? = some u24 := rfl
abbrev u25 : mm_mT := (⟨"PennyMore$Falling", "<init>", "(IIII)V"⟩, prog_4_method_1_code, 5, none, 2)
theorem t25 : mm_mt[25]? = some u25 := rfl
abbrev u26 : mm_mT := (⟨"PennyMore$Falling", "does", "(LPennyMore$Day;)I"⟩, prog_4_method_2_code, 2, some (Jvm.ClassFile.FieldType.int), 2)
theorem t26 : mm_mt[26]? = some u26 := rfl
abbrev u27 : mm_mT := (⟨"PennyMore$Falling", "tells", "(I[I)I"⟩, prog_4_method_3_code, 3, some (Jvm.ClassFile.FieldType.int), 2)
theorem t27 : mm_mt[27]? = some u27 := rfl
abbrev u28 : mm_mT := (⟨"PennyMore$Late", "<init>", "(IIII)V"⟩, prog_5_method_1_code, 5, none, 3)
theorem t28 : mm_mt[28]? = some u28 := rfl
abbrev u29 : mm_mT := (⟨"PennyMore$Late", "does", "(LPennyMore$Day;)I"⟩, prog_5_method_2_code, 2, some (Jvm.ClassFile.FieldType.int), 3)
theorem t29 : mm_mt[29]? = some u29 := rfl
abbrev u30 : mm_mT := (⟨"PennyMore$Late", "tells", "(I[I)I"⟩, prog_5_method_3_code, 3, some (Jvm.ClassFile.FieldType.int), 3)
theorem t30 : mm_mt[30]? = some u30 := rfl
abbrev u31 : mm_mT := (⟨"PennyMore$Plain", "<init>", "(IIII)V"⟩, prog_6_method_1_code, 5, none, 4)
theorem t31 : mm_mt[31]? = some u31 := rfl
abbrev u32 : mm_mT := (⟨"PennyMore$Plain", "does", "(LPennyMore$Day;)I"⟩, prog_6_method_2_code, 2, some (Jvm.ClassFile.FieldType.int), 4)
theorem t32 : mm_mt[32]? = some u32 := rfl
abbrev u33 : mm_mT := (⟨"PennyMore$Plain", "waits", "(I[I)I"⟩, prog_6_method_3_code, 3, some (Jvm.ClassFile.FieldType.int), 4)
theorem t33 : mm_mt[33]? = some u33 := rfl
abbrev u34 : mm_mT := (⟨"PennyMore$Reader", "<init>", "()V"⟩, prog_7_method_1_code, 1, none, 5)
theorem t34 : mm_mt[34]? = some u34 := rfl
abbrev u35 : mm_mT := (⟨"PennyMore$Reader", "add", "(I)Z"⟩, prog_7_method_2_code, 2, some (Jvm.ClassFile.FieldType.boolean), 5)
theorem t35 : mm_mt[35]? = some u35 := rfl
abbrev u36 : mm_mT := (⟨"PennyMore$Reader", "empty", "()V"⟩, prog_7_method_3_code, 1, none, 5)
theorem t36 : mm_mt[36]? = some u36 := rfl
abbrev u37 : mm_mT := (⟨"PennyMore$Reader", "readInto", "(LPennyMore$Shop;)I"⟩, prog_7_method_4_code, 3, some (Jvm.ClassFile.FieldType.int), 5)
theorem t37 : mm_mt[37]? = some u37 := rfl
abbrev u38 : mm_mT := (⟨"PennyMore$Reader", "next", "()I"⟩, prog_7_method_5_code, 1, some (Jvm.ClassFile.FieldType.int), 5)
theorem t38 : mm_mt[38]? = some u38 := rfl
abbrev u39 : mm_mT := (⟨"PennyMore$Reader", "word", "(Ljava/lang/String;)Z"⟩, prog_7_method_6_code, 3, some (Jvm.ClassFile.FieldType.boolean), 5)
theorem t39 : mm_mt[39]? = some u39 := rfl
abbrev u40 : mm_mT := (⟨"PennyMore$Reader", "wordOf", "(I)Ljava/lang/String;"⟩, prog_7_method_7_code, 1, some ((Jvm.ClassFile.FieldType.object "java/lang/String")), 5)
theorem t40 : mm_mt[40]? = some u40 := rfl
abbrev u41 : mm_mT := (⟨"PennyMore$Reader", "clause", "()Z"⟩, prog_7_method_8_code, 4, some (Jvm.ClassFile.FieldType.boolean), 5)
theorem t41 : mm_mt[41]? = some u41 := rfl
abbrev u42 : mm_mT := (⟨"PennyMore$Reader", "either", "(I)Z"⟩, prog_7_method_9_code, 2, some (Jvm.ClassFile.FieldType.boolean), 5)
theorem t42 : mm_mt[42]? = some u42 := rfl
abbrev u43 : mm_mT := (⟨"PennyMore$Reader", "both", "(I)Z"⟩, prog_7_method_10_code, 2, some (Jvm.ClassFile.FieldType.boolean), 5)
theorem t43 : mm_mt[43]? = some u43 := rfl
abbrev u44 : mm_mT := (⟨"PennyMore$Reader", "factor", "(I)Z"⟩, prog_7_method_11_code, 3, some (Jvm.ClassFile.FieldType.boolean), 5)
theorem t44 : mm_mt[44]? = some u44 := rfl
abbrev u45 : mm_mT := (⟨"PennyMore$Reader", "test", "()Z"⟩, prog_7_method_12_code, 4, some (Jvm.ClassFile.FieldType.boolean), 5)
theorem t45 : mm_mt[45]? = some u45 := rfl
abbrev u46 : mm_mT := (⟨"PennyMore$Reader", "number", "()I"⟩, prog_7_method_13_code, 3, some (Jvm.ClassFile.FieldType.int), 5)
theorem t46 : mm_mt[46]? = some u46 := rfl
abbrev u47 : mm_mT := (⟨"PennyMore$Shop", "<init>", "()V"⟩, prog_8_method_1_code, 1, none, 6)
theorem t47 : mm_mt[47]? = some u47 := rfl
abbrev u48 : mm_mT := (⟨"PennyMore$Shop", "clear", "()V"⟩, prog_8_method_2_code, 1, none, 6)
theorem t48 : mm_mt[48]? = some u48 := rfl
abbrev u49 : mm_mT := (⟨"PennyMore$Shop", "putCode", "(I)V"⟩, prog_8_method_3_code, 2, none, 6)
theorem t49 : mm_mt[49]? = some u49 := rfl
abbrev u50 : mm_mT := (⟨"PennyMore$Shop", "codeOf", "(III)I"⟩, prog_8_method_4_code, 3, some (Jvm.ClassFile.FieldType.int), 6)
theorem t50 : mm_mt[50]? = some u50 := rfl
abbrev u51 : mm_mT := (⟨"PennyMore$Shop", "putClause", "(II)V"⟩, prog_8_method_5_code, 3, none, 6)
theorem t51 : mm_mt[51]? = some u51 := rfl
abbrev u52 : mm_mT := (⟨"PennyMore$Shop", "sumOf", "(I[I)I"⟩, prog_8_method_6_code, 6, some (Jvm.ClassFile.FieldType.int), 6)
theorem t52 : mm_mt[52]? = some u52 := rfl
abbrev u53 : mm_mT := (⟨"PennyMore$Shop", "holds", "(II[I)Z"⟩, prog_8_method_7_code, 6, some (Jvm.ClassFile.FieldType.boolean), 6)
theorem t53 : mm_mt[53]? = some u53 := rfl
abbrev u54 : mm_mT := (⟨"PennyMore$Shop", "passes", "(I[I)Z"⟩, prog_8_method_8_code, 5, some (Jvm.ClassFile.FieldType.boolean), 6)
theorem t54 : mm_mt[54]? = some u54 := rfl
abbrev u55 : mm_mT := (⟨"PennyMore$Sure", "<init>", "(IIII)V"⟩, prog_9_method_1_code, 5, none, 7)
theorem t55 : mm_mt[55]? = some u55 := rfl
abbrev u56 : mm_mT := (⟨"PennyMore$Sure", "does", "(LPennyMore$Day;)I"⟩, prog_9_method_2_code, 2, some (Jvm.ClassFile.FieldType.int), 7)
theorem t56 : mm_mt[56]? = some u56 := rfl
abbrev u57 : mm_mT := (⟨"PennyMore$Sure", "bids", "(I[I)I"⟩, prog_9_method_3_code, 3, some (Jvm.ClassFile.FieldType.int), 7)
theorem t57 : mm_mt[57]? = some u57 := rfl
abbrev u58 : mm_mT := (⟨"PennyMore$Sure", "waits", "(I[I)I"⟩, prog_9_method_4_code, 3, some (Jvm.ClassFile.FieldType.int), 7)
theorem t58 : mm_mt[58]? = some u58 := rfl
abbrev u59 : mm_mT := (⟨"PennyMore$Tape", "<init>", "()V"⟩, prog_10_method_1_code, 1, none, 8)
theorem t59 : mm_mt[59]? = some u59 := rfl
abbrev u60 : mm_mT := (⟨"PennyMore$Tape", "become", "(II)V"⟩, prog_10_method_2_code, 4, none, 8)
theorem t60 : mm_mt[60]? = some u60 := rfl
abbrev u61 : mm_mT := (⟨"PennyMore$Tape", "holdsNothing", "()Z"⟩, prog_10_method_3_code, 1, some (Jvm.ClassFile.FieldType.boolean), 8)
theorem t61 : mm_mt[61]? = some u61 := rfl
abbrev u62 : mm_mT := (⟨"PennyMore$Tape", "hasPlace", "(I)Z"⟩, prog_10_method_4_code, 2, some (Jvm.ClassFile.FieldType.boolean), 8)
theorem t62 : mm_mt[62]? = some u62 := rfl
abbrev u63 : mm_mT := (⟨"PennyMore$Tape", "hasStretch", "(II)Z"⟩, prog_10_method_5_code, 3, some (Jvm.ClassFile.FieldType.boolean), 8)
theorem t63 : mm_mt[63]? = some u63 := rfl
abbrev u64 : mm_mT := (⟨"PennyMore$Tape", "narrowed", "(J)J"⟩, prog_10_method_6_code, 3, some (Jvm.ClassFile.FieldType.long), 8)
theorem t64 : mm_mt[64]? = some u64 := rfl
abbrev u65 : mm_mT := (⟨"PennyMore$Told", "<init>", "(IIII)V"⟩, prog_11_method_1_code, 5, none, 9)
theorem t65 : mm_mt[65]? = some u65 := rfl
abbrev u66 : mm_mT := (⟨"PennyMore$Told", "does", "(LPennyMore$Day;)I"⟩, prog_11_method_2_code, 4, some (Jvm.ClassFile.FieldType.int), 9)
theorem t66 : mm_mt[66]? = some u66 := rfl
abbrev u67 : mm_mT := (⟨"PennyMore$Told", "waits", "(I[I)I"⟩, prog_11_method_3_code, 3, some (Jvm.ClassFile.FieldType.int), 9)
theorem t67 : mm_mt[67]? = some u67 := rfl
abbrev u68 : mm_mT := (⟨"PennyMore$Told", "bids", "(I[I)I"⟩, prog_11_method_4_code, 3, some (Jvm.ClassFile.FieldType.int), 9)
theorem t68 : mm_mt[68]? = some u68 := rfl
abbrev u69 : mm_mT := (⟨"PennyMore$Waiting", "<init>", "(IIII)V"⟩, prog_12_method_1_code, 5, none, 10)
theorem t69 : mm_mt[69]? = some u69 := rfl
abbrev u70 : mm_mT := (⟨"PennyMore$Waiting", "does", "(LPennyMore$Day;)I"⟩, prog_12_method_2_code, 2, some (Jvm.ClassFile.FieldType.int), 10)
theorem t70 : mm_mt[70]? = some u70 := rfl
abbrev u71 : mm_mT := (⟨"PennyMore$Waiting", "bids", "(I[I)I"⟩, prog_12_method_3_code, 3, some (Jvm.ClassFile.FieldType.int), 10)
theorem t71 : mm_mt[71]? = some u71 := rfl
abbrev u72 : mm_mT := (⟨"PennyMore", "<init>", "()V"⟩, prog_1_method_1_code, 3, none, 11)
theorem t72 : mm_mt[72]? = some u72 := rfl
abbrev u73 : mm_mT := (⟨"PennyMore", "buyer", "(III)I"⟩, prog_1_method_2_code, 5, some (Jvm.ClassFile.FieldType.int), 11)
theorem t73 : mm_mt[73]? = some u73 := rfl
abbrev u74 : mm_mT := (⟨"PennyMore", "of", "(II)I"⟩, prog_1_method_3_code, 4, some (Jvm.ClassFile.FieldType.int), 11)
theorem t74 : mm_mt[74]? = some u74 := rfl
abbrev u75 : mm_mT := (⟨"PennyMore", "gained", "(I)I"⟩, prog_1_method_4_code, 2, some (Jvm.ClassFile.FieldType.int), 11)
theorem t75 : mm_mt[75]? = some u75 := rfl
abbrev u76 : mm_mT := (⟨"PennyMore", "friend", "(II)I"⟩, prog_1_method_5_code, 5, some (Jvm.ClassFile.FieldType.int), 11)
theorem t76 : mm_mt[76]? = some u76 := rfl
abbrev u77 : mm_mT := (⟨"PennyMore", "row", "(III)I"⟩, prog_1_method_6_code, 6, some (Jvm.ClassFile.FieldType.int), 11)
theorem t77 : mm_mt[77]? = some u77 := rfl
abbrev u78 : mm_mT := (⟨"PennyMore", "back", "(I)I"⟩, prog_1_method_7_code, 2, some (Jvm.ClassFile.FieldType.int), 11)
theorem t78 : mm_mt[78]? = some u78 := rfl
abbrev u79 : mm_mT := (⟨"PennyMore", "set", "(II)I"⟩, prog_1_method_8_code, 4, some (Jvm.ClassFile.FieldType.int), 11)
theorem t79 : mm_mt[79]? = some u79 := rfl
abbrev u80 : mm_mT := (⟨"PennyMore", "feed", "(I)I"⟩, prog_1_method_9_code, 2, some (Jvm.ClassFile.FieldType.int), 11)
theorem t80 : mm_mt[80]? = some u80 := rfl
abbrev u81 : mm_mT := (⟨"PennyMore", "shop", "()I"⟩, prog_1_method_10_code, 4, some (Jvm.ClassFile.FieldType.int), 11)
theorem t81 : mm_mt[81]? = some u81 := rfl
abbrev u82 : mm_mT := (⟨"PennyMore", "told", "(I)I"⟩, prog_1_method_11_code, 2, some (Jvm.ClassFile.FieldType.int), 11)
theorem t82 : mm_mt[82]? = some u82 := rfl
abbrev u83 : mm_mT := (⟨"PennyMore", "would", "(I)I"⟩, prog_1_method_12_code, 2, some (Jvm.ClassFile.FieldType.int), 11)
theorem t83 : mm_mt[83]? = some u83 := rfl
abbrev u84 : mm_mT := (⟨"PennyMore", "go", "()I"⟩, prog_1_method_13_code, 1, some (Jvm.ClassFile.FieldType.int), 11)
theorem t84 : mm_mt[84]? = some u84 := rfl
abbrev u85 : mm_mT := (⟨"PennyMore", "run", "(I)I"⟩, prog_1_method_14_code, 2, some (Jvm.ClassFile.FieldType.int), 11)
theorem t85 : mm_mt[85]? = some u85 := rfl
abbrev u86 : mm_mT := (⟨"PennyMore", "first", "(I)I"⟩, prog_1_method_15_code, 7, some (Jvm.ClassFile.FieldType.int), 11)
theorem t86 : mm_mt[86]? = some u86 := rfl
abbrev u87 : mm_mT := (⟨"PennyMore", "order", "(II)I"⟩, prog_1_method_16_code, 4, some (Jvm.ClassFile.FieldType.int), 11)
theorem t87 : mm_mt[87]? = some u87 := rfl
abbrev u88 : mm_mT := (⟨"PennyMore", "letBy", "(I)I"⟩, prog_1_method_17_code, 5, some (Jvm.ClassFile.FieldType.int), 11)
theorem t88 : mm_mt[88]? = some u88 := rfl
abbrev u89 : mm_mT := (⟨"PennyMore", "lot", "(I)J"⟩, prog_1_method_18_code, 8, some (Jvm.ClassFile.FieldType.long), 11)
theorem t89 : mm_mt[89]? = some u89 := rfl
abbrev u90 : mm_mT := (⟨"PennyMore", "fee", "()I"⟩, prog_1_method_19_code, 2, some (Jvm.ClassFile.FieldType.int), 11)
theorem t90 : mm_mt[90]? = some u90 := rfl
abbrev u91 : mm_mT := (⟨"PennyMore", "onePrice", "(I)I"⟩, prog_1_method_20_code, 6, some (Jvm.ClassFile.FieldType.int), 11)
theorem t91 : mm_mt[91]? = some u91 := rfl
abbrev u92 : mm_mT := (⟨"PennyMore", "aunt", "(I)I"⟩, prog_1_method_21_code, 6, some (Jvm.ClassFile.FieldType.int), 11)
theorem t92 : mm_mt[92]? = some u92 := rfl
abbrev u93 : mm_mT := (⟨"PennyMore", "slips", "(I)I"⟩, prog_1_method_22_code, 3, some (Jvm.ClassFile.FieldType.int), 11)
theorem t93 : mm_mt[93]? = some u93 := rfl
abbrev u94 : mm_mT := (⟨"PennyMore", "sure", "(II)J"⟩, prog_1_method_23_code, 12, some (Jvm.ClassFile.FieldType.long), 11)
theorem t94 : mm_mt[94]? = some u94 := rfl
abbrev u95 : mm_mT := (⟨"PennyMore", "film", "(I)I"⟩, prog_1_method_24_code, 2, some (Jvm.ClassFile.FieldType.int), 11)
theorem t95 : mm_mt[95]? = some u95 := rfl
abbrev u96 : mm_mT := (⟨"PennyMore", "off", "()I"⟩, prog_1_method_25_code, 2, some (Jvm.ClassFile.FieldType.int), 11)
theorem t96 : mm_mt[96]? = some u96 := rfl
abbrev u97 : mm_mT := (⟨"PennyMore", "judge", "(II)I"⟩, prog_1_method_26_code, 5, some (Jvm.ClassFile.FieldType.int), 11)
theorem t97 : mm_mt[97]? = some u97 := rfl
abbrev u98 : mm_mT := (⟨"PennyMore", "image", "()I"⟩, prog_1_method_27_code, 1, some (Jvm.ClassFile.FieldType.int), 11)
theorem t98 : mm_mt[98]? = some u98 := rfl
abbrev u99 : mm_mT := (⟨"PennyMore", "undo", "()I"⟩, prog_1_method_28_code, 1, some (Jvm.ClassFile.FieldType.int), 11)
theorem t99 : mm_mt[99]? = some u99 := rfl
abbrev u100 : mm_mT := (⟨"PennyMore", "act", "(III)I"⟩, prog_1_method_29_code, 4, some (Jvm.ClassFile.FieldType.int), 11)
theorem t100 : mm_mt[100]? = some u100 := rfl
abbrev u101 : mm_mT := (⟨"PennyMore", "trace", "(I)I"⟩, prog_1_method_30_code, 2, some (Jvm.ClassFile.FieldType.int), 11)
theorem t101 : mm_mt[101]? = some u101 := rfl
abbrev u102 : mm_mT := (⟨"PennyMore", "taken", "(II)I"⟩, prog_1_method_31_code, 4, some (Jvm.ClassFile.FieldType.int), 11)
theorem t102 : mm_mt[102]? = some u102 := rfl
abbrev u103 : mm_mT := (⟨"PennyMore", "count", "(I)I"⟩, prog_1_method_32_code, 2, some (Jvm.ClassFile.FieldType.int), 11)
theorem t103 : mm_mt[103]? = some u103 := rfl
abbrev u104 : mm_mT := (⟨"PennyMore", "tape", "(III)I"⟩, prog_1_method_33_code, 4, some (Jvm.ClassFile.FieldType.int), 11)
theorem t104 : mm_mt[104]? = some u104 := rfl
abbrev u105 : mm_mT := (⟨"PennyMore", "item", "(IIJ)I"⟩, prog_1_method_34_code, 6, some (Jvm.ClassFile.FieldType.int), 11)
theorem t105 : mm_mt[105]? = some u105 := rfl
abbrev u106 : mm_mT := (⟨"PennyMore", "read", "(II)J"⟩, prog_1_method_35_code, 3, some (Jvm.ClassFile.FieldType.long), 11)
theorem t106 : mm_mt[106]? = some u106 := rfl
abbrev u107 : mm_mT := (⟨"PennyMore", "shift", "(IIIII)I"⟩, prog_1_method_36_code, 8, some (Jvm.ClassFile.FieldType.int), 11)
theorem t107 : mm_mt[107]? = some u107 := rfl
abbrev u108 : mm_mT := (⟨"PennyMore", "orAbsent", "(I)I"⟩, prog_1_method_37_code, 1, some (Jvm.ClassFile.FieldType.int), 11)
theorem t108 : mm_mt[108]? = some u108 := rfl
abbrev u109 : mm_mT := (⟨"PennyMore", "isTape", "(I)Z"⟩, prog_1_method_38_code, 1, some (Jvm.ClassFile.FieldType.boolean), 11)
theorem t109 : mm_mt[109]? = some u109 := rfl
abbrev u110 : mm_mT := (⟨"PennyMore", "rowDigits", "(I)I"⟩, prog_1_method_39_code, 3, some (Jvm.ClassFile.FieldType.int), 11)
theorem t110 : mm_mt[110]? = some u110 := rfl
abbrev u111 : mm_mT := (⟨"PennyMore", "newBuyer", "(IIII)LPennyMore$Buyer;"⟩, prog_1_method_40_code, 4, some ((Jvm.ClassFile.FieldType.object "PennyMore$Buyer")), 11)
theorem t111 : mm_mt[111]? = some u111 := rfl
abbrev u112 : mm_mT := (⟨"PennyMore", "isOneOf", "(LPennyMore$Buyer;I)Z"⟩, prog_1_method_41_code, 2, some (Jvm.ClassFile.FieldType.boolean), 11)
theorem t112 : mm_mt[112]? = some u112 := rfl
abbrev u113 : mm_mT := (⟨"PennyMore", "runTrial", "()V"⟩, prog_1_method_42_code, 1, none, 11)
theorem t113 : mm_mt[113]? = some u113 := rfl
abbrev u114 : mm_mT := (⟨"PennyMore", "whoGetsLoaves", "()I"⟩, prog_1_method_43_code, 4, some (Jvm.ClassFile.FieldType.int), 11)
theorem t114 : mm_mt[114]? = some u114 := rfl
abbrev u115 : mm_mT := (⟨"PennyMore", "nobodyRefuses", "(I)Z"⟩, prog_1_method_44_code, 3, some (Jvm.ClassFile.FieldType.boolean), 11)
theorem t115 : mm_mt[115]? = some u115 := rfl
abbrev u116 : mm_mT := (⟨"PennyMore", "gainByFirst", "(III)I"⟩, prog_1_method_45_code, 4, some (Jvm.ClassFile.FieldType.int), 11)
theorem t116 : mm_mt[116]? = some u116 := rfl
abbrev u117 : mm_mT := (⟨"PennyMore", "bothLikeSwap", "(I)Z"⟩, prog_1_method_46_code, 6, some (Jvm.ClassFile.FieldType.boolean), 11)
theorem t117 : mm_mt[117]? = some u117 := rfl
abbrev u118 : mm_mT := (⟨"PennyMore", "takersAt", "(I)I"⟩, prog_1_method_47_code, 4, some (Jvm.ClassFile.FieldType.int), 11)
theorem t118 : mm_mt[118]? = some u118 := rfl
abbrev u119 : mm_mT := (⟨"PennyMore", "findBestLineup", "(I)I"⟩, prog_1_method_48_code, 6, some (Jvm.ClassFile.FieldType.int), 11)
theorem t119 : mm_mt[119]? = some u119 := rfl
abbrev u120 : mm_mT := (⟨"PennyMore", "startLineups", "()V"⟩, prog_1_method_49_code, 3, none, 11)
theorem t120 : mm_mt[120]? = some u120 := rfl
abbrev u121 : mm_mT := (⟨"PennyMore", "standAsLineup", "()V"⟩, prog_1_method_50_code, 1, none, 11)
theorem t121 : mm_mt[121]? = some u121 := rfl
abbrev u122 : mm_mT := (⟨"PennyMore", "nextLineup", "()Z"⟩, prog_1_method_51_code, 5, some (Jvm.ClassFile.FieldType.boolean), 11)
theorem t122 : mm_mt[122]? = some u122 := rfl
abbrev u123 : mm_mT := (⟨"PennyMore", "swapInLineup", "(II)V"⟩, prog_1_method_52_code, 4, none, 11)
theorem t123 : mm_mt[123]? = some u123 := rfl
abbrev u124 : mm_mT := (⟨"PennyMore", "weightOf", "(I)J"⟩, prog_1_method_53_code, 5, some (Jvm.ClassFile.FieldType.long), 11)
theorem t124 : mm_mt[124]? = some u124 := rfl
abbrev u125 : mm_mT := (⟨"PennyMore", "whoSaysYes", "(I)I"⟩, prog_1_method_54_code, 7, some (Jvm.ClassFile.FieldType.int), 11)
theorem t125 : mm_mt[125]? = some u125 := rfl
abbrev u126 : mm_mT := (⟨"PennyMore", "lowestTerms", "(JJI)J"⟩, prog_1_method_55_code, 12, some (Jvm.ClassFile.FieldType.long), 11)
theorem t126 : mm_mt[126]? = some u126 := rfl
abbrev u127 : mm_mT := (⟨"PennyMoreModel", "<init>", "()V"⟩, prog_14_method_1_code, 1, none, 12)
theorem t127 : mm_mt[127]? = some u127 := rfl
abbrev u128 : mm_mT := (⟨"PennyMoreModel", "in", "(III)Z"⟩, prog_14_method_3_code, 3, some (Jvm.ClassFile.FieldType.boolean), 12)
theorem t128 : mm_mt[128]? = some u128 := rfl
abbrev u129 : mm_mT := (⟨"PennyMoreModel", "isBuyer", "(I)Z"⟩, prog_14_method_4_code, 2, some (Jvm.ClassFile.FieldType.boolean), 12)
theorem t129 : mm_mt[129]? = some u129 := rfl
abbrev u130 : mm_mT := (⟨"PennyMoreModel", "placeOf", "(I)I"⟩, prog_14_method_5_code, 3, some (Jvm.ClassFile.FieldType.int), 12)
theorem t130 : mm_mt[130]? = some u130 := rfl
abbrev u131 : mm_mT := (⟨"PennyMoreModel", "buyer", "(III)I"⟩, prog_14_method_6_code, 5, some (Jvm.ClassFile.FieldType.int), 12)
theorem t131 : mm_mt[131]? = some u131 := rfl
abbrev u132 : mm_mT := (⟨"PennyMoreModel", "of", "(II)I"⟩, prog_14_method_7_code, 3, some (Jvm.ClassFile.FieldType.int), 12)
theorem t132 : mm_mt[132]? = some u132 := rfl
abbrev u133 : mm_mT := (⟨"PennyMoreModel", "gained", "(I)I"⟩, prog_14_method_8_code, 2, some (Jvm.ClassFile.FieldType.int), 12)
theorem t133 : mm_mt[133]? = some u133 := rfl
abbrev u134 : mm_mT := (⟨"PennyMoreModel", "friend", "(II)I"⟩, prog_14_method_9_code, 4, some (Jvm.ClassFile.FieldType.int), 12)
theorem t134 : mm_mt[134]? = some u134 := rfl
abbrev u135 : mm_mT := (⟨"PennyMoreModel", "row", "(III)I"⟩, prog_14_method_10_code, 5, some (Jvm.ClassFile.FieldType.int), 12)
theorem t135 : mm_mt[135]? = some u135 := rfl
abbrev u136 : mm_mT := (⟨"PennyMoreModel", "back", "(I)I"⟩, prog_14_method_11_code, 2, some (Jvm.ClassFile.FieldType.int), 12)
theorem t136 : mm_mt[136]? = some u136 := rfl
abbrev u137 : mm_mT := (⟨"PennyMoreModel", "set", "(II)I"⟩, prog_14_method_12_code, 4, some (Jvm.ClassFile.FieldType.int), 12)
theorem t137 : mm_mt[137]? = some u137 := rfl
abbrev u138 : mm_mT := (⟨"PennyMoreModel", "feed", "(I)I"⟩, prog_14_method_13_code, 2, some (Jvm.ClassFile.FieldType.int), 12)
theorem t138 : mm_mt[138]? = some u138 := rfl
abbrev u139 : mm_mT := (⟨"PennyMoreModel", "sign", "()I"⟩, prog_14_method_14_code, 1, some (Jvm.ClassFile.FieldType.int), 12)
theorem t139 : mm_mt[139]? = some u139 := rfl
abbrev u140 : mm_mT := (⟨"PennyMoreModel", "isFigure", "(I)Z"⟩, prog_14_method_15_code, 1, some (Jvm.ClassFile.FieldType.boolean), 12)
theorem t140 : mm_mt[140]? = some u140 := rfl
abbrev u141 : mm_mT := (⟨"PennyMoreModel", "goesBy", "(I)Z"⟩, prog_14_method_16_code, 2, some (Jvm.ClassFile.FieldType.boolean), 12)
theorem t141 : mm_mt[141]? = some u141 := rfl
abbrev u142 : mm_mT := (⟨"PennyMoreModel", "numberRead", "()I"⟩, prog_14_method_17_code, 2, some (Jvm.ClassFile.FieldType.int), 12)
theorem t142 : mm_mt[142]? = some u142 := rfl
abbrev u143 : mm_mT := (⟨"PennyMoreModel", "wordRead", "()I"⟩, prog_14_method_18_code, 3, some (Jvm.ClassFile.FieldType.int), 12)
theorem t143 : mm_mt[143]? = some u143 := rfl
abbrev u144 : mm_mT := (⟨"PennyMoreModel", "codes", "(I)V"⟩, prog_14_method_19_code, 2, none, 12)
theorem t144 : mm_mt[144]? = some u144 := rfl
abbrev u145 : mm_mT := (⟨"PennyMoreModel", "testRead", "()Z"⟩, prog_14_method_20_code, 4, some (Jvm.ClassFile.FieldType.boolean), 12)
theorem t145 : mm_mt[145]? = some u145 := rfl
abbrev u146 : mm_mT := (⟨"PennyMoreModel", "noMoreNots", "()V"⟩, prog_14_method_21_code, 1, none, 12)
theorem t146 : mm_mt[146]? = some u146 := rfl
abbrev u147 : mm_mT := (⟨"PennyMoreModel", "unwinds", "(I)V"⟩, prog_14_method_22_code, 2, none, 12)
theorem t147 : mm_mt[147]? = some u147 := rfl
abbrev u148 : mm_mT := (⟨"PennyMoreModel", "opens", "(I)Z"⟩, prog_14_method_23_code, 2, some (Jvm.ClassFile.FieldType.boolean), 12)
theorem t148 : mm_mt[148]? = some u148 := rfl
abbrev u149 : mm_mT := (⟨"PennyMoreModel", "eRead", "()Z"⟩, prog_14_method_24_code, 3, some (Jvm.ClassFile.FieldType.boolean), 12)
theorem t149 : mm_mt[149]? = some u149 := rfl
abbrev u150 : mm_mT := (⟨"PennyMoreModel", "clauseRead", "()Z"⟩, prog_14_method_25_code, 4, some (Jvm.ClassFile.FieldType.boolean), 12)
theorem t150 : mm_mt[150]? = some u150 := rfl
abbrev u151 : mm_mT := (⟨"PennyMoreModel", "shopRead", "()I"⟩, prog_14_method_26_code, 1, some (Jvm.ClassFile.FieldType.int), 12)
theorem t151 : mm_mt[151]? = some u151 := rfl
abbrev u152 : mm_mT := (⟨"PennyMoreModel", "shop", "()I"⟩, prog_14_method_27_code, 3, some (Jvm.ClassFile.FieldType.int), 12)
theorem t152 : mm_mt[152]? = some u152 := rfl
abbrev u153 : mm_mT := (⟨"PennyMoreModel", "testOf", "(II)I"⟩, prog_14_method_28_code, 3, some (Jvm.ClassFile.FieldType.int), 12)
theorem t153 : mm_mt[153]? = some u153 := rfl
abbrev u154 : mm_mT := (⟨"PennyMoreModel", "doesHold", "(II)Z"⟩, prog_14_method_29_code, 8, some (Jvm.ClassFile.FieldType.boolean), 12)
theorem t154 : mm_mt[154]? = some u154 := rfl
abbrev u155 : mm_mT := (⟨"PennyMoreModel", "sumOf", "(II)I"⟩, prog_14_method_30_code, 5, some (Jvm.ClassFile.FieldType.int), 12)
theorem t155 : mm_mt[155]? = some u155 := rfl
abbrev u156 : mm_mT := (⟨"PennyMoreModel", "valueOf", "(I)I"⟩, prog_14_method_31_code, 2, some (Jvm.ClassFile.FieldType.int), 12)
theorem t156 : mm_mt[156]? = some u156 := rfl
abbrev u157 : mm_mT := (⟨"PennyMoreModel", "costOf", "(I)I"⟩, prog_14_method_32_code, 2, some (Jvm.ClassFile.FieldType.int), 12)
theorem t157 : mm_mt[157]? = some u157 := rfl
abbrev u158 : mm_mT := (⟨"PennyMoreModel", "lawOf", "(I)I"⟩, prog_14_method_33_code, 4, some (Jvm.ClassFile.FieldType.int), 12)
theorem t158 : mm_mt[158]? = some u158 := rfl
abbrev u159 : mm_mT := (⟨"PennyMoreModel", "told", "(I)I"⟩, prog_14_method_34_code, 2, some (Jvm.ClassFile.FieldType.int), 12)
theorem t159 : mm_mt[159]? = some u159 := rfl
abbrev u160 : mm_mT := (⟨"PennyMoreModel", "mayAway", "(I)Z"⟩, prog_14_method_35_code, 2, some (Jvm.ClassFile.FieldType.boolean), 12)
theorem t160 : mm_mt[160]? = some u160 := rfl
abbrev u161 : mm_mT := (⟨"PennyMoreModel", "gainOf", "(I)I"⟩, prog_14_method_36_code, 2, some (Jvm.ClassFile.FieldType.int), 12)
theorem t161 : mm_mt[161]? = some u161 := rfl
abbrev u162 : mm_mT := (⟨"PennyMoreModel", "asBuyer", "(I)I"⟩, prog_14_method_37_code, 2, some (Jvm.ClassFile.FieldType.int), 12)
theorem t162 : mm_mt[162]? = some u162 := rfl
abbrev u163 : mm_mT := (⟨"PennyMoreModel", "asWaiting", "(I)I"⟩, prog_14_method_38_code, 2, some (Jvm.ClassFile.FieldType.int), 12)
theorem t163 : mm_mt[163]? = some u163 := rfl
abbrev u164 : mm_mT := (⟨"PennyMoreModel", "asFalling", "(I)I"⟩, prog_14_method_39_code, 3, some (Jvm.ClassFile.FieldType.int), 12)
theorem t164 : mm_mt[164]? = some u164 := rfl
abbrev u165 : mm_mT := (⟨"PennyMoreModel", "asPlain", "(I)I"⟩, prog_14_method_40_code, 2, some (Jvm.ClassFile.FieldType.int), 12)
theorem t165 : mm_mt[165]? = some u165 := rfl
abbrev u166 : mm_mT := (⟨"PennyMoreModel", "wouldBe", "(I)I"⟩, prog_14_method_41_code, 4, some (Jvm.ClassFile.FieldType.int), 12)
theorem t166 : mm_mt[166]? = some u166 := rfl
abbrev u167 : mm_mT := (⟨"PennyMoreModel", "would", "(I)I"⟩, prog_14_method_42_code, 2, some (Jvm.ClassFile.FieldType.int), 12)
theorem t167 : mm_mt[167]? = some u167 := rfl
abbrev u168 : mm_mT := (⟨"PennyMoreModel", "comes", "()Z"⟩, prog_14_method_43_code, 1, some (Jvm.ClassFile.FieldType.boolean), 12)
theorem t168 : mm_mt[168]? = some u168 := rfl
abbrev u169 : mm_mT := (⟨"PennyMoreModel", "does", "(I)V"⟩, prog_14_method_44_code, 9, none, 12)
theorem t169 : mm_mt[169]? = some u169 := rfl
abbrev u170 : mm_mT := (⟨"PennyMoreModel", "go", "()I"⟩, prog_14_method_45_code, 2, some (Jvm.ClassFile.FieldType.int), 12)
theorem t170 : mm_mt[170]? = some u170 := rfl
abbrev u171 : mm_mT := (⟨"PennyMoreModel", "keeps", "()V"⟩, prog_14_method_46_code, 2, none, 12)
theorem t171 : mm_mt[171]? = some u171 := rfl
abbrev u172 : mm_mT := (⟨"PennyMoreModel", "lays", "()V"⟩, prog_14_method_47_code, 2, none, 12)
theorem t172 : mm_mt[172]? = some u172 := rfl
abbrev u173 : mm_mT := (⟨"PennyMoreModel", "toTheEnd", "()V"⟩, prog_14_method_48_code, 1, none, 12)
theorem t173 : mm_mt[173]? = some u173 := rfl
abbrev u174 : mm_mT := (⟨"PennyMoreModel", "allGained", "()I"⟩, prog_14_method_49_code, 3, some (Jvm.ClassFile.FieldType.int), 12)
theorem t174 : mm_mt[174]? = some u174 := rfl
abbrev u175 : mm_mT := (⟨"PennyMoreModel", "run", "(I)I"⟩, prog_14_method_50_code, 4, some (Jvm.ClassFile.FieldType.int), 12)
theorem t175 : mm_mt[175]? = some u175 := rfl
abbrev u176 : mm_mT := (⟨"PennyMoreModel", "first", "(I)I"⟩, prog_14_method_51_code, 7, some (Jvm.ClassFile.FieldType.int), 12)
theorem t176 : mm_mt[176]? = some u176 := rfl
abbrev u177 : mm_mT := (⟨"PennyMoreModel", "orders", "(I)I"⟩, prog_14_method_52_code, 3, some (Jvm.ClassFile.FieldType.int), 12)
theorem t177 : mm_mt[177]? = some u177 := rfl
abbrev u178 : mm_mT := (⟨"PennyMoreModel", "stands", "(I)V"⟩, prog_14_method_53_code, 8, none, 12)
theorem t178 : mm_mt[178]? = some u178 := rfl
abbrev u179 : mm_mT := (⟨"PennyMoreModel", "order", "(II)I"⟩, prog_14_method_54_code, 7, some (Jvm.ClassFile.FieldType.int), 12)
theorem t179 : mm_mt[179]? = some u179 := rfl
abbrev u180 : mm_mT := (⟨"PennyMoreModel", "letBy", "(I)I"⟩, prog_14_method_55_code, 11, some (Jvm.ClassFile.FieldType.int), 12)
theorem t180 : mm_mt[180]? = some u180 := rfl
abbrev u181 : mm_mT := (⟨"PennyMoreModel", "lowest", "(JJI)J"⟩, prog_14_method_56_code, 11, some (Jvm.ClassFile.FieldType.long), 12)
theorem t181 : mm_mt[181]? = some u181 := rfl
abbrev u182 : mm_mT := (⟨"PennyMoreModel", "lot", "(I)J"⟩, prog_14_method_57_code, 5, some (Jvm.ClassFile.FieldType.long), 12)
theorem t182 : mm_mt[182]? = some u182 := rfl
abbrev u183 : mm_mT := (⟨"PennyMoreModel", "fee", "()I"⟩, prog_14_method_58_code, 3, some (Jvm.ClassFile.FieldType.int), 12)
theorem t183 : mm_mt[183]? = some u183 := rfl
abbrev u184 : mm_mT := (⟨"PennyMoreModel", "onePrice", "(I)I"⟩, prog_14_method_59_code, 7, some (Jvm.ClassFile.FieldType.int), 12)
theorem t184 : mm_mt[184]? = some u184 := rfl
abbrev u185 : mm_mT := (⟨"PennyMoreModel", "othersGain", "(IZ)I"⟩, prog_14_method_60_code, 5, some (Jvm.ClassFile.FieldType.int), 12)
theorem t185 : mm_mt[185]? = some u185 := rfl
abbrev u186 : mm_mT := (⟨"PennyMoreModel", "aunt", "(I)I"⟩, prog_14_method_61_code, 2, some (Jvm.ClassFile.FieldType.int), 12)
theorem t186 : mm_mt[186]? = some u186 := rfl
abbrev u187 : mm_mT := (⟨"PennyMoreModel", "slips", "(I)I"⟩, prog_14_method_62_code, 3, some (Jvm.ClassFile.FieldType.int), 12)
theorem t187 : mm_mt[187]? = some u187 := rfl
abbrev u188 : mm_mT := (⟨"PennyMoreModel", "keepsAt", "(I)V"⟩, prog_14_method_63_code, 3, none, 12)
theorem t188 : mm_mt[188]? = some u188 := rfl
abbrev u189 : mm_mT := (⟨"PennyMoreModel", "laysAt", "(I)V"⟩, prog_14_method_64_code, 3, none, 12)
theorem t189 : mm_mt[189]? = some u189 := rfl
abbrev u190 : mm_mT := (⟨"PennyMoreModel", "slipsOn", "(IIJ)V"⟩, prog_14_method_65_code, 8, none, 12)
theorem t190 : mm_mt[190]? = some u190 := rfl
abbrev u191 : mm_mT := (⟨"PennyMoreModel", "sure", "(II)J"⟩, prog_14_method_66_code, 3, some (Jvm.ClassFile.FieldType.long), 12)
theorem t191 : mm_mt[191]? = some u191 := rfl
abbrev u192 : mm_mT := (⟨"PennyMoreModel", "film", "(I)I"⟩, prog_14_method_67_code, 2, some (Jvm.ClassFile.FieldType.int), 12)
theorem t192 : mm_mt[192]? = some u192 := rfl
abbrev u193 : mm_mT := (⟨"PennyMoreModel", "off", "()I"⟩, prog_14_method_68_code, 4, some (Jvm.ClassFile.FieldType.int), 12)
theorem t193 : mm_mt[193]? = some u193 := rfl
abbrev u194 : mm_mT := (⟨"PennyMoreModel", "isTape", "(I)Z"⟩, prog_14_method_69_code, 2, some (Jvm.ClassFile.FieldType.boolean), 12)
theorem t194 : mm_mt[194]? = some u194 := rfl
abbrev u195 : mm_mT := (⟨"PennyMoreModel", "judge", "(II)I"⟩, prog_14_method_70_code, 5, some (Jvm.ClassFile.FieldType.int), 12)
theorem t195 : mm_mt[195]? = some u195 := rfl
abbrev u196 : mm_mT := (⟨"PennyMoreModel", "image", "()I"⟩, prog_14_method_71_code, 2, some (Jvm.ClassFile.FieldType.int), 12)
theorem t196 : mm_mt[196]? = some u196 := rfl
abbrev u197 : mm_mT := (⟨"PennyMoreModel", "undo", "()I"⟩, prog_14_method_72_code, 2, some (Jvm.ClassFile.FieldType.int), 12)
theorem t197 : mm_mt[197]? = some u197 := rfl
abbrev u198 : mm_mT := (⟨"PennyMoreModel", "runs", "(I)V"⟩, prog_14_method_73_code, 2, none, 12)
theorem t198 : mm_mt[198]? = some u198 := rfl
abbrev u199 : mm_mT := (⟨"PennyMoreModel", "above", "(I)I"⟩, prog_14_method_74_code, 1, some (Jvm.ClassFile.FieldType.int), 12)
theorem t199 : mm_mt[199]? = some u199 := rfl
abbrev u200 : mm_mT := (⟨"PennyMoreModel", "bids", "(II)I"⟩, prog_14_method_75_code, 3, some (Jvm.ClassFile.FieldType.int), 12)
theorem t200 : mm_mt[200]? = some u200 := rfl
abbrev u201 : mm_mT := (⟨"PennyMoreModel", "waitsIn", "(II)I"⟩, prog_14_method_76_code, 4, some (Jvm.ClassFile.FieldType.int), 12)
theorem t201 : mm_mt[201]? = some u201 := rfl
abbrev u202 : mm_mT := (⟨"PennyMoreModel", "tellsIn", "(II)I"⟩, prog_14_method_77_code, 4, some (Jvm.ClassFile.FieldType.int), 12)
theorem t202 : mm_mt[202]? = some u202 := rfl
abbrev u203 : mm_mT := (⟨"PennyMoreModel", "act", "(III)I"⟩, prog_14_method_78_code, 4, some (Jvm.ClassFile.FieldType.int), 12)
theorem t203 : mm_mt[203]? = some u203 := rfl
abbrev u204 : mm_mT := (⟨"PennyMoreModel", "trace", "(I)I"⟩, prog_14_method_79_code, 2, some (Jvm.ClassFile.FieldType.int), 12)
theorem t204 : mm_mt[204]? = some u204 := rfl
abbrev u205 : mm_mT := (⟨"PennyMoreModel", "taken", "(II)I"⟩, prog_14_method_80_code, 4, some (Jvm.ClassFile.FieldType.int), 12)
theorem t205 : mm_mt[205]? = some u205 := rfl
abbrev u206 : mm_mT := (⟨"PennyMoreModel", "count", "(I)I"⟩, prog_14_method_81_code, 2, some (Jvm.ClassFile.FieldType.int), 12)
theorem t206 : mm_mt[206]? = some u206 := rfl
abbrev u207 : mm_mT := (⟨"PennyMoreModel", "tape", "(III)I"⟩, prog_14_method_82_code, 5, some (Jvm.ClassFile.FieldType.int), 12)
theorem t207 : mm_mt[207]? = some u207 := rfl
abbrev u208 : mm_mT := (⟨"PennyMoreModel", "cut", "(IJ)J"⟩, prog_14_method_83_code, 3, some (Jvm.ClassFile.FieldType.long), 12)
theorem t208 : mm_mt[208]? = some u208 := rfl
abbrev u209 : mm_mT := (⟨"PennyMoreModel", "item", "(IIJ)I"⟩, prog_14_method_84_code, 5, some (Jvm.ClassFile.FieldType.int), 12)
theorem t209 : mm_mt[209]? = some u209 := rfl
abbrev u210 : mm_mT := (⟨"PennyMoreModel", "read", "(II)J"⟩, prog_14_method_85_code, 3, some (Jvm.ClassFile.FieldType.long), 12)
theorem t210 : mm_mt[210]? = some u210 := rfl
abbrev u211 : mm_mT := (⟨"PennyMoreModel", "shift", "(IIIII)I"⟩, prog_14_method_86_code, 7, some (Jvm.ClassFile.FieldType.int), 12)
theorem t211 : mm_mt[211]? = some u211 := rfl
abbrev u212 : mm_mT := (⟨"java/lang/String", "length", "()I"⟩, prog_17_method_54_code, 1, some (Jvm.ClassFile.FieldType.int), 13)
theorem t212 : mm_mt[212]? = some u212 := rfl
abbrev u213 : mm_mT := (⟨"java/lang/String", "isEmpty", "()Z"⟩, prog_17_method_55_code, 1, some (Jvm.ClassFile.FieldType.boolean), 13)
theorem t213 : mm_mt[213]? = some u213 := rfl
abbrev u214 : mm_mT := (⟨"java/lang/String", "charAt", "(I)C"⟩, prog_17_method_56_code, 2, some (Jvm.ClassFile.FieldType.char), 13)
theorem t214 : mm_mt[214]? = some u214 := rfl
abbrev u215 : mm_mT := (⟨"java/lang/String", "indexOf", "(I)I"⟩, prog_17_method_79_code, 2, some (Jvm.ClassFile.FieldType.int), 13)
theorem t215 : mm_mt[215]? = some u215 := rfl
abbrev u216 : mm_mT := (⟨"java/lang/String", "indexOf", "(II)I"⟩, prog_17_method_80_code, 3, some (Jvm.ClassFile.FieldType.int), 13)
theorem t216 : mm_mt[216]? = some u216 := rfl
abbrev u217 : mm_mT := (⟨"java/lang/String", "coder", "()B"⟩, prog_17_method_152_code, 1, some (Jvm.ClassFile.FieldType.byte), 13)
theorem t217 : mm_mt[217]? = some u217 := rfl
abbrev u218 : mm_mT := (⟨"java/lang/String", "isLatin1", "()Z"⟩, prog_17_method_154_code, 1, some (Jvm.ClassFile.FieldType.boolean), 13)
theorem t218 : mm_mt[218]? = some u218 := rfl
abbrev u219 : mm_mT := (⟨"java/lang/String", "checkIndex", "(II)V"⟩, prog_17_method_155_code, 2, none, 13)
theorem t219 : mm_mt[219]? = some u219 := rfl
abbrev u220 : mm_mT := (⟨"java/lang/StringLatin1", "charAt", "([BI)C"⟩, prog_18_method_2_code, 2, some (Jvm.ClassFile.FieldType.char), 14)
theorem t220 : mm_mt[220]? = some u220 := rfl
abbrev u221 : mm_mT := (⟨"java/lang/StringLatin1", "canEncode", "(I)Z"⟩, prog_18_method_4_code, 1, some (Jvm.ClassFile.FieldType.boolean), 14)
theorem t221 : mm_mt[221]? = some u221 := rfl
abbrev u222 : mm_mT := (⟨"java/lang/StringLatin1", "indexOf", "([BIII)I"⟩, prog_18_method_22_code, 4, some (Jvm.ClassFile.FieldType.int), 14)
theorem t222 : mm_mt[222]? = some u222 := rfl
abbrev u223 : mm_mT := (⟨"java/lang/StringLatin1", "indexOfChar", "([BIII)I"⟩, prog_18_method_23_code, 6, some (Jvm.ClassFile.FieldType.int), 14)
theorem t223 : mm_mt[223]? = some u223 := rfl
abbrev u224 : mm_mT := (⟨"jdk/internal/util/Preconditions", "checkIndex", "(IILjava/util/function/BiFunction;)I"⟩, prog_21_method_11_code, 3, some (Jvm.ClassFile.FieldType.int), 15)
theorem t224 : mm_mt[224]? = some u224 := rfl
abbrev u225 : mm_mT := (⟨"PennyMoreLaw", "law", "([I)Z"⟩, code, 4, some .boolean, 17)
theorem t225 : mm_mt[225]? = some u225 := rfl
