section WXS
variable {S : mm_S}
theorem wx_o0 (h : mm_W S) : mm_obj S 0 11 = true := wp_o h _ _ _ (by decide) rfl (by decide) rfl
theorem wx_k0 (h : mm_W S) : mm_rk S 0 = 11 := wp_k h _ _ (by decide) rfl (by decide)
theorem wx_q0 (h : mm_W S) : (decide (0 < mm_n S) && decide (mm_K S 0 < 13)) = true := wp_q h _ _ (by decide) rfl (by decide)
theorem wx_g0_0 (h : mm_W S) : mm_rg S 0 0 = 6 := wp_g h _ _ _ rfl
theorem wx_s0_0 (h : mm_W S) : (mm_R S 0 0).isSome = true := wp_s h _ _ _ rfl
theorem wx_g0_1 (h : mm_W S) : mm_rg S 0 1 = 15 := wp_g h _ _ _ rfl
theorem wx_s0_1 (h : mm_W S) : (mm_R S 0 1).isSome = true := wp_s h _ _ _ rfl
theorem wx_g0_2 (h : mm_W S) : mm_rg S 0 2 = 24 := wp_g h _ _ _ rfl
theorem wx_s0_2 (h : mm_W S) : (mm_R S 0 2).isSome = true := wp_s h _ _ _ rfl
theorem wx_g0_3 (h : mm_W S) : mm_rg S 0 3 = 33 := wp_g h _ _ _ rfl
theorem wx_s0_3 (h : mm_W S) : (mm_R S 0 3).isSome = true := wp_s h _ _ _ rfl
theorem wx_g0_4 (h : mm_W S) : mm_rg S 0 4 = 42 := wp_g h _ _ _ rfl
theorem wx_s0_4 (h : mm_W S) : (mm_R S 0 4).isSome = true := wp_s h _ _ _ rfl
theorem wx_N42 (h : mm_W S) : mm_N S 42 = 6 := wp_N h _ _ (by decide) rfl
theorem wx_a42 (h : mm_W S) : (mm_arr S 42 16 || mm_arr S 42 17 || mm_arr S 42 18) = true := by rw [wp_a h _ 17 (by decide) rfl]; simp
theorem wx_K42 (h : mm_W S) : mm_K S 42 = 17 := wp_K h _ _ (by decide) rfl
theorem wx_g0_5 (h : mm_W S) : mm_rg S 0 5 = 73 := wp_g h _ _ _ rfl
theorem wx_s0_5 (h : mm_W S) : (mm_R S 0 5).isSome = true := wp_s h _ _ _ rfl
theorem wx_g0_6 (h : mm_W S) : mm_rg S 0 6 = 75 := wp_g h _ _ _ rfl
theorem wx_s0_6 (h : mm_W S) : (mm_R S 0 6).isSome = true := wp_s h _ _ _ rfl
theorem wx_N75 (h : mm_W S) : mm_N S 75 = 6 := wp_N h _ _ (by decide) rfl
theorem wx_a75 (h : mm_W S) : (mm_arr S 75 16 || mm_arr S 75 17 || mm_arr S 75 18) = true := by rw [wp_a h _ 18 (by decide) rfl]; simp
theorem wx_K75 (h : mm_W S) : mm_K S 75 = 18 := wp_K h _ _ (by decide) rfl
theorem wx_g0_7 (h : mm_W S) : mm_rg S 0 7 = 88 := wp_g h _ _ _ rfl
theorem wx_s0_7 (h : mm_W S) : (mm_R S 0 7).isSome = true := wp_s h _ _ _ rfl
theorem wx_N88 (h : mm_W S) : mm_N S 88 = 21 := wp_N h _ _ (by decide) rfl
theorem wx_a88 (h : mm_W S) : mm_arr S 88 13 = true := wp_a h _ _ (by decide) rfl
theorem wx_g0_8 (h : mm_W S) : mm_rg S 0 8 = 89 := wp_g h _ _ _ rfl
theorem wx_s0_8 (h : mm_W S) : (mm_R S 0 8).isSome = true := wp_s h _ _ _ rfl
theorem wx_N89 (h : mm_W S) : mm_N S 89 = 6 := wp_N h _ _ (by decide) rfl
theorem wx_a89 (h : mm_W S) : mm_arr S 89 13 = true := wp_a h _ _ (by decide) rfl
theorem wx_g0_9 (h : mm_W S) : mm_rg S 0 9 = 90 := wp_g h _ _ _ rfl
theorem wx_s0_9 (h : mm_W S) : (mm_R S 0 9).isSome = true := wp_s h _ _ _ rfl
theorem wx_N90 (h : mm_W S) : mm_N S 90 = 6 := wp_N h _ _ (by decide) rfl
theorem wx_a90 (h : mm_W S) : mm_arr S 90 13 = true := wp_a h _ _ (by decide) rfl
theorem wx_g0_10 (h : mm_W S) : mm_rg S 0 10 = 91 := wp_g h _ _ _ rfl
theorem wx_s0_10 (h : mm_W S) : (mm_R S 0 10).isSome = true := wp_s h _ _ _ rfl
theorem wx_N91 (h : mm_W S) : mm_N S 91 = 6 := wp_N h _ _ (by decide) rfl
theorem wx_a91 (h : mm_W S) : mm_arr S 91 13 = true := wp_a h _ _ (by decide) rfl
theorem wx_o1 (h : mm_W S) : mm_obj S 1 6 = true := wp_o h _ _ _ (by decide) rfl (by decide) rfl
theorem wx_k1 (h : mm_W S) : mm_rk S 1 = 6 := wp_k h _ _ (by decide) rfl (by decide)
theorem wx_q1 (h : mm_W S) : (decide (1 < mm_n S) && decide (mm_K S 1 < 13)) = true := wp_q h _ _ (by decide) rfl (by decide)
theorem wx_g1_4 (h : mm_W S) : mm_rg S 1 4 = 2 := wp_g h _ _ _ rfl
theorem wx_s1_4 (h : mm_W S) : (mm_R S 1 4).isSome = true := wp_s h _ _ _ rfl
theorem wx_N2 (h : mm_W S) : mm_N S 2 = 10 := wp_N h _ _ (by decide) rfl
theorem wx_a2 (h : mm_W S) : mm_arr S 2 13 = true := wp_a h _ _ (by decide) rfl
theorem wx_g1_5 (h : mm_W S) : mm_rg S 1 5 = 3 := wp_g h _ _ _ rfl
theorem wx_s1_5 (h : mm_W S) : (mm_R S 1 5).isSome = true := wp_s h _ _ _ rfl
theorem wx_N3 (h : mm_W S) : mm_N S 3 = 10 := wp_N h _ _ (by decide) rfl
theorem wx_a3 (h : mm_W S) : mm_arr S 3 13 = true := wp_a h _ _ (by decide) rfl
theorem wx_g1_6 (h : mm_W S) : mm_rg S 1 6 = 4 := wp_g h _ _ _ rfl
theorem wx_s1_6 (h : mm_W S) : (mm_R S 1 6).isSome = true := wp_s h _ _ _ rfl
theorem wx_N4 (h : mm_W S) : mm_N S 4 = 10 := wp_N h _ _ (by decide) rfl
theorem wx_a4 (h : mm_W S) : mm_arr S 4 13 = true := wp_a h _ _ (by decide) rfl
theorem wx_g1_7 (h : mm_W S) : mm_rg S 1 7 = 5 := wp_g h _ _ _ rfl
theorem wx_s1_7 (h : mm_W S) : (mm_R S 1 7).isSome = true := wp_s h _ _ _ rfl
theorem wx_N5 (h : mm_W S) : mm_N S 5 = 100 := wp_N h _ _ (by decide) rfl
theorem wx_a5 (h : mm_W S) : mm_arr S 5 13 = true := wp_a h _ _ (by decide) rfl
theorem wx_o6 (h : mm_W S) : mm_obj S 6 1 = true := wp_o h _ _ _ (by decide) rfl (by decide) rfl
theorem wx_k6 (h : mm_W S) : mm_rk S 6 = 1 := wp_k h _ _ (by decide) rfl (by decide)
theorem wx_q6 (h : mm_W S) : (decide (6 < mm_n S) && decide (mm_K S 6 < 13)) = true := wp_q h _ _ (by decide) rfl (by decide)
theorem wx_g6_0 (h : mm_W S) : mm_rg S 6 0 = 7 := wp_g h _ _ _ rfl
theorem wx_s6_0 (h : mm_W S) : (mm_R S 6 0).isSome = true := wp_s h _ _ _ rfl
theorem wx_N7 (h : mm_W S) : mm_N S 7 = 6 := wp_N h _ _ (by decide) rfl
theorem wx_a7 (h : mm_W S) : (mm_arr S 7 16 || mm_arr S 7 17 || mm_arr S 7 18) = true := by rw [wp_a h _ 16 (by decide) rfl]; simp
theorem wx_K7 (h : mm_W S) : mm_K S 7 = 16 := wp_K h _ _ (by decide) rfl
theorem wx_g6_1 (h : mm_W S) : mm_rg S 6 1 = 8 := wp_g h _ _ _ rfl
theorem wx_s6_1 (h : mm_W S) : (mm_R S 6 1).isSome = true := wp_s h _ _ _ rfl
theorem wx_N8 (h : mm_W S) : mm_N S 8 = 6 := wp_N h _ _ (by decide) rfl
theorem wx_a8 (h : mm_W S) : mm_arr S 8 13 = true := wp_a h _ _ (by decide) rfl
theorem wx_g6_2 (h : mm_W S) : mm_rg S 6 2 = 9 := wp_g h _ _ _ rfl
theorem wx_s6_2 (h : mm_W S) : (mm_R S 6 2).isSome = true := wp_s h _ _ _ rfl
theorem wx_N9 (h : mm_W S) : mm_N S 9 = 18 := wp_N h _ _ (by decide) rfl
theorem wx_a9 (h : mm_W S) : mm_arr S 9 13 = true := wp_a h _ _ (by decide) rfl
theorem wx_g6_3 (h : mm_W S) : mm_rg S 6 3 = 10 := wp_g h _ _ _ rfl
theorem wx_s6_3 (h : mm_W S) : (mm_R S 6 3).isSome = true := wp_s h _ _ _ rfl
theorem wx_N10 (h : mm_W S) : mm_N S 10 = 6 := wp_N h _ _ (by decide) rfl
theorem wx_a10 (h : mm_W S) : mm_arr S 10 13 = true := wp_a h _ _ (by decide) rfl
theorem wx_g6_4 (h : mm_W S) : mm_rg S 6 4 = 11 := wp_g h _ _ _ rfl
theorem wx_s6_4 (h : mm_W S) : (mm_R S 6 4).isSome = true := wp_s h _ _ _ rfl
theorem wx_N11 (h : mm_W S) : mm_N S 11 = 6 := wp_N h _ _ (by decide) rfl
theorem wx_a11 (h : mm_W S) : mm_arr S 11 13 = true := wp_a h _ _ (by decide) rfl
theorem wx_g6_5 (h : mm_W S) : mm_rg S 6 5 = 12 := wp_g h _ _ _ rfl
theorem wx_s6_5 (h : mm_W S) : (mm_R S 6 5).isSome = true := wp_s h _ _ _ rfl
theorem wx_N12 (h : mm_W S) : mm_N S 12 = 6 := wp_N h _ _ (by decide) rfl
theorem wx_a12 (h : mm_W S) : mm_arr S 12 13 = true := wp_a h _ _ (by decide) rfl
theorem wx_g6_6 (h : mm_W S) : mm_rg S 6 6 = 13 := wp_g h _ _ _ rfl
theorem wx_s6_6 (h : mm_W S) : (mm_R S 6 6).isSome = true := wp_s h _ _ _ rfl
theorem wx_N13 (h : mm_W S) : mm_N S 13 = 12 := wp_N h _ _ (by decide) rfl
theorem wx_a13 (h : mm_W S) : mm_arr S 13 13 = true := wp_a h _ _ (by decide) rfl
theorem wx_g6_7 (h : mm_W S) : mm_rg S 6 7 = 14 := wp_g h _ _ _ rfl
theorem wx_s6_7 (h : mm_W S) : (mm_R S 6 7).isSome = true := wp_s h _ _ _ rfl
theorem wx_N14 (h : mm_W S) : mm_N S 14 = 7 := wp_N h _ _ (by decide) rfl
theorem wx_a14 (h : mm_W S) : mm_arr S 14 13 = true := wp_a h _ _ (by decide) rfl
theorem wx_o15 (h : mm_W S) : mm_obj S 15 1 = true := wp_o h _ _ _ (by decide) rfl (by decide) rfl
theorem wx_k15 (h : mm_W S) : mm_rk S 15 = 1 := wp_k h _ _ (by decide) rfl (by decide)
theorem wx_q15 (h : mm_W S) : (decide (15 < mm_n S) && decide (mm_K S 15 < 13)) = true := wp_q h _ _ (by decide) rfl (by decide)
theorem wx_g15_0 (h : mm_W S) : mm_rg S 15 0 = 16 := wp_g h _ _ _ rfl
theorem wx_s15_0 (h : mm_W S) : (mm_R S 15 0).isSome = true := wp_s h _ _ _ rfl
theorem wx_N16 (h : mm_W S) : mm_N S 16 = 6 := wp_N h _ _ (by decide) rfl
theorem wx_a16 (h : mm_W S) : (mm_arr S 16 16 || mm_arr S 16 17 || mm_arr S 16 18) = true := by rw [wp_a h _ 16 (by decide) rfl]; simp
theorem wx_K16 (h : mm_W S) : mm_K S 16 = 16 := wp_K h _ _ (by decide) rfl
theorem wx_g15_1 (h : mm_W S) : mm_rg S 15 1 = 17 := wp_g h _ _ _ rfl
theorem wx_s15_1 (h : mm_W S) : (mm_R S 15 1).isSome = true := wp_s h _ _ _ rfl
theorem wx_N17 (h : mm_W S) : mm_N S 17 = 6 := wp_N h _ _ (by decide) rfl
theorem wx_a17 (h : mm_W S) : mm_arr S 17 13 = true := wp_a h _ _ (by decide) rfl
theorem wx_g15_2 (h : mm_W S) : mm_rg S 15 2 = 18 := wp_g h _ _ _ rfl
theorem wx_s15_2 (h : mm_W S) : (mm_R S 15 2).isSome = true := wp_s h _ _ _ rfl
theorem wx_N18 (h : mm_W S) : mm_N S 18 = 18 := wp_N h _ _ (by decide) rfl
theorem wx_a18 (h : mm_W S) : mm_arr S 18 13 = true := wp_a h _ _ (by decide) rfl
theorem wx_g15_3 (h : mm_W S) : mm_rg S 15 3 = 19 := wp_g h _ _ _ rfl
theorem wx_s15_3 (h : mm_W S) : (mm_R S 15 3).isSome = true := wp_s h _ _ _ rfl
theorem wx_N19 (h : mm_W S) : mm_N S 19 = 6 := wp_N h _ _ (by decide) rfl
theorem wx_a19 (h : mm_W S) : mm_arr S 19 13 = true := wp_a h _ _ (by decide) rfl
theorem wx_g15_4 (h : mm_W S) : mm_rg S 15 4 = 20 := wp_g h _ _ _ rfl
theorem wx_s15_4 (h : mm_W S) : (mm_R S 15 4).isSome = true := wp_s h _ _ _ rfl
theorem wx_N20 (h : mm_W S) : mm_N S 20 = 6 := wp_N h _ _ (by decide) rfl
theorem wx_a20 (h : mm_W S) : mm_arr S 20 13 = true := wp_a h _ _ (by decide) rfl
theorem wx_g15_5 (h : mm_W S) : mm_rg S 15 5 = 21 := wp_g h _ _ _ rfl
theorem wx_s15_5 (h : mm_W S) : (mm_R S 15 5).isSome = true := wp_s h _ _ _ rfl
theorem wx_N21 (h : mm_W S) : mm_N S 21 = 6 := wp_N h _ _ (by decide) rfl
theorem wx_a21 (h : mm_W S) : mm_arr S 21 13 = true := wp_a h _ _ (by decide) rfl
theorem wx_g15_6 (h : mm_W S) : mm_rg S 15 6 = 22 := wp_g h _ _ _ rfl
theorem wx_s15_6 (h : mm_W S) : (mm_R S 15 6).isSome = true := wp_s h _ _ _ rfl
theorem wx_N22 (h : mm_W S) : mm_N S 22 = 12 := wp_N h _ _ (by decide) rfl
theorem wx_a22 (h : mm_W S) : mm_arr S 22 13 = true := wp_a h _ _ (by decide) rfl
theorem wx_g15_7 (h : mm_W S) : mm_rg S 15 7 = 23 := wp_g h _ _ _ rfl
theorem wx_s15_7 (h : mm_W S) : (mm_R S 15 7).isSome = true := wp_s h _ _ _ rfl
theorem wx_N23 (h : mm_W S) : mm_N S 23 = 7 := wp_N h _ _ (by decide) rfl
theorem wx_a23 (h : mm_W S) : mm_arr S 23 13 = true := wp_a h _ _ (by decide) rfl
theorem wx_o24 (h : mm_W S) : mm_obj S 24 1 = true := wp_o h _ _ _ (by decide) rfl (by decide) rfl
theorem wx_k24 (h : mm_W S) : mm_rk S 24 = 1 := wp_k h _ _ (by decide) rfl (by decide)
theorem wx_q24 (h : mm_W S) : (decide (24 < mm_n S) && decide (mm_K S 24 < 13)) = true := wp_q h _ _ (by decide) rfl (by decide)
theorem wx_g24_0 (h : mm_W S) : mm_rg S 24 0 = 25 := wp_g h _ _ _ rfl
theorem wx_s24_0 (h : mm_W S) : (mm_R S 24 0).isSome = true := wp_s h _ _ _ rfl
theorem wx_N25 (h : mm_W S) : mm_N S 25 = 6 := wp_N h _ _ (by decide) rfl
theorem wx_a25 (h : mm_W S) : (mm_arr S 25 16 || mm_arr S 25 17 || mm_arr S 25 18) = true := by rw [wp_a h _ 16 (by decide) rfl]; simp
theorem wx_K25 (h : mm_W S) : mm_K S 25 = 16 := wp_K h _ _ (by decide) rfl
theorem wx_g24_1 (h : mm_W S) : mm_rg S 24 1 = 26 := wp_g h _ _ _ rfl
theorem wx_s24_1 (h : mm_W S) : (mm_R S 24 1).isSome = true := wp_s h _ _ _ rfl
theorem wx_N26 (h : mm_W S) : mm_N S 26 = 6 := wp_N h _ _ (by decide) rfl
theorem wx_a26 (h : mm_W S) : mm_arr S 26 13 = true := wp_a h _ _ (by decide) rfl
theorem wx_g24_2 (h : mm_W S) : mm_rg S 24 2 = 27 := wp_g h _ _ _ rfl
theorem wx_s24_2 (h : mm_W S) : (mm_R S 24 2).isSome = true := wp_s h _ _ _ rfl
theorem wx_N27 (h : mm_W S) : mm_N S 27 = 18 := wp_N h _ _ (by decide) rfl
theorem wx_a27 (h : mm_W S) : mm_arr S 27 13 = true := wp_a h _ _ (by decide) rfl
theorem wx_g24_3 (h : mm_W S) : mm_rg S 24 3 = 28 := wp_g h _ _ _ rfl
theorem wx_s24_3 (h : mm_W S) : (mm_R S 24 3).isSome = true := wp_s h _ _ _ rfl
theorem wx_N28 (h : mm_W S) : mm_N S 28 = 6 := wp_N h _ _ (by decide) rfl
theorem wx_a28 (h : mm_W S) : mm_arr S 28 13 = true := wp_a h _ _ (by decide) rfl
theorem wx_g24_4 (h : mm_W S) : mm_rg S 24 4 = 29 := wp_g h _ _ _ rfl
theorem wx_s24_4 (h : mm_W S) : (mm_R S 24 4).isSome = true := wp_s h _ _ _ rfl
theorem wx_N29 (h : mm_W S) : mm_N S 29 = 6 := wp_N h _ _ (by decide) rfl
theorem wx_a29 (h : mm_W S) : mm_arr S 29 13 = true := wp_a h _ _ (by decide) rfl
theorem wx_g24_5 (h : mm_W S) : mm_rg S 24 5 = 30 := wp_g h _ _ _ rfl
theorem wx_s24_5 (h : mm_W S) : (mm_R S 24 5).isSome = true := wp_s h _ _ _ rfl
theorem wx_N30 (h : mm_W S) : mm_N S 30 = 6 := wp_N h _ _ (by decide) rfl
theorem wx_a30 (h : mm_W S) : mm_arr S 30 13 = true := wp_a h _ _ (by decide) rfl
theorem wx_g24_6 (h : mm_W S) : mm_rg S 24 6 = 31 := wp_g h _ _ _ rfl
theorem wx_s24_6 (h : mm_W S) : (mm_R S 24 6).isSome = true := wp_s h _ _ _ rfl
theorem wx_N31 (h : mm_W S) : mm_N S 31 = 12 := wp_N h _ _ (by decide) rfl
theorem wx_a31 (h : mm_W S) : mm_arr S 31 13 = true := wp_a h _ _ (by decide) rfl
theorem wx_g24_7 (h : mm_W S) : mm_rg S 24 7 = 32 := wp_g h _ _ _ rfl
theorem wx_s24_7 (h : mm_W S) : (mm_R S 24 7).isSome = true := wp_s h _ _ _ rfl
theorem wx_N32 (h : mm_W S) : mm_N S 32 = 7 := wp_N h _ _ (by decide) rfl
theorem wx_a32 (h : mm_W S) : mm_arr S 32 13 = true := wp_a h _ _ (by decide) rfl
theorem wx_o33 (h : mm_W S) : mm_obj S 33 1 = true := wp_o h _ _ _ (by decide) rfl (by decide) rfl
theorem wx_k33 (h : mm_W S) : mm_rk S 33 = 1 := wp_k h _ _ (by decide) rfl (by decide)
theorem wx_q33 (h : mm_W S) : (decide (33 < mm_n S) && decide (mm_K S 33 < 13)) = true := wp_q h _ _ (by decide) rfl (by decide)
theorem wx_g33_0 (h : mm_W S) : mm_rg S 33 0 = 34 := wp_g h _ _ _ rfl
theorem wx_s33_0 (h : mm_W S) : (mm_R S 33 0).isSome = true := wp_s h _ _ _ rfl
theorem wx_N34 (h : mm_W S) : mm_N S 34 = 6 := wp_N h _ _ (by decide) rfl
theorem wx_a34 (h : mm_W S) : (mm_arr S 34 16 || mm_arr S 34 17 || mm_arr S 34 18) = true := by rw [wp_a h _ 16 (by decide) rfl]; simp
theorem wx_K34 (h : mm_W S) : mm_K S 34 = 16 := wp_K h _ _ (by decide) rfl
theorem wx_g33_1 (h : mm_W S) : mm_rg S 33 1 = 35 := wp_g h _ _ _ rfl
theorem wx_s33_1 (h : mm_W S) : (mm_R S 33 1).isSome = true := wp_s h _ _ _ rfl
theorem wx_N35 (h : mm_W S) : mm_N S 35 = 6 := wp_N h _ _ (by decide) rfl
theorem wx_a35 (h : mm_W S) : mm_arr S 35 13 = true := wp_a h _ _ (by decide) rfl
theorem wx_g33_2 (h : mm_W S) : mm_rg S 33 2 = 36 := wp_g h _ _ _ rfl
theorem wx_s33_2 (h : mm_W S) : (mm_R S 33 2).isSome = true := wp_s h _ _ _ rfl
theorem wx_N36 (h : mm_W S) : mm_N S 36 = 18 := wp_N h _ _ (by decide) rfl
theorem wx_a36 (h : mm_W S) : mm_arr S 36 13 = true := wp_a h _ _ (by decide) rfl
theorem wx_g33_3 (h : mm_W S) : mm_rg S 33 3 = 37 := wp_g h _ _ _ rfl
theorem wx_s33_3 (h : mm_W S) : (mm_R S 33 3).isSome = true := wp_s h _ _ _ rfl
theorem wx_N37 (h : mm_W S) : mm_N S 37 = 6 := wp_N h _ _ (by decide) rfl
theorem wx_a37 (h : mm_W S) : mm_arr S 37 13 = true := wp_a h _ _ (by decide) rfl
theorem wx_g33_4 (h : mm_W S) : mm_rg S 33 4 = 38 := wp_g h _ _ _ rfl
theorem wx_s33_4 (h : mm_W S) : (mm_R S 33 4).isSome = true := wp_s h _ _ _ rfl
theorem wx_N38 (h : mm_W S) : mm_N S 38 = 6 := wp_N h _ _ (by decide) rfl
theorem wx_a38 (h : mm_W S) : mm_arr S 38 13 = true := wp_a h _ _ (by decide) rfl
theorem wx_g33_5 (h : mm_W S) : mm_rg S 33 5 = 39 := wp_g h _ _ _ rfl
theorem wx_s33_5 (h : mm_W S) : (mm_R S 33 5).isSome = true := wp_s h _ _ _ rfl
theorem wx_N39 (h : mm_W S) : mm_N S 39 = 6 := wp_N h _ _ (by decide) rfl
theorem wx_a39 (h : mm_W S) : mm_arr S 39 13 = true := wp_a h _ _ (by decide) rfl
theorem wx_g33_6 (h : mm_W S) : mm_rg S 33 6 = 40 := wp_g h _ _ _ rfl
theorem wx_s33_6 (h : mm_W S) : (mm_R S 33 6).isSome = true := wp_s h _ _ _ rfl
theorem wx_N40 (h : mm_W S) : mm_N S 40 = 12 := wp_N h _ _ (by decide) rfl
theorem wx_a40 (h : mm_W S) : mm_arr S 40 13 = true := wp_a h _ _ (by decide) rfl
theorem wx_g33_7 (h : mm_W S) : mm_rg S 33 7 = 41 := wp_g h _ _ _ rfl
theorem wx_s33_7 (h : mm_W S) : (mm_R S 33 7).isSome = true := wp_s h _ _ _ rfl
theorem wx_N41 (h : mm_W S) : mm_N S 41 = 7 := wp_N h _ _ (by decide) rfl
theorem wx_a41 (h : mm_W S) : mm_arr S 41 13 = true := wp_a h _ _ (by decide) rfl
theorem wx_g42_0 (h : mm_W S) : mm_rg S 42 0 = 43 := wp_g h _ _ _ rfl
theorem wx_s42_0 (h : mm_W S) : (mm_R S 42 0).isSome = true := wp_s h _ _ _ rfl
theorem wx_g42_1 (h : mm_W S) : mm_rg S 42 1 = 48 := wp_g h _ _ _ rfl
theorem wx_s42_1 (h : mm_W S) : (mm_R S 42 1).isSome = true := wp_s h _ _ _ rfl
theorem wx_g42_2 (h : mm_W S) : mm_rg S 42 2 = 53 := wp_g h _ _ _ rfl
theorem wx_s42_2 (h : mm_W S) : (mm_R S 42 2).isSome = true := wp_s h _ _ _ rfl
theorem wx_g42_3 (h : mm_W S) : mm_rg S 42 3 = 58 := wp_g h _ _ _ rfl
theorem wx_s42_3 (h : mm_W S) : (mm_R S 42 3).isSome = true := wp_s h _ _ _ rfl
theorem wx_g42_4 (h : mm_W S) : mm_rg S 42 4 = 63 := wp_g h _ _ _ rfl
theorem wx_s42_4 (h : mm_W S) : (mm_R S 42 4).isSome = true := wp_s h _ _ _ rfl
theorem wx_g42_5 (h : mm_W S) : mm_rg S 42 5 = 68 := wp_g h _ _ _ rfl
theorem wx_s42_5 (h : mm_W S) : (mm_R S 42 5).isSome = true := wp_s h _ _ _ rfl
theorem wx_o73 (h : mm_W S) : mm_obj S 73 5 = true := wp_o h _ _ _ (by decide) rfl (by decide) rfl
theorem wx_k73 (h : mm_W S) : mm_rk S 73 = 5 := wp_k h _ _ (by decide) rfl (by decide)
theorem wx_q73 (h : mm_W S) : (decide (73 < mm_n S) && decide (mm_K S 73 < 13)) = true := wp_q h _ _ (by decide) rfl (by decide)
theorem wx_g73_1 (h : mm_W S) : mm_rg S 73 1 = 74 := wp_g h _ _ _ rfl
theorem wx_s73_1 (h : mm_W S) : (mm_R S 73 1).isSome = true := wp_s h _ _ _ rfl
theorem wx_N74 (h : mm_W S) : mm_N S 74 = 100 := wp_N h _ _ (by decide) rfl
theorem wx_a74 (h : mm_W S) : mm_arr S 74 13 = true := wp_a h _ _ (by decide) rfl
theorem wx_g75_0 (h : mm_W S) : mm_rg S 75 0 = 76 := wp_g h _ _ _ rfl
theorem wx_s75_0 (h : mm_W S) : (mm_R S 75 0).isSome = true := wp_s h _ _ _ rfl
theorem wx_g75_1 (h : mm_W S) : mm_rg S 75 1 = 78 := wp_g h _ _ _ rfl
theorem wx_s75_1 (h : mm_W S) : (mm_R S 75 1).isSome = true := wp_s h _ _ _ rfl
theorem wx_g75_2 (h : mm_W S) : mm_rg S 75 2 = 80 := wp_g h _ _ _ rfl
theorem wx_s75_2 (h : mm_W S) : (mm_R S 75 2).isSome = true := wp_s h _ _ _ rfl
theorem wx_g75_3 (h : mm_W S) : mm_rg S 75 3 = 82 := wp_g h _ _ _ rfl
theorem wx_s75_3 (h : mm_W S) : (mm_R S 75 3).isSome = true := wp_s h _ _ _ rfl
theorem wx_g75_4 (h : mm_W S) : mm_rg S 75 4 = 84 := wp_g h _ _ _ rfl
theorem wx_s75_4 (h : mm_W S) : (mm_R S 75 4).isSome = true := wp_s h _ _ _ rfl
theorem wx_g75_5 (h : mm_W S) : mm_rg S 75 5 = 86 := wp_g h _ _ _ rfl
theorem wx_s75_5 (h : mm_W S) : (mm_R S 75 5).isSome = true := wp_s h _ _ _ rfl
theorem wx_o76 (h : mm_W S) : mm_obj S 76 8 = true := wp_o h _ _ _ (by decide) rfl (by decide) rfl
theorem wx_k76 (h : mm_W S) : mm_rk S 76 = 8 := wp_k h _ _ (by decide) rfl (by decide)
theorem wx_q76 (h : mm_W S) : (decide (76 < mm_n S) && decide (mm_K S 76 < 13)) = true := wp_q h _ _ (by decide) rfl (by decide)
theorem wx_g76_0 (h : mm_W S) : mm_rg S 76 0 = 77 := wp_g h _ _ _ rfl
theorem wx_s76_0 (h : mm_W S) : (mm_R S 76 0).isSome = true := wp_s h _ _ _ rfl
theorem wx_N77 (h : mm_W S) : mm_N S 77 = 60 := wp_N h _ _ (by decide) rfl
theorem wx_a77 (h : mm_W S) : mm_arr S 77 14 = true := wp_a h _ _ (by decide) rfl
theorem wx_o78 (h : mm_W S) : mm_obj S 78 8 = true := wp_o h _ _ _ (by decide) rfl (by decide) rfl
theorem wx_k78 (h : mm_W S) : mm_rk S 78 = 8 := wp_k h _ _ (by decide) rfl (by decide)
theorem wx_q78 (h : mm_W S) : (decide (78 < mm_n S) && decide (mm_K S 78 < 13)) = true := wp_q h _ _ (by decide) rfl (by decide)
theorem wx_g78_0 (h : mm_W S) : mm_rg S 78 0 = 79 := wp_g h _ _ _ rfl
theorem wx_s78_0 (h : mm_W S) : (mm_R S 78 0).isSome = true := wp_s h _ _ _ rfl
theorem wx_N79 (h : mm_W S) : mm_N S 79 = 60 := wp_N h _ _ (by decide) rfl
theorem wx_a79 (h : mm_W S) : mm_arr S 79 14 = true := wp_a h _ _ (by decide) rfl
theorem wx_o80 (h : mm_W S) : mm_obj S 80 8 = true := wp_o h _ _ _ (by decide) rfl (by decide) rfl
theorem wx_k80 (h : mm_W S) : mm_rk S 80 = 8 := wp_k h _ _ (by decide) rfl (by decide)
theorem wx_q80 (h : mm_W S) : (decide (80 < mm_n S) && decide (mm_K S 80 < 13)) = true := wp_q h _ _ (by decide) rfl (by decide)
theorem wx_g80_0 (h : mm_W S) : mm_rg S 80 0 = 81 := wp_g h _ _ _ rfl
theorem wx_s80_0 (h : mm_W S) : (mm_R S 80 0).isSome = true := wp_s h _ _ _ rfl
theorem wx_N81 (h : mm_W S) : mm_N S 81 = 60 := wp_N h _ _ (by decide) rfl
theorem wx_a81 (h : mm_W S) : mm_arr S 81 14 = true := wp_a h _ _ (by decide) rfl
theorem wx_o82 (h : mm_W S) : mm_obj S 82 8 = true := wp_o h _ _ _ (by decide) rfl (by decide) rfl
theorem wx_k82 (h : mm_W S) : mm_rk S 82 = 8 := wp_k h _ _ (by decide) rfl (by decide)
theorem wx_q82 (h : mm_W S) : (decide (82 < mm_n S) && decide (mm_K S 82 < 13)) = true := wp_q h _ _ (by decide) rfl (by decide)
theorem wx_g82_0 (h : mm_W S) : mm_rg S 82 0 = 83 := wp_g h _ _ _ rfl
theorem wx_s82_0 (h : mm_W S) : (mm_R S 82 0).isSome = true := wp_s h _ _ _ rfl
theorem wx_N83 (h : mm_W S) : mm_N S 83 = 60 := wp_N h _ _ (by decide) rfl
theorem wx_a83 (h : mm_W S) : mm_arr S 83 14 = true := wp_a h _ _ (by decide) rfl
theorem wx_o84 (h : mm_W S) : mm_obj S 84 8 = true := wp_o h _ _ _ (by decide) rfl (by decide) rfl
theorem wx_k84 (h : mm_W S) : mm_rk S 84 = 8 := wp_k h _ _ (by decide) rfl (by decide)
theorem wx_q84 (h : mm_W S) : (decide (84 < mm_n S) && decide (mm_K S 84 < 13)) = true := wp_q h _ _ (by decide) rfl (by decide)
theorem wx_g84_0 (h : mm_W S) : mm_rg S 84 0 = 85 := wp_g h _ _ _ rfl
theorem wx_s84_0 (h : mm_W S) : (mm_R S 84 0).isSome = true := wp_s h _ _ _ rfl
theorem wx_N85 (h : mm_W S) : mm_N S 85 = 60 := wp_N h _ _ (by decide) rfl
theorem wx_a85 (h : mm_W S) : mm_arr S 85 14 = true := wp_a h _ _ (by decide) rfl
theorem wx_o86 (h : mm_W S) : mm_obj S 86 8 = true := wp_o h _ _ _ (by decide) rfl (by decide) rfl
theorem wx_k86 (h : mm_W S) : mm_rk S 86 = 8 := wp_k h _ _ (by decide) rfl (by decide)
theorem wx_q86 (h : mm_W S) : (decide (86 < mm_n S) && decide (mm_K S 86 < 13)) = true := wp_q h _ _ (by decide) rfl (by decide)
theorem wx_g86_0 (h : mm_W S) : mm_rg S 86 0 = 87 := wp_g h _ _ _ rfl
theorem wx_s86_0 (h : mm_W S) : (mm_R S 86 0).isSome = true := wp_s h _ _ _ rfl
theorem wx_N87 (h : mm_W S) : mm_N S 87 = 60 := wp_N h _ _ (by decide) rfl
theorem wx_a87 (h : mm_W S) : mm_arr S 87 14 = true := wp_a h _ _ (by decide) rfl
theorem wx_o92 (h : mm_W S) : mm_obj S 92 12 = true := wp_o h _ _ _ (by decide) rfl (by decide) rfl
theorem wx_k92 (h : mm_W S) : mm_rk S 92 = 12 := wp_k h _ _ (by decide) rfl (by decide)
theorem wx_q92 (h : mm_W S) : (decide (92 < mm_n S) && decide (mm_K S 92 < 13)) = true := wp_q h _ _ (by decide) rfl (by decide)
theorem wx_g92_1 (h : mm_W S) : mm_rg S 92 1 = 93 := wp_g h _ _ _ rfl
theorem wx_s92_1 (h : mm_W S) : (mm_R S 92 1).isSome = true := wp_s h _ _ _ rfl
theorem wx_N93 (h : mm_W S) : mm_N S 93 = 6 := wp_N h _ _ (by decide) rfl
theorem wx_a93 (h : mm_W S) : mm_arr S 93 13 = true := wp_a h _ _ (by decide) rfl
theorem wx_g92_2 (h : mm_W S) : mm_rg S 92 2 = 94 := wp_g h _ _ _ rfl
theorem wx_s92_2 (h : mm_W S) : (mm_R S 92 2).isSome = true := wp_s h _ _ _ rfl
theorem wx_N94 (h : mm_W S) : mm_N S 94 = 6 := wp_N h _ _ (by decide) rfl
theorem wx_a94 (h : mm_W S) : mm_arr S 94 13 = true := wp_a h _ _ (by decide) rfl
theorem wx_g92_3 (h : mm_W S) : mm_rg S 92 3 = 95 := wp_g h _ _ _ rfl
theorem wx_s92_3 (h : mm_W S) : (mm_R S 92 3).isSome = true := wp_s h _ _ _ rfl
theorem wx_N95 (h : mm_W S) : mm_N S 95 = 6 := wp_N h _ _ (by decide) rfl
theorem wx_a95 (h : mm_W S) : mm_arr S 95 13 = true := wp_a h _ _ (by decide) rfl
theorem wx_g92_4 (h : mm_W S) : mm_rg S 92 4 = 96 := wp_g h _ _ _ rfl
theorem wx_s92_4 (h : mm_W S) : (mm_R S 92 4).isSome = true := wp_s h _ _ _ rfl
theorem wx_N96 (h : mm_W S) : mm_N S 96 = 6 := wp_N h _ _ (by decide) rfl
theorem wx_a96 (h : mm_W S) : mm_arr S 96 13 = true := wp_a h _ _ (by decide) rfl
theorem wx_g92_5 (h : mm_W S) : mm_rg S 92 5 = 97 := wp_g h _ _ _ rfl
theorem wx_s92_5 (h : mm_W S) : (mm_R S 92 5).isSome = true := wp_s h _ _ _ rfl
theorem wx_N97 (h : mm_W S) : mm_N S 97 = 6 := wp_N h _ _ (by decide) rfl
theorem wx_a97 (h : mm_W S) : mm_arr S 97 13 = true := wp_a h _ _ (by decide) rfl
theorem wx_g92_6 (h : mm_W S) : mm_rg S 92 6 = 98 := wp_g h _ _ _ rfl
theorem wx_s92_6 (h : mm_W S) : (mm_R S 92 6).isSome = true := wp_s h _ _ _ rfl
theorem wx_N98 (h : mm_W S) : mm_N S 98 = 6 := wp_N h _ _ (by decide) rfl
theorem wx_a98 (h : mm_W S) : mm_arr S 98 13 = true := wp_a h _ _ (by decide) rfl
theorem wx_g92_7 (h : mm_W S) : mm_rg S 92 7 = 99 := wp_g h _ _ _ rfl
theorem wx_s92_7 (h : mm_W S) : (mm_R S 92 7).isSome = true := wp_s h _ _ _ rfl
theorem wx_N99 (h : mm_W S) : mm_N S 99 = 18 := wp_N h _ _ (by decide) rfl
theorem wx_a99 (h : mm_W S) : mm_arr S 99 13 = true := wp_a h _ _ (by decide) rfl
theorem wx_g92_9 (h : mm_W S) : mm_rg S 92 9 = 100 := wp_g h _ _ _ rfl
theorem wx_s92_9 (h : mm_W S) : (mm_R S 92 9).isSome = true := wp_s h _ _ _ rfl
theorem wx_N100 (h : mm_W S) : mm_N S 100 = 6 := wp_N h _ _ (by decide) rfl
theorem wx_a100 (h : mm_W S) : mm_arr S 100 13 = true := wp_a h _ _ (by decide) rfl
theorem wx_g92_16 (h : mm_W S) : mm_rg S 92 16 = 101 := wp_g h _ _ _ rfl
theorem wx_s92_16 (h : mm_W S) : (mm_R S 92 16).isSome = true := wp_s h _ _ _ rfl
theorem wx_N101 (h : mm_W S) : mm_N S 101 = 12 := wp_N h _ _ (by decide) rfl
theorem wx_a101 (h : mm_W S) : mm_arr S 101 13 = true := wp_a h _ _ (by decide) rfl
theorem wx_g92_19 (h : mm_W S) : mm_rg S 92 19 = 102 := wp_g h _ _ _ rfl
theorem wx_s92_19 (h : mm_W S) : (mm_R S 92 19).isSome = true := wp_s h _ _ _ rfl
theorem wx_N102 (h : mm_W S) : mm_N S 102 = 7 := wp_N h _ _ (by decide) rfl
theorem wx_a102 (h : mm_W S) : mm_arr S 102 13 = true := wp_a h _ _ (by decide) rfl
theorem wx_g92_20 (h : mm_W S) : mm_rg S 92 20 = 103 := wp_g h _ _ _ rfl
theorem wx_s92_20 (h : mm_W S) : (mm_R S 92 20).isSome = true := wp_s h _ _ _ rfl
theorem wx_N103 (h : mm_W S) : mm_N S 103 = 70 := wp_N h _ _ (by decide) rfl
theorem wx_a103 (h : mm_W S) : mm_arr S 103 13 = true := wp_a h _ _ (by decide) rfl
theorem wx_g92_21 (h : mm_W S) : mm_rg S 92 21 = 104 := wp_g h _ _ _ rfl
theorem wx_s92_21 (h : mm_W S) : (mm_R S 92 21).isSome = true := wp_s h _ _ _ rfl
theorem wx_N104 (h : mm_W S) : mm_N S 104 = 70 := wp_N h _ _ (by decide) rfl
theorem wx_a104 (h : mm_W S) : mm_arr S 104 13 = true := wp_a h _ _ (by decide) rfl
theorem wx_g92_22 (h : mm_W S) : mm_rg S 92 22 = 105 := wp_g h _ _ _ rfl
theorem wx_s92_22 (h : mm_W S) : (mm_R S 92 22).isSome = true := wp_s h _ _ _ rfl
theorem wx_N105 (h : mm_W S) : mm_N S 105 = 70 := wp_N h _ _ (by decide) rfl
theorem wx_a105 (h : mm_W S) : mm_arr S 105 13 = true := wp_a h _ _ (by decide) rfl
theorem wx_g92_23 (h : mm_W S) : mm_rg S 92 23 = 106 := wp_g h _ _ _ rfl
theorem wx_s92_23 (h : mm_W S) : (mm_R S 92 23).isSome = true := wp_s h _ _ _ rfl
theorem wx_N106 (h : mm_W S) : mm_N S 106 = 70 := wp_N h _ _ (by decide) rfl
theorem wx_a106 (h : mm_W S) : mm_arr S 106 13 = true := wp_a h _ _ (by decide) rfl
theorem wx_g92_24 (h : mm_W S) : mm_rg S 92 24 = 107 := wp_g h _ _ _ rfl
theorem wx_s92_24 (h : mm_W S) : (mm_R S 92 24).isSome = true := wp_s h _ _ _ rfl
theorem wx_N107 (h : mm_W S) : mm_N S 107 = 840 := wp_N h _ _ (by decide) rfl
theorem wx_a107 (h : mm_W S) : mm_arr S 107 13 = true := wp_a h _ _ (by decide) rfl
theorem wx_g92_25 (h : mm_W S) : mm_rg S 92 25 = 108 := wp_g h _ _ _ rfl
theorem wx_s92_25 (h : mm_W S) : (mm_R S 92 25).isSome = true := wp_s h _ _ _ rfl
theorem wx_N108 (h : mm_W S) : mm_N S 108 = 100 := wp_N h _ _ (by decide) rfl
theorem wx_a108 (h : mm_W S) : mm_arr S 108 13 = true := wp_a h _ _ (by decide) rfl
theorem wx_g92_29 (h : mm_W S) : mm_rg S 92 29 = 109 := wp_g h _ _ _ rfl
theorem wx_s92_29 (h : mm_W S) : (mm_R S 92 29).isSome = true := wp_s h _ _ _ rfl
theorem wx_N109 (h : mm_W S) : mm_N S 109 = 20 := wp_N h _ _ (by decide) rfl
theorem wx_a109 (h : mm_W S) : mm_arr S 109 13 = true := wp_a h _ _ (by decide) rfl
theorem wx_g92_30 (h : mm_W S) : mm_rg S 92 30 = 110 := wp_g h _ _ _ rfl
theorem wx_s92_30 (h : mm_W S) : (mm_R S 92 30).isSome = true := wp_s h _ _ _ rfl
theorem wx_N110 (h : mm_W S) : mm_N S 110 = 6 := wp_N h _ _ (by decide) rfl
theorem wx_a110 (h : mm_W S) : mm_arr S 110 13 = true := wp_a h _ _ (by decide) rfl
theorem wx_g92_31 (h : mm_W S) : mm_rg S 92 31 = 111 := wp_g h _ _ _ rfl
theorem wx_s92_31 (h : mm_W S) : (mm_R S 92 31).isSome = true := wp_s h _ _ _ rfl
theorem wx_N111 (h : mm_W S) : mm_N S 111 = 6 := wp_N h _ _ (by decide) rfl
theorem wx_a111 (h : mm_W S) : mm_arr S 111 13 = true := wp_a h _ _ (by decide) rfl
theorem wx_g92_32 (h : mm_W S) : mm_rg S 92 32 = 112 := wp_g h _ _ _ rfl
theorem wx_s92_32 (h : mm_W S) : (mm_R S 92 32).isSome = true := wp_s h _ _ _ rfl
theorem wx_N112 (h : mm_W S) : mm_N S 112 = 360 := wp_N h _ _ (by decide) rfl
theorem wx_a112 (h : mm_W S) : mm_arr S 112 14 = true := wp_a h _ _ (by decide) rfl
theorem wx_g92_33 (h : mm_W S) : mm_rg S 92 33 = 113 := wp_g h _ _ _ rfl
theorem wx_s92_33 (h : mm_W S) : (mm_R S 92 33).isSome = true := wp_s h _ _ _ rfl
theorem wx_N113 (h : mm_W S) : mm_N S 113 = 24 := wp_N h _ _ (by decide) rfl
theorem wx_a113 (h : mm_W S) : mm_arr S 113 13 = true := wp_a h _ _ (by decide) rfl
theorem wx_g92_34 (h : mm_W S) : mm_rg S 92 34 = 114 := wp_g h _ _ _ rfl
theorem wx_s92_34 (h : mm_W S) : (mm_R S 92 34).isSome = true := wp_s h _ _ _ rfl
theorem wx_N114 (h : mm_W S) : mm_N S 114 = 6 := wp_N h _ _ (by decide) rfl
theorem wx_a114 (h : mm_W S) : mm_arr S 114 13 = true := wp_a h _ _ (by decide) rfl
theorem wx_g92_35 (h : mm_W S) : mm_rg S 92 35 = 115 := wp_g h _ _ _ rfl
theorem wx_s92_35 (h : mm_W S) : (mm_R S 92 35).isSome = true := wp_s h _ _ _ rfl
theorem wx_N115 (h : mm_W S) : mm_N S 115 = 7 := wp_N h _ _ (by decide) rfl
theorem wx_a115 (h : mm_W S) : mm_arr S 115 13 = true := wp_a h _ _ (by decide) rfl
theorem wx_g92_38 (h : mm_W S) : mm_rg S 92 38 = 116 := wp_g h _ _ _ rfl
theorem wx_s92_38 (h : mm_W S) : (mm_R S 92 38).isSome = true := wp_s h _ _ _ rfl
theorem wx_N116 (h : mm_W S) : mm_N S 116 = 110 := wp_N h _ _ (by decide) rfl
theorem wx_a116 (h : mm_W S) : mm_arr S 116 13 = true := wp_a h _ _ (by decide) rfl
theorem wx_g92_41 (h : mm_W S) : mm_rg S 92 41 = 117 := wp_g h _ _ _ rfl
theorem wx_s92_41 (h : mm_W S) : (mm_R S 92 41).isSome = true := wp_s h _ _ _ rfl
theorem wx_N117 (h : mm_W S) : mm_N S 117 = 110 := wp_N h _ _ (by decide) rfl
theorem wx_a117 (h : mm_W S) : mm_arr S 117 15 = true := wp_a h _ _ (by decide) rfl
theorem wx_g92_44 (h : mm_W S) : mm_rg S 92 44 = 118 := wp_g h _ _ _ rfl
theorem wx_s92_44 (h : mm_W S) : (mm_R S 92 44).isSome = true := wp_s h _ _ _ rfl
theorem wx_N118 (h : mm_W S) : mm_N S 118 = 6 := wp_N h _ _ (by decide) rfl
theorem wx_a118 (h : mm_W S) : mm_arr S 118 13 = true := wp_a h _ _ (by decide) rfl
theorem wx_g92_45 (h : mm_W S) : mm_rg S 92 45 = 119 := wp_g h _ _ _ rfl
theorem wx_s92_45 (h : mm_W S) : (mm_R S 92 45).isSome = true := wp_s h _ _ _ rfl
theorem wx_N119 (h : mm_W S) : mm_N S 119 = 6 := wp_N h _ _ (by decide) rfl
theorem wx_a119 (h : mm_W S) : mm_arr S 119 13 = true := wp_a h _ _ (by decide) rfl
theorem wx_g92_46 (h : mm_W S) : mm_rg S 92 46 = 120 := wp_g h _ _ _ rfl
theorem wx_s92_46 (h : mm_W S) : (mm_R S 92 46).isSome = true := wp_s h _ _ _ rfl
theorem wx_N120 (h : mm_W S) : mm_N S 120 = 6 := wp_N h _ _ (by decide) rfl
theorem wx_a120 (h : mm_W S) : mm_arr S 120 13 = true := wp_a h _ _ (by decide) rfl
theorem wx_g92_52 (h : mm_W S) : mm_rg S 92 52 = 121 := wp_g h _ _ _ rfl
theorem wx_s92_52 (h : mm_W S) : (mm_R S 92 52).isSome = true := wp_s h _ _ _ rfl
theorem wx_N121 (h : mm_W S) : mm_N S 121 = 6 := wp_N h _ _ (by decide) rfl
theorem wx_a121 (h : mm_W S) : mm_arr S 121 13 = true := wp_a h _ _ (by decide) rfl
theorem wx_g92_55 (h : mm_W S) : mm_rg S 92 55 = 122 := wp_g h _ _ _ rfl
theorem wx_s92_55 (h : mm_W S) : (mm_R S 92 55).isSome = true := wp_s h _ _ _ rfl
theorem wx_N122 (h : mm_W S) : mm_N S 122 = 78 := wp_N h _ _ (by decide) rfl
theorem wx_a122 (h : mm_W S) : mm_arr S 122 13 = true := wp_a h _ _ (by decide) rfl
theorem wx_g92_56 (h : mm_W S) : mm_rg S 92 56 = 123 := wp_g h _ _ _ rfl
theorem wx_s92_56 (h : mm_W S) : (mm_R S 92 56).isSome = true := wp_s h _ _ _ rfl
theorem wx_N123 (h : mm_W S) : mm_N S 123 = 78 := wp_N h _ _ (by decide) rfl
theorem wx_a123 (h : mm_W S) : mm_arr S 123 13 = true := wp_a h _ _ (by decide) rfl
theorem wx_g92_57 (h : mm_W S) : mm_rg S 92 57 = 124 := wp_g h _ _ _ rfl
theorem wx_s92_57 (h : mm_W S) : (mm_R S 92 57).isSome = true := wp_s h _ _ _ rfl
theorem wx_N124 (h : mm_W S) : mm_N S 124 = 78 := wp_N h _ _ (by decide) rfl
theorem wx_a124 (h : mm_W S) : mm_arr S 124 13 = true := wp_a h _ _ (by decide) rfl
theorem wx_g92_58 (h : mm_W S) : mm_rg S 92 58 = 125 := wp_g h _ _ _ rfl
theorem wx_s92_58 (h : mm_W S) : (mm_R S 92 58).isSome = true := wp_s h _ _ _ rfl
theorem wx_N125 (h : mm_W S) : mm_N S 125 = 65 := wp_N h _ _ (by decide) rfl
theorem wx_a125 (h : mm_W S) : mm_arr S 125 13 = true := wp_a h _ _ (by decide) rfl
theorem wx_g92_64 (h : mm_W S) : mm_rg S 92 64 = 126 := wp_g h _ _ _ rfl
theorem wx_s92_64 (h : mm_W S) : (mm_R S 92 64).isSome = true := wp_s h _ _ _ rfl
theorem wx_N126 (h : mm_W S) : mm_N S 126 = 6 := wp_N h _ _ (by decide) rfl
theorem wx_a126 (h : mm_W S) : mm_arr S 126 13 = true := wp_a h _ _ (by decide) rfl
theorem wx_g92_65 (h : mm_W S) : mm_rg S 92 65 = 127 := wp_g h _ _ _ rfl
theorem wx_s92_65 (h : mm_W S) : (mm_R S 92 65).isSome = true := wp_s h _ _ _ rfl
theorem wx_N127 (h : mm_W S) : mm_N S 127 = 6 := wp_N h _ _ (by decide) rfl
theorem wx_a127 (h : mm_W S) : mm_arr S 127 13 = true := wp_a h _ _ (by decide) rfl
theorem wx_g92_66 (h : mm_W S) : mm_rg S 92 66 = 128 := wp_g h _ _ _ rfl
theorem wx_s92_66 (h : mm_W S) : (mm_R S 92 66).isSome = true := wp_s h _ _ _ rfl
theorem wx_N128 (h : mm_W S) : mm_N S 128 = 6 := wp_N h _ _ (by decide) rfl
theorem wx_a128 (h : mm_W S) : mm_arr S 128 13 = true := wp_a h _ _ (by decide) rfl
theorem wx_g92_67 (h : mm_W S) : mm_rg S 92 67 = 129 := wp_g h _ _ _ rfl
theorem wx_s92_67 (h : mm_W S) : (mm_R S 92 67).isSome = true := wp_s h _ _ _ rfl
theorem wx_N129 (h : mm_W S) : mm_N S 129 = 6 := wp_N h _ _ (by decide) rfl
theorem wx_a129 (h : mm_W S) : mm_arr S 129 13 = true := wp_a h _ _ (by decide) rfl
theorem wx_g92_68 (h : mm_W S) : mm_rg S 92 68 = 130 := wp_g h _ _ _ rfl
theorem wx_s92_68 (h : mm_W S) : (mm_R S 92 68).isSome = true := wp_s h _ _ _ rfl
theorem wx_N130 (h : mm_W S) : mm_N S 130 = 6 := wp_N h _ _ (by decide) rfl
theorem wx_a130 (h : mm_W S) : mm_arr S 130 13 = true := wp_a h _ _ (by decide) rfl
theorem wx_g92_69 (h : mm_W S) : mm_rg S 92 69 = 131 := wp_g h _ _ _ rfl
theorem wx_s92_69 (h : mm_W S) : (mm_R S 92 69).isSome = true := wp_s h _ _ _ rfl
theorem wx_N131 (h : mm_W S) : mm_N S 131 = 6 := wp_N h _ _ (by decide) rfl
theorem wx_a131 (h : mm_W S) : mm_arr S 131 13 = true := wp_a h _ _ (by decide) rfl
theorem wx_g92_70 (h : mm_W S) : mm_rg S 92 70 = 132 := wp_g h _ _ _ rfl
theorem wx_s92_70 (h : mm_W S) : (mm_R S 92 70).isSome = true := wp_s h _ _ _ rfl
theorem wx_N132 (h : mm_W S) : mm_N S 132 = 18 := wp_N h _ _ (by decide) rfl
theorem wx_a132 (h : mm_W S) : mm_arr S 132 13 = true := wp_a h _ _ (by decide) rfl
theorem wx_g92_71 (h : mm_W S) : mm_rg S 92 71 = 133 := wp_g h _ _ _ rfl
theorem wx_s92_71 (h : mm_W S) : (mm_R S 92 71).isSome = true := wp_s h _ _ _ rfl
theorem wx_N133 (h : mm_W S) : mm_N S 133 = 6 := wp_N h _ _ (by decide) rfl
theorem wx_a133 (h : mm_W S) : mm_arr S 133 13 = true := wp_a h _ _ (by decide) rfl
theorem wx_g92_72 (h : mm_W S) : mm_rg S 92 72 = 134 := wp_g h _ _ _ rfl
theorem wx_s92_72 (h : mm_W S) : (mm_R S 92 72).isSome = true := wp_s h _ _ _ rfl
theorem wx_N134 (h : mm_W S) : mm_N S 134 = 5 := wp_N h _ _ (by decide) rfl
theorem wx_a134 (h : mm_W S) : mm_arr S 134 13 = true := wp_a h _ _ (by decide) rfl
theorem wx_g92_73 (h : mm_W S) : mm_rg S 92 73 = 135 := wp_g h _ _ _ rfl
theorem wx_s92_73 (h : mm_W S) : (mm_R S 92 73).isSome = true := wp_s h _ _ _ rfl
theorem wx_N135 (h : mm_W S) : mm_N S 135 = 12 := wp_N h _ _ (by decide) rfl
theorem wx_a135 (h : mm_W S) : mm_arr S 135 13 = true := wp_a h _ _ (by decide) rfl
theorem wx_g92_75 (h : mm_W S) : mm_rg S 92 75 = 136 := wp_g h _ _ _ rfl
theorem wx_s92_75 (h : mm_W S) : (mm_R S 92 75).isSome = true := wp_s h _ _ _ rfl
theorem wx_N136 (h : mm_W S) : mm_N S 136 = 60 := wp_N h _ _ (by decide) rfl
theorem wx_a136 (h : mm_W S) : mm_arr S 136 14 = true := wp_a h _ _ (by decide) rfl
end WXS
