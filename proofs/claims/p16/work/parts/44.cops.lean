/-! ===== copies of days, with what they mean ===== -/
def gc_dy (a c _j : Nat) : Prop := a ≤ c ∧ c ≤ a + 7
section CP
variable {S T : mm_S} {a b c d j m n : Nat} {X : gb_X} {G : gb_G}
theorem cD_0 (h1 : 9 ≤ j) (h2 : j ≤ 17) : mm_M (mm_cD S a b) a j = mm_M S b j := by rw [hc_M, if_pos ⟨rfl, h1, h2⟩]
theorem cD_m (h1 : 2 ≤ m) (h2 : m ≤ 7) (hj : j < mm_N S (a + m)) : mm_M (mm_cD S a b) (a + m) j = mm_M S (b + m) j := by
  rw [hc_M, if_neg (by omega), if_pos ⟨by omega, by omega, hj⟩]
  congr 1
  omega
theorem cD_R8 : mm_R (mm_cD S a b) a 8 = mm_R S b 8 := by rw [hc_R, if_pos ⟨rfl, rfl⟩]
theorem cD_R1 (hj : j < 6) : mm_R (mm_cD S a b) (a + 1) j = mm_R S (b + 1) j := by rw [hc_R, if_neg (by omega), if_pos ⟨rfl, hj⟩]
theorem cD_sf : sf_f (gc_dy a) S (mm_cD S a b) := by
  refine ⟨fun c j hc => ?_, fun _ _ => ⟨rfl, rfl⟩, Nat.le_refl _⟩
  unfold gc_dy at hc
  refine ⟨?_, rfl, ?_⟩
  · rw [hc_M, if_neg (by omega), if_neg (by omega)]
  · rw [hc_R, if_neg (by omega), if_neg (by omega)]
theorem cD_X (hw : mm_W S) (ha : mm_dy a) (hk : ab_okP (gx_P X)) (hr : (ab_row (gx_D X)).length ≤ 6) (hf : (gx_f X).length ≤ 12) (hX : gc_X S b X) : gc_X (mm_cD S a b) a X := by
  obtain ⟨⟨p1, p2, p3, p4, p5, s, p6, p7, p8⟩, ⟨h1, h2, h3, h4, h5, h6, h7, h8⟩, q1, q2, q3, q4⟩ := hX
  have k6 := hk.1
  have f := cD_sf (S := S) (a := a) (b := b)
  refine ⟨⟨(cD_0 (by decide) (by decide)).trans p1, (cD_0 (by decide) (by decide)).trans p2, fun i hi => (cD_m (by decide) (by decide) (by rw [wd_N2 hw ha]; omega)).trans (p3 i hi), fun i hi => (cD_m (by decide) (by decide) (by rw [wd_N3 hw ha]; omega)).trans (p4 i hi), fun i hi => ?_, s, cD_R8.trans p6, p7, tr_cs f (fun m j hm h => ?_) p8⟩, ⟨(cD_0 (by decide) (by decide)).trans h1, fun i hi => (cD_m (by decide) (by decide) (by rw [wd_N6 hw ha]; omega)).trans (h2 i hi), fun i hi => (cD_m (by decide) (by decide) (by rw [wd_N4 hw ha]; omega)).trans (h3 i hi), fun i hi => (cD_m (by decide) (by decide) (by rw [wd_N5 hw ha]; omega)).trans (h4 i hi), (cD_0 (by decide) (by decide)).trans h5, (cD_0 (by decide) (by decide)).trans h6, (cD_0 (by decide) (by decide)).trans h7, (cD_0 (by decide) (by decide)).trans h8⟩, (cD_0 (by decide) (by decide)).trans q1, (cD_0 (by decide) (by decide)).trans q2, fun i hi => (cD_m (by decide) (by decide) (by rw [wd_N7 hw ha]; omega)).trans (q3 i hi), cD_R8.trans q4⟩
  · obtain ⟨e, he, hb2⟩ := p5 i hi
    refine ⟨e, (cD_R1 (by omega)).trans he, tr_by f (fun j _ h => ?_) hb2⟩
    have := hb2.1
    unfold gc_dy at h
    unfold mm_dy at ha
    omega
  · unfold gc_dy at h
    unfold mm_dy at ha
    unfold mm_sh at p7
    omega
theorem cD_q (hq : gc_q S b) : gc_q (mm_cD S a b) a := by
  obtain ⟨h1, s, h2, h3⟩ := hq
  exact ⟨fun i hi e he => h1 i hi e ((cD_R1 hi).symm.trans he), s, h2, cD_R8.trans h3⟩
theorem cD_q2 (hab : b + 1 < a ∨ a + 7 < b) (hq : gc_q S b) : gc_q (mm_cD S a b) b := by
  refine tr_q cD_sf (fun j h => ?_) (fun h => ?_) hq
  · unfold gc_dy at h; omega
  · unfold gc_dy at h; omega
theorem X_len {l : List (List ab_C)} (ok : gx_ok l X) : (ab_row (gx_D X)).length ≤ 6 := row_le ok.1 ok.2.1
end CP
/-! ===== calls of the class: slips, film, image, undo, trace, taken, count ===== -/
section C2
variable {S T : mm_S} {G : gb_G} {d b n : Nat} {x y w p t i o j : Int32}
theorem c_20 (ok : gb_ok G) (hR : RC S G) : oC S d 93 [.ref 0, .int x] (.int (op_20 G x).1) (op_20 G x).2 := by
  have hw := hR.1
  have h16 : mm_M S 6 16 = nI (gx_s G.1) := hR.2.1.2.2.1
  rcases kw_d (n := 10) (m := 11) rfl (by decide) x with ⟨ep, a1, a2, a3, a4, a5, a6⟩ | ⟨ep, a1, a2, a3, a4, a5, a6⟩ | ⟨n, hp, ep, rfl, a1, a2, a3, a4, a5, a6⟩
  · have eo : op_20 G x = (-2, G) := by unfold op_20; simp only [ep]
    rw [eo]
    refine oC_id hR ?_
    simp only [b93_0, b93_4, b93_10, b93_13, e93, wx_o0 hw, wx_k0 hw, wx_q0 hw, wx_g0_0 hw, wx_s0_0 hw, wx_g0_1 hw, wx_s0_1 hw, wx_g0_2 hw, wx_s0_2 hw, wx_g0_3 hw, wx_s0_3 hw, wx_g0_4 hw, wx_s0_4 hw, wx_N42 hw, wx_a42 hw, wx_K42 hw, wx_g0_5 hw, wx_s0_5 hw, wx_g0_6 hw, wx_s0_6 hw, wx_N75 hw, wx_a75 hw, wx_K75 hw, wx_g0_7 hw, wx_s0_7 hw, wx_N88 hw, wx_a88 hw, wx_g0_8 hw, wx_s0_8 hw, wx_N89 hw, wx_a89 hw, wx_g0_9 hw, wx_s0_9 hw, wx_N90 hw, wx_a90 hw, wx_g0_10 hw, wx_s0_10 hw, wx_N91 hw, wx_a91 hw, wx_o6 hw, wx_k6 hw, wx_q6 hw, wx_g6_0 hw, wx_s6_0 hw, wx_N7 hw, wx_a7 hw, wx_K7 hw, wx_g6_1 hw, wx_s6_1 hw, wx_N8 hw, wx_a8 hw, wx_g6_2 hw, wx_s6_2 hw, wx_N9 hw, wx_a9 hw, wx_g6_3 hw, wx_s6_3 hw, wx_N10 hw, wx_a10 hw, wx_g6_4 hw, wx_s6_4 hw, wx_N11 hw, wx_a11 hw, wx_g6_5 hw, wx_s6_5 hw, wx_N12 hw, wx_a12 hw, wx_g6_6 hw, wx_s6_6 hw, wx_N13 hw, wx_a13 hw, wx_g6_7 hw, wx_s6_7 hw, wx_N14 hw, wx_a14 hw, List.not_mem_nil, false_implies, implies_true, nI_clamp, nI_add, Nat.reducePow, hp_bd, hp_bdi, hp_ts, hp_tn, hp_tsc, hp_tnc, Nat.reduceAdd, Nat.reduceSub, Nat.reduceMul, Nat.reduceLT, Nat.reduceLeDiff, Nat.reduceEqDiff, reduceIte, not_true_eq_false, not_false_eq_true, and_true, true_and, and_self, and_false, false_and, or_true, true_or, or_false, false_or, decide_true, decide_false, Bool.and_true, Bool.true_and, Bool.not_false, Bool.or_false, Bool.false_or, Bool.or_true, Bool.true_or, a1, a4]
  · have eo : op_20 G x = (-2, G) := by unfold op_20; simp only [ep]
    rw [eo]
    refine oC_id hR ?_
    simp only [b93_0, b93_4, b93_10, b93_13, e93, wx_o0 hw, wx_k0 hw, wx_q0 hw, wx_g0_0 hw, wx_s0_0 hw, wx_g0_1 hw, wx_s0_1 hw, wx_g0_2 hw, wx_s0_2 hw, wx_g0_3 hw, wx_s0_3 hw, wx_g0_4 hw, wx_s0_4 hw, wx_N42 hw, wx_a42 hw, wx_K42 hw, wx_g0_5 hw, wx_s0_5 hw, wx_g0_6 hw, wx_s0_6 hw, wx_N75 hw, wx_a75 hw, wx_K75 hw, wx_g0_7 hw, wx_s0_7 hw, wx_N88 hw, wx_a88 hw, wx_g0_8 hw, wx_s0_8 hw, wx_N89 hw, wx_a89 hw, wx_g0_9 hw, wx_s0_9 hw, wx_N90 hw, wx_a90 hw, wx_g0_10 hw, wx_s0_10 hw, wx_N91 hw, wx_a91 hw, wx_o6 hw, wx_k6 hw, wx_q6 hw, wx_g6_0 hw, wx_s6_0 hw, wx_N7 hw, wx_a7 hw, wx_K7 hw, wx_g6_1 hw, wx_s6_1 hw, wx_N8 hw, wx_a8 hw, wx_g6_2 hw, wx_s6_2 hw, wx_N9 hw, wx_a9 hw, wx_g6_3 hw, wx_s6_3 hw, wx_N10 hw, wx_a10 hw, wx_g6_4 hw, wx_s6_4 hw, wx_N11 hw, wx_a11 hw, wx_g6_5 hw, wx_s6_5 hw, wx_N12 hw, wx_a12 hw, wx_g6_6 hw, wx_s6_6 hw, wx_N13 hw, wx_a13 hw, wx_g6_7 hw, wx_s6_7 hw, wx_N14 hw, wx_a14 hw, List.not_mem_nil, false_implies, implies_true, nI_clamp, nI_add, Nat.reducePow, hp_bd, hp_bdi, hp_ts, hp_tn, hp_tsc, hp_tnc, Nat.reduceAdd, Nat.reduceSub, Nat.reduceMul, Nat.reduceLT, Nat.reduceLeDiff, Nat.reduceEqDiff, reduceIte, not_true_eq_false, not_false_eq_true, and_true, true_and, and_self, and_false, false_and, or_true, true_or, or_false, false_or, decide_true, decide_false, Bool.and_true, Bool.true_and, Bool.not_false, Bool.or_false, Bool.false_or, Bool.or_true, Bool.true_or, a1, a4]
  · have eo : op_20 G (nI n) = (nI (gx_s G.1), gX_s G.1 n, G.2) := by unfold op_20; simp only [ep]
    rw [eo]
    have f : sf_f gc_6m S (mm_uM S 6 16 (nI n)) := sf_uM (Or.inr ⟨rfl, Or.inl rfl⟩)
    obtain ⟨g1, g2, g3⟩ := X_m f hR.2.1
    refine oC_6 ok hR (T := mm_uM S 6 16 (nI n)) ?_ (m6_6 f) hw ⟨g1, g2, rds, (rdn (by omega)).trans hR.2.1.2.2.2.1, fun i hi => (rdn (by omega)).trans (hR.2.1.2.2.2.2.1 i hi), g3⟩ hR.2.2.1 (sz_s rfl rfl)
    simp only [b93_0, b93_4, b93_10, b93_13, e93, wx_o0 hw, wx_k0 hw, wx_q0 hw, wx_g0_0 hw, wx_s0_0 hw, wx_g0_1 hw, wx_s0_1 hw, wx_g0_2 hw, wx_s0_2 hw, wx_g0_3 hw, wx_s0_3 hw, wx_g0_4 hw, wx_s0_4 hw, wx_N42 hw, wx_a42 hw, wx_K42 hw, wx_g0_5 hw, wx_s0_5 hw, wx_g0_6 hw, wx_s0_6 hw, wx_N75 hw, wx_a75 hw, wx_K75 hw, wx_g0_7 hw, wx_s0_7 hw, wx_N88 hw, wx_a88 hw, wx_g0_8 hw, wx_s0_8 hw, wx_N89 hw, wx_a89 hw, wx_g0_9 hw, wx_s0_9 hw, wx_N90 hw, wx_a90 hw, wx_g0_10 hw, wx_s0_10 hw, wx_N91 hw, wx_a91 hw, wx_o6 hw, wx_k6 hw, wx_q6 hw, wx_g6_0 hw, wx_s6_0 hw, wx_N7 hw, wx_a7 hw, wx_K7 hw, wx_g6_1 hw, wx_s6_1 hw, wx_N8 hw, wx_a8 hw, wx_g6_2 hw, wx_s6_2 hw, wx_N9 hw, wx_a9 hw, wx_g6_3 hw, wx_s6_3 hw, wx_N10 hw, wx_a10 hw, wx_g6_4 hw, wx_s6_4 hw, wx_N11 hw, wx_a11 hw, wx_g6_5 hw, wx_s6_5 hw, wx_N12 hw, wx_a12 hw, wx_g6_6 hw, wx_s6_6 hw, wx_N13 hw, wx_a13 hw, wx_g6_7 hw, wx_s6_7 hw, wx_N14 hw, wx_a14 hw, List.not_mem_nil, false_implies, implies_true, nI_clamp, nI_add, Nat.reducePow, hp_bd, hp_bdi, hp_ts, hp_tn, hp_tsc, hp_tnc, Nat.reduceAdd, Nat.reduceSub, Nat.reduceMul, Nat.reduceLT, Nat.reduceLeDiff, Nat.reduceEqDiff, reduceIte, not_true_eq_false, not_false_eq_true, and_true, true_and, and_self, and_false, false_and, or_true, true_or, or_false, false_or, decide_true, decide_false, Bool.and_true, Bool.true_and, Bool.not_false, Bool.or_false, Bool.false_or, Bool.or_true, Bool.true_or, a1, a4, h16]
theorem c_22 (ok : gb_ok G) (hR : RC S G) : oC S d 95 [.ref 0, .int x] (.int (op_22 G x).1) (op_22 G x).2 := by
  have hw := hR.1
  have h17 : mm_M S 6 17 = nI (gx_f G.1).length := hR.2.1.2.2.2.1
  have hl : (gx_f G.1).length ≤ 12 := ok.1.2.2.2.1
  have hi6 := hR.2.1.2.2.2.2.1
  by_cases hx : x = -1
  · subst hx
    have eo : op_22 G (-1) = (nI 0, gX_f G.1 [], G.2) := by unfold op_22; rw [if_pos rfl]
    rw [eo]
    have f : sf_f gc_6m S (mm_uM S 6 17 (nI 0)) := sf_uM (Or.inr ⟨rfl, Or.inr rfl⟩)
    obtain ⟨g1, g2, g3⟩ := X_m f hR.2.1
    refine oC_6 ok hR (T := mm_uM S 6 17 (nI 0)) ?_ (m6_6 f) hw ⟨g1, g2, (rdn (by omega)).trans hR.2.1.2.2.1, rds, fun i hi => absurd hi (Nat.not_lt_zero i), g3⟩ hR.2.2.1 (sz_s rfl rfl)
    simp only [b95_0, b95_5, b95_10, b95_15, b95_17, b95_22, b95_32, b95_44, b95_47, b95_68, b95_80, e95, wx_o0 hw, wx_k0 hw, wx_q0 hw, wx_g0_0 hw, wx_s0_0 hw, wx_g0_1 hw, wx_s0_1 hw, wx_g0_2 hw, wx_s0_2 hw, wx_g0_3 hw, wx_s0_3 hw, wx_g0_4 hw, wx_s0_4 hw, wx_N42 hw, wx_a42 hw, wx_K42 hw, wx_g0_5 hw, wx_s0_5 hw, wx_g0_6 hw, wx_s0_6 hw, wx_N75 hw, wx_a75 hw, wx_K75 hw, wx_g0_7 hw, wx_s0_7 hw, wx_N88 hw, wx_a88 hw, wx_g0_8 hw, wx_s0_8 hw, wx_N89 hw, wx_a89 hw, wx_g0_9 hw, wx_s0_9 hw, wx_N90 hw, wx_a90 hw, wx_g0_10 hw, wx_s0_10 hw, wx_N91 hw, wx_a91 hw, wx_o6 hw, wx_k6 hw, wx_q6 hw, wx_g6_0 hw, wx_s6_0 hw, wx_N7 hw, wx_a7 hw, wx_K7 hw, wx_g6_1 hw, wx_s6_1 hw, wx_N8 hw, wx_a8 hw, wx_g6_2 hw, wx_s6_2 hw, wx_N9 hw, wx_a9 hw, wx_g6_3 hw, wx_s6_3 hw, wx_N10 hw, wx_a10 hw, wx_g6_4 hw, wx_s6_4 hw, wx_N11 hw, wx_a11 hw, wx_g6_5 hw, wx_s6_5 hw, wx_N12 hw, wx_a12 hw, wx_g6_6 hw, wx_s6_6 hw, wx_N13 hw, wx_a13 hw, wx_g6_7 hw, wx_s6_7 hw, wx_N14 hw, wx_a14 hw, List.not_mem_nil, false_implies, implies_true, nI_clamp, nI_add, Nat.reducePow, hp_bd, hp_bdi, hp_ts, hp_tn, hp_tsc, hp_tnc, Nat.reduceAdd, Nat.reduceSub, Nat.reduceMul, Nat.reduceLT, Nat.reduceLeDiff, Nat.reduceEqDiff, reduceIte, not_true_eq_false, not_false_eq_true, and_true, true_and, and_self, and_false, false_and, or_true, true_or, or_false, false_or, decide_true, decide_false, Bool.and_true, Bool.true_and, Bool.not_false, Bool.or_false, Bool.false_or, Bool.or_true, Bool.true_or]
  · rcases kw_d (n := 3) (m := 4) rfl (by decide) x with ⟨ep, a1, a2, a3, a4, a5, a6⟩ | ⟨ep, a1, a2, a3, a4, a5, a6⟩ | ⟨n, hp, ep, rfl, a1, a2, a3, a4, a5, a6⟩
    · have eo : op_22 G x = (-1, G) := by unfold op_22; rw [if_neg hx, ep]
      have h1 : (x < nI 1) = True := by
        refine eq_true ?_
        have := of_eq_true a1
        rw [Int32.lt_iff_toInt_lt] at this ⊢
        have e0 : (nI 0).toInt = 0 := rfl
        have e1 : (nI 1).toInt = 1 := rfl
        omega
      rw [eo]
      refine oC_id hR ?_
      simp only [b95_0, b95_5, b95_10, b95_15, b95_17, b95_22, b95_32, b95_44, b95_47, b95_68, b95_80, e95, wx_o0 hw, wx_k0 hw, wx_q0 hw, wx_g0_0 hw, wx_s0_0 hw, wx_g0_1 hw, wx_s0_1 hw, wx_g0_2 hw, wx_s0_2 hw, wx_g0_3 hw, wx_s0_3 hw, wx_g0_4 hw, wx_s0_4 hw, wx_N42 hw, wx_a42 hw, wx_K42 hw, wx_g0_5 hw, wx_s0_5 hw, wx_g0_6 hw, wx_s0_6 hw, wx_N75 hw, wx_a75 hw, wx_K75 hw, wx_g0_7 hw, wx_s0_7 hw, wx_N88 hw, wx_a88 hw, wx_g0_8 hw, wx_s0_8 hw, wx_N89 hw, wx_a89 hw, wx_g0_9 hw, wx_s0_9 hw, wx_N90 hw, wx_a90 hw, wx_g0_10 hw, wx_s0_10 hw, wx_N91 hw, wx_a91 hw, wx_o6 hw, wx_k6 hw, wx_q6 hw, wx_g6_0 hw, wx_s6_0 hw, wx_N7 hw, wx_a7 hw, wx_K7 hw, wx_g6_1 hw, wx_s6_1 hw, wx_N8 hw, wx_a8 hw, wx_g6_2 hw, wx_s6_2 hw, wx_N9 hw, wx_a9 hw, wx_g6_3 hw, wx_s6_3 hw, wx_N10 hw, wx_a10 hw, wx_g6_4 hw, wx_s6_4 hw, wx_N11 hw, wx_a11 hw, wx_g6_5 hw, wx_s6_5 hw, wx_N12 hw, wx_a12 hw, wx_g6_6 hw, wx_s6_6 hw, wx_N13 hw, wx_a13 hw, wx_g6_7 hw, wx_s6_7 hw, wx_N14 hw, wx_a14 hw, List.not_mem_nil, false_implies, implies_true, nI_clamp, nI_add, Nat.reducePow, hp_bd, hp_bdi, hp_ts, hp_tn, hp_tsc, hp_tnc, Nat.reduceAdd, Nat.reduceSub, Nat.reduceMul, Nat.reduceLT, Nat.reduceLeDiff, Nat.reduceEqDiff, reduceIte, not_true_eq_false, not_false_eq_true, and_true, true_and, and_self, and_false, false_and, or_true, true_or, or_false, false_or, decide_true, decide_false, Bool.and_true, Bool.true_and, Bool.not_false, Bool.or_false, Bool.false_or, Bool.or_true, Bool.true_or, hx, h1]
    · have eo : op_22 G x = (-1, G) := by unfold op_22; rw [if_neg hx, ep]
      have h1 : (x < nI 1) = False := by
        refine eq_false ?_
        have := of_eq_true a3
        rw [Int32.lt_iff_toInt_lt] at this ⊢
        have e0 : (nI 3).toInt = 3 := rfl
        have e1 : (nI 1).toInt = 1 := rfl
        omega
      rw [eo]
      refine oC_id hR ?_
      simp only [b95_0, b95_5, b95_10, b95_15, b95_17, b95_22, b95_32, b95_44, b95_47, b95_68, b95_80, e95, wx_o0 hw, wx_k0 hw, wx_q0 hw, wx_g0_0 hw, wx_s0_0 hw, wx_g0_1 hw, wx_s0_1 hw, wx_g0_2 hw, wx_s0_2 hw, wx_g0_3 hw, wx_s0_3 hw, wx_g0_4 hw, wx_s0_4 hw, wx_N42 hw, wx_a42 hw, wx_K42 hw, wx_g0_5 hw, wx_s0_5 hw, wx_g0_6 hw, wx_s0_6 hw, wx_N75 hw, wx_a75 hw, wx_K75 hw, wx_g0_7 hw, wx_s0_7 hw, wx_N88 hw, wx_a88 hw, wx_g0_8 hw, wx_s0_8 hw, wx_N89 hw, wx_a89 hw, wx_g0_9 hw, wx_s0_9 hw, wx_N90 hw, wx_a90 hw, wx_g0_10 hw, wx_s0_10 hw, wx_N91 hw, wx_a91 hw, wx_o6 hw, wx_k6 hw, wx_q6 hw, wx_g6_0 hw, wx_s6_0 hw, wx_N7 hw, wx_a7 hw, wx_K7 hw, wx_g6_1 hw, wx_s6_1 hw, wx_N8 hw, wx_a8 hw, wx_g6_2 hw, wx_s6_2 hw, wx_N9 hw, wx_a9 hw, wx_g6_3 hw, wx_s6_3 hw, wx_N10 hw, wx_a10 hw, wx_g6_4 hw, wx_s6_4 hw, wx_N11 hw, wx_a11 hw, wx_g6_5 hw, wx_s6_5 hw, wx_N12 hw, wx_a12 hw, wx_g6_6 hw, wx_s6_6 hw, wx_N13 hw, wx_a13 hw, wx_g6_7 hw, wx_s6_7 hw, wx_N14 hw, wx_a14 hw, List.not_mem_nil, false_implies, implies_true, nI_clamp, nI_add, Nat.reducePow, hp_bd, hp_bdi, hp_ts, hp_tn, hp_tsc, hp_tnc, Nat.reduceAdd, Nat.reduceSub, Nat.reduceMul, Nat.reduceLT, Nat.reduceLeDiff, Nat.reduceEqDiff, reduceIte, not_true_eq_false, not_false_eq_true, and_true, true_and, and_self, and_false, false_and, or_true, true_or, or_false, false_or, decide_true, decide_false, Bool.and_true, Bool.true_and, Bool.not_false, Bool.or_false, Bool.false_or, Bool.or_true, Bool.true_or, hx, h1, a4]
    · by_cases h0 : n = 0
      · subst h0
        have eo : op_22 G (nI 0) = (-1, G) := by unfold op_22; rw [if_neg hx, ep]; rfl
        have h1 : (nI 0 < nI 1) = True := eq_true (by decide)
        rw [eo]
        refine oC_id hR ?_
        simp only [b95_0, b95_5, b95_10, b95_15, b95_17, b95_22, b95_32, b95_44, b95_47, b95_68, b95_80, e95, wx_o0 hw, wx_k0 hw, wx_q0 hw, wx_g0_0 hw, wx_s0_0 hw, wx_g0_1 hw, wx_s0_1 hw, wx_g0_2 hw, wx_s0_2 hw, wx_g0_3 hw, wx_s0_3 hw, wx_g0_4 hw, wx_s0_4 hw, wx_N42 hw, wx_a42 hw, wx_K42 hw, wx_g0_5 hw, wx_s0_5 hw, wx_g0_6 hw, wx_s0_6 hw, wx_N75 hw, wx_a75 hw, wx_K75 hw, wx_g0_7 hw, wx_s0_7 hw, wx_N88 hw, wx_a88 hw, wx_g0_8 hw, wx_s0_8 hw, wx_N89 hw, wx_a89 hw, wx_g0_9 hw, wx_s0_9 hw, wx_N90 hw, wx_a90 hw, wx_g0_10 hw, wx_s0_10 hw, wx_N91 hw, wx_a91 hw, wx_o6 hw, wx_k6 hw, wx_q6 hw, wx_g6_0 hw, wx_s6_0 hw, wx_N7 hw, wx_a7 hw, wx_K7 hw, wx_g6_1 hw, wx_s6_1 hw, wx_N8 hw, wx_a8 hw, wx_g6_2 hw, wx_s6_2 hw, wx_N9 hw, wx_a9 hw, wx_g6_3 hw, wx_s6_3 hw, wx_N10 hw, wx_a10 hw, wx_g6_4 hw, wx_s6_4 hw, wx_N11 hw, wx_a11 hw, wx_g6_5 hw, wx_s6_5 hw, wx_N12 hw, wx_a12 hw, wx_g6_6 hw, wx_s6_6 hw, wx_N13 hw, wx_a13 hw, wx_g6_7 hw, wx_s6_7 hw, wx_N14 hw, wx_a14 hw, List.not_mem_nil, false_implies, implies_true, nI_clamp, nI_add, Nat.reducePow, hp_bd, hp_bdi, hp_ts, hp_tn, hp_tsc, hp_tnc, Nat.reduceAdd, Nat.reduceSub, Nat.reduceMul, Nat.reduceLT, Nat.reduceLeDiff, Nat.reduceEqDiff, reduceIte, not_true_eq_false, not_false_eq_true, and_true, true_and, and_self, and_false, false_and, or_true, true_or, or_false, false_or, decide_true, decide_false, Bool.and_true, Bool.true_and, Bool.not_false, Bool.or_false, Bool.false_or, Bool.or_true, Bool.true_or, hx, h1]
      · have h1 : (nI n < nI 1) = False := eq_false (nI_nlt (by omega) (by omega))
        by_cases hf : (gx_f G.1).length = 12
        · have eo : op_22 G (nI n) = (-4, G) := by unfold op_22; rw [if_neg hx, ep]; simp only [h0, hf, if_true, if_false]
          have h2 : (nI (gx_f G.1).length < nI 12) = False := eq_false (nI_nlt (by omega) (by omega))
          rw [eo]
          refine oC_id hR ?_
          simp only [b95_0, b95_5, b95_10, b95_15, b95_17, b95_22, b95_32, b95_44, b95_47, b95_68, b95_80, e95, wx_o0 hw, wx_k0 hw, wx_q0 hw, wx_g0_0 hw, wx_s0_0 hw, wx_g0_1 hw, wx_s0_1 hw, wx_g0_2 hw, wx_s0_2 hw, wx_g0_3 hw, wx_s0_3 hw, wx_g0_4 hw, wx_s0_4 hw, wx_N42 hw, wx_a42 hw, wx_K42 hw, wx_g0_5 hw, wx_s0_5 hw, wx_g0_6 hw, wx_s0_6 hw, wx_N75 hw, wx_a75 hw, wx_K75 hw, wx_g0_7 hw, wx_s0_7 hw, wx_N88 hw, wx_a88 hw, wx_g0_8 hw, wx_s0_8 hw, wx_N89 hw, wx_a89 hw, wx_g0_9 hw, wx_s0_9 hw, wx_N90 hw, wx_a90 hw, wx_g0_10 hw, wx_s0_10 hw, wx_N91 hw, wx_a91 hw, wx_o6 hw, wx_k6 hw, wx_q6 hw, wx_g6_0 hw, wx_s6_0 hw, wx_N7 hw, wx_a7 hw, wx_K7 hw, wx_g6_1 hw, wx_s6_1 hw, wx_N8 hw, wx_a8 hw, wx_g6_2 hw, wx_s6_2 hw, wx_N9 hw, wx_a9 hw, wx_g6_3 hw, wx_s6_3 hw, wx_N10 hw, wx_a10 hw, wx_g6_4 hw, wx_s6_4 hw, wx_N11 hw, wx_a11 hw, wx_g6_5 hw, wx_s6_5 hw, wx_N12 hw, wx_a12 hw, wx_g6_6 hw, wx_s6_6 hw, wx_N13 hw, wx_a13 hw, wx_g6_7 hw, wx_s6_7 hw, wx_N14 hw, wx_a14 hw, List.not_mem_nil, false_implies, implies_true, nI_clamp, nI_add, Nat.reducePow, hp_bd, hp_bdi, hp_ts, hp_tn, hp_tsc, hp_tnc, Nat.reduceAdd, Nat.reduceSub, Nat.reduceMul, Nat.reduceLT, Nat.reduceLeDiff, Nat.reduceEqDiff, reduceIte, not_true_eq_false, not_false_eq_true, and_true, true_and, and_self, and_false, false_and, or_true, true_or, or_false, false_or, decide_true, decide_false, Bool.and_true, Bool.true_and, Bool.not_false, Bool.or_false, Bool.false_or, Bool.or_true, Bool.true_or, hx, h1, a4, h17, h2]
        · have eo : op_22 G (nI n) = (nI ((gx_f G.1).length + 1), gX_f G.1 (gx_f G.1 ++ [n]), G.2) := by unfold op_22; rw [if_neg hx, ep]; simp only [h0, hf, if_false]
          have h2 : (nI (gx_f G.1).length < nI 12) = True := eq_true (nI_lt (by omega) (by omega))
          have cl : (nI (gx_f G.1).length).toNatClampNeg = (gx_f G.1).length := nI_clamp (by omega)
          have hbi : mm_inb (nI (gx_f G.1).length) 12 = true := hp_inb (by omega) (by omega)
          have f : sf_f gc_6m S (mm_uM (mm_uM S 13 (gx_f G.1).length (nI n)) 6 17 (nI ((gx_f G.1).length + 1))) := sf_tr (sf_uM (Or.inl rfl)) (sf_uM (Or.inr ⟨rfl, Or.inr rfl⟩))
          obtain ⟨g1, g2, g3⟩ := X_m f hR.2.1
          have r1 : mm_M (mm_uM S 13 (gx_f G.1).length (nI n)) 6 17 = nI (gx_f G.1).length := (rdn (by omega)).trans h17
          have r2 : mm_M (mm_uM (mm_uM S 13 (gx_f G.1).length (nI n)) 6 17 (nI ((gx_f G.1).length + 1))) 6 17 = nI ((gx_f G.1).length + 1) := rds
          rw [eo]
          refine oC_6 ok hR (T := mm_uM (mm_uM S 13 (gx_f G.1).length (nI n)) 6 17 (nI ((gx_f G.1).length + 1))) ?_ (m6_6 f) hw ⟨g1, g2, (rdn (by omega)).trans ((rdn (by omega)).trans hR.2.1.2.2.1), ?_, fun i hi => ?_, g3⟩ hR.2.2.1 (sz_s rfl rfl)
          · simp only [b95_0, b95_5, b95_10, b95_15, b95_17, b95_22, b95_32, b95_44, b95_47, b95_68, b95_80, e95, wx_o0 hw, wx_k0 hw, wx_q0 hw, wx_g0_0 hw, wx_s0_0 hw, wx_g0_1 hw, wx_s0_1 hw, wx_g0_2 hw, wx_s0_2 hw, wx_g0_3 hw, wx_s0_3 hw, wx_g0_4 hw, wx_s0_4 hw, wx_N42 hw, wx_a42 hw, wx_K42 hw, wx_g0_5 hw, wx_s0_5 hw, wx_g0_6 hw, wx_s0_6 hw, wx_N75 hw, wx_a75 hw, wx_K75 hw, wx_g0_7 hw, wx_s0_7 hw, wx_N88 hw, wx_a88 hw, wx_g0_8 hw, wx_s0_8 hw, wx_N89 hw, wx_a89 hw, wx_g0_9 hw, wx_s0_9 hw, wx_N90 hw, wx_a90 hw, wx_g0_10 hw, wx_s0_10 hw, wx_N91 hw, wx_a91 hw, wx_o6 hw, wx_k6 hw, wx_q6 hw, wx_g6_0 hw, wx_s6_0 hw, wx_N7 hw, wx_a7 hw, wx_K7 hw, wx_g6_1 hw, wx_s6_1 hw, wx_N8 hw, wx_a8 hw, wx_g6_2 hw, wx_s6_2 hw, wx_N9 hw, wx_a9 hw, wx_g6_3 hw, wx_s6_3 hw, wx_N10 hw, wx_a10 hw, wx_g6_4 hw, wx_s6_4 hw, wx_N11 hw, wx_a11 hw, wx_g6_5 hw, wx_s6_5 hw, wx_N12 hw, wx_a12 hw, wx_g6_6 hw, wx_s6_6 hw, wx_N13 hw, wx_a13 hw, wx_g6_7 hw, wx_s6_7 hw, wx_N14 hw, wx_a14 hw, List.not_mem_nil, false_implies, implies_true, nI_clamp, nI_add, Nat.reducePow, hp_bd, hp_bdi, hp_ts, hp_tn, hp_tsc, hp_tnc, Nat.reduceAdd, Nat.reduceSub, Nat.reduceMul, Nat.reduceLT, Nat.reduceLeDiff, Nat.reduceEqDiff, reduceIte, not_true_eq_false, not_false_eq_true, and_true, true_and, and_self, and_false, false_and, or_true, true_or, or_false, false_or, decide_true, decide_false, Bool.and_true, Bool.true_and, Bool.not_false, Bool.or_false, Bool.false_or, Bool.or_true, Bool.true_or, hp_MuM, hp_LuL, hp_RuR, hp_McpM, hp_LcpL, hp_LuM, hp_RuM, hp_KuM, hp_NuM, hp_nuM, hp_zuM, hp_ouM, hp_auM, hp_kuM, hp_guM, hp_MuL, hp_RuL, hp_KuL, hp_NuL, hp_nuL, hp_zuL, hp_ouL, hp_auL, hp_kuL, hp_guL, hp_MuR, hp_LuR, hp_KuR, hp_NuR, hp_nuR, hp_zuR, hp_ouR, hp_auR, hp_kuR, hp_LcpM, hp_RcpM, hp_KcpM, hp_NcpM, hp_ncpM, hp_zcpM, hp_ocpM, hp_acpM, hp_kcpM, hp_gcpM, hp_McpL, hp_RcpL, hp_KcpL, hp_NcpL, hp_ncpL, hp_zcpL, hp_ocpL, hp_acpL, hp_kcpL, hp_gcpL, hp_MwM, hp_LwM, hp_RwM, hp_KwM, hp_NwM, hp_nwM, hp_zwM, hp_owM, hp_awM, hp_kwM, hp_gwM, hp_MwR, hp_LwR, hp_RwR, hp_KwR, hp_NwR, hp_nwR, hp_zwR, hp_owR, hp_awR, hp_kwR, hp_MwL, hp_LwL, hp_RwL, hp_KwL, hp_NwL, hp_nwL, hp_zwL, hp_owL, hp_awL, hp_kwL, hp_gwL, hp_w2M, hp_w2R, hp_w2L, hx, h1, a4, h17, h2, cl, hbi, r1, r2]
          · rw [rds]
            show _ = nI (gx_f G.1 ++ [n]).length
            rw [List.length_append]; rfl
          · have hi : i < (gx_f G.1 ++ [n]).length := hi
            rw [List.length_append] at hi
            show mm_M _ 13 i = nI ((gx_f G.1 ++ [n]).getD i 0)
            rw [rdn (by omega), rdk]
            by_cases e : i = (gx_f G.1).length
            · rw [if_pos e, e, List.getD_eq_getElem?_getD, List.getElem?_append_right (Nat.le_refl _), Nat.sub_self]; rfl
            · have hi2 : i < (gx_f G.1).length := by
                have : [n].length = 1 := rfl
                omega
              rw [if_neg e, List.getD_eq_getElem?_getD, List.getElem?_append_left hi2, ← List.getD_eq_getElem?_getD]
              exact hi6 i hi2
theorem c_25 (ok : gb_ok G) (hR : RC S G) : oC S (d + 2) 98 [.ref 0] (.int (op_25 G).1) (op_25 G).2 := by
  have hw := hR.1
  have k7 := s7 (d := d) hw dy15 dy6 (by decide) hR.2.2.1
  have w1 := w_cD (S := S) (b := 6) dy15 hw
  have f1 := cD_sf (S := S) (a := 15) (b := 6)
  have X1 := cD_X hw dy15 ok.1.1 (row_le ok.1.1 ok.1.2.1) ok.1.2.2.2.1 hR.2.1
  have f2 : sf_f (fun c j => c = 0 ∧ j = 12) (mm_cD S 15 6) (mm_uM (mm_cD S 15 6) 0 12 (nI 1)) := sf_uM ⟨rfl, rfl⟩
  have f : sf_f (fun c j => gc_dy 15 c j ∨ (c = 0 ∧ j = 12)) S (mm_uM (mm_cD S 15 6) 0 12 (nI 1)) := sf_tr (sf_mo f1 fun c j h => Or.inl h) (sf_mo f2 fun c j h => Or.inr h)
  have o1 : sf_o (fun c j => gc_dy 15 c j ∨ (c = 0 ∧ j = 12)) S := by
    refine ⟨fun c j hc _ (h : (15 ≤ c ∧ c ≤ 15 + 7) ∨ (c = 0 ∧ j = 12)) => by omega, fun s m j hs hm (h : (15 ≤ s + m ∧ s + m ≤ 15 + 7) ∨ (s + m = 0 ∧ j = 12)) => ?_⟩
    unfold mm_sh at hs
    omega
  have o2 : sf_o (fun c j => c = 0 ∧ j = 12) (mm_cD S 15 6) := by
    refine ⟨fun c j hc _ (h : c = 0 ∧ j = 12) => by omega, fun s m j hs hm (h : s + m = 0 ∧ j = 12) => ?_⟩
    unfold mm_sh at hs
    omega
  have k10 : mm_M (mm_uM (mm_cD S 15 6) 0 12 (nI 1)) 6 10 = nI (gK G) := (f.1 6 10 (fun (h : (15 ≤ 6 ∧ 6 ≤ 15 + 7) ∨ (6 = 0 ∧ 10 = 12)) => by omega)).1.trans hR.2.1.1.1
  refine ⟨mm_uM (mm_cD S 15 6) 0 12 (nI 1), ?_, ?_, sf_mo f (fun c j (h : (15 ≤ c ∧ c ≤ 15 + 7) ∨ (c = 0 ∧ j = 12)) => by unfold gc_0; omega), sz_s rfl rfl⟩
  · have w2 : mm_W (mm_uM (mm_cD S 15 6) 0 12 (nI 1)) := w1
    rw [e98, b98_0 (wx_o0 hw) (wx_s0_1 hw) (wx_s0_0 hw) (by rw [wx_g0_1 hw]; exact wx_k15 hw), wx_g0_1 hw, wx_g0_0 hw, k7, hp_bd, hp_tn, b98_11 (wx_o0 w1) (wx_s0_0 w1), wx_g0_0 w1, b98_20 (wx_o6 w2), k10]
    rfl
  · obtain ⟨-, h1, h2, h3, h4, h5, h6, h7, h8⟩ := hR
    refine ⟨w1, tr_X f o1 (fun m j hm (h : (15 ≤ 6 + m ∧ 6 + m ≤ 15 + 7) ∨ (6 + m = 0 ∧ j = 12)) => by omega) h1, tr_q f (fun j (h : (15 ≤ 6 + 1 ∧ 6 + 1 ≤ 15 + 7) ∨ (6 + 1 = 0 ∧ j = 12)) => by omega) (fun (h : (15 ≤ 6 ∧ 6 ≤ 15 + 7) ∨ (6 = 0 ∧ 8 = 12)) => by omega) h2, tr_q f2 (fun j (h : 15 + 1 = 0 ∧ j = 12) => by omega) (fun (h : 15 = 0 ∧ 8 = 12) => by omega) (cD_q h2), ⟨rds, tr_X f2 o2 (fun m j hm (h : 15 + m = 0 ∧ j = 12) => by omega) X1⟩, tr_s ok.2.2.1 f o1 (fun (h : (15 ≤ 0 ∧ 0 ≤ 15 + 7) ∨ (0 = 0 ∧ 11 = 12)) => by omega) h5, tr_t f (fun (h : (15 ≤ 73 ∧ 73 ≤ 15 + 7) ∨ (73 = 0 ∧ 0 = 12)) => by omega) (fun j (h : (15 ≤ 74 ∧ 74 ≤ 15 + 7) ∨ (74 = 0 ∧ j = 12)) => by omega) h6, tr_p f (fun c j a b (h : (15 ≤ c ∧ c ≤ 15 + 7) ∨ (c = 0 ∧ j = 12)) => by omega) h7, tr_r f (fun j (h : (15 ≤ 88 ∧ 88 ≤ 15 + 7) ∨ (88 = 0 ∧ j = 12)) => by omega) h8⟩
theorem c_26 (ok : gb_ok G) (hR : RC S G) : oC S (d + 2) 99 [.ref 0] (.int (op_26 G).1) (op_26 G).2 := by
  have hw := hR.1
  have hi := hR.2.2.2.2.1
  cases e : gb_i G with
  | none =>
    have eo : op_26 G = (-3, G) := by unfold op_26; rw [e]
    rw [e] at hi
    have hi : mm_M S 0 12 = nI 0 := hi
    rw [eo]
    refine oC_id hR ?_
    rw [e99, b99_0 (wx_o0 hw), hi, if_pos rfl, b99_7]
  | some Y =>
    have eo : op_26 G = (nI (ab_kn (gx_P Y)), Y, G.2) := by unfold op_26; rw [e]
    have okY := ok.2.1 Y e
    rw [e] at hi
    obtain ⟨hi1, hi2⟩ := hi
    have k7 := s7 (d := d) hw dy6 dy15 (by decide) hR.2.2.2.1
    have w1 := w_cD (S := S) (b := 15) dy6 hw
    have f1 := cD_sf (S := S) (a := 6) (b := 15)
    have X1 := cD_X hw dy6 okY.1 (row_le okY.1 okY.2.1) okY.2.2.2.1 hi2
    rw [eo]
    refine oC_6 ok hR (T := mm_cD S 6 15) ?_ (sf_mo f1 (fun c j h => by unfold gc_dy at h; unfold gc_6; omega)) w1 X1 (cD_q hR.2.2.2.1) (sz_s rfl rfl)
    rw [e99, b99_0 (wx_o0 hw), hi1, if_neg i01, b99_10 (wx_o0 hw) (wx_s0_0 hw) (wx_s0_1 hw) (by rw [wx_g0_0 hw]; exact wx_k6 hw), wx_g0_1 hw, wx_g0_0 hw, k7, hp_bd, hp_tn, b99_21 (wx_o0 w1) (wx_s0_0 w1) (by rw [wx_g0_0 w1]; exact wx_o6 w1), wx_g0_0 w1, X1.1.1]
theorem c_28 (ok : gb_ok G) (hR : RC S G) : oC S (d + 1) 101 [.ref 0, .int x] (.int (an_28 G x)) G := by
  have hw := hR.1
  have hl : (gb_r G).length ≤ 20 := ok.2.2.2.2.2.2.2.1
  obtain ⟨h0, h1⟩ := hR.2.2.2.2.2.2.2.2
  refine oC_id hR ?_
  unfold an_28
  have hmin : (if nI 20 < nI (gb_r G).length then nI 20 else nI (gb_r G).length) = nI (gb_r G).length := if_neg (nI_nlt hl (by omega))
  have c0 : (nI 0).toNatClampNeg = 0 := nI_clamp (by decide)
  have i0 : mm_inb (nI 0) 21 = true := by decide
  unfold ab_kw
  by_cases a1 : x < nI 0
  · rw [if_pos (Or.inl a1)]
    simp only [b101_0, b101_4, b101_19, b101_30, e101, wx_o0 hw, wx_k0 hw, wx_q0 hw, wx_g0_0 hw, wx_s0_0 hw, wx_g0_1 hw, wx_s0_1 hw, wx_g0_2 hw, wx_s0_2 hw, wx_g0_3 hw, wx_s0_3 hw, wx_g0_4 hw, wx_s0_4 hw, wx_N42 hw, wx_a42 hw, wx_K42 hw, wx_g0_5 hw, wx_s0_5 hw, wx_g0_6 hw, wx_s0_6 hw, wx_N75 hw, wx_a75 hw, wx_K75 hw, wx_g0_7 hw, wx_s0_7 hw, wx_N88 hw, wx_a88 hw, wx_g0_8 hw, wx_s0_8 hw, wx_N89 hw, wx_a89 hw, wx_g0_9 hw, wx_s0_9 hw, wx_N90 hw, wx_a90 hw, wx_g0_10 hw, wx_s0_10 hw, wx_N91 hw, wx_a91 hw, List.not_mem_nil, false_implies, implies_true, nI_clamp, nI_add, Nat.reducePow, hp_bd, hp_bdi, hp_ts, hp_tn, hp_tsc, hp_tnc, Nat.reduceAdd, Nat.reduceSub, Nat.reduceMul, Nat.reduceLT, Nat.reduceLeDiff, Nat.reduceEqDiff, reduceIte, not_true_eq_false, not_false_eq_true, and_true, true_and, and_self, and_false, false_and, or_true, true_or, or_false, false_or, decide_true, decide_false, Bool.and_true, Bool.true_and, Bool.not_false, Bool.or_false, Bool.false_or, Bool.or_true, Bool.true_or, a1]
  · by_cases a2 : nI (gb_r G).length ≤ x
    · rw [if_pos (Or.inr a2)]
      simp only [b101_0, b101_4, b101_19, b101_30, e101, wx_o0 hw, wx_k0 hw, wx_q0 hw, wx_g0_0 hw, wx_s0_0 hw, wx_g0_1 hw, wx_s0_1 hw, wx_g0_2 hw, wx_s0_2 hw, wx_g0_3 hw, wx_s0_3 hw, wx_g0_4 hw, wx_s0_4 hw, wx_N42 hw, wx_a42 hw, wx_K42 hw, wx_g0_5 hw, wx_s0_5 hw, wx_g0_6 hw, wx_s0_6 hw, wx_N75 hw, wx_a75 hw, wx_K75 hw, wx_g0_7 hw, wx_s0_7 hw, wx_N88 hw, wx_a88 hw, wx_g0_8 hw, wx_s0_8 hw, wx_N89 hw, wx_a89 hw, wx_g0_9 hw, wx_s0_9 hw, wx_N90 hw, wx_a90 hw, wx_g0_10 hw, wx_s0_10 hw, wx_N91 hw, wx_a91 hw, List.not_mem_nil, false_implies, implies_true, nI_clamp, nI_add, Nat.reducePow, hp_bd, hp_bdi, hp_ts, hp_tn, hp_tsc, hp_tnc, Nat.reduceAdd, Nat.reduceSub, Nat.reduceMul, Nat.reduceLT, Nat.reduceLeDiff, Nat.reduceEqDiff, reduceIte, not_true_eq_false, not_false_eq_true, and_true, true_and, and_self, and_false, false_and, or_true, true_or, or_false, false_or, decide_true, decide_false, Bool.and_true, Bool.true_and, Bool.not_false, Bool.or_false, Bool.false_or, Bool.or_true, Bool.true_or, a1, a2, c0, i0, h0, hmin]
    · rw [if_neg (fun e => e.elim a1 a2)]
      rcases kw_d (n := 20) (m := 21) rfl (by decide) x with ⟨-, b1, -⟩ | ⟨-, -, -, b3, -⟩ | ⟨n, hp, -, rfl, -⟩
      · exact absurd (of_eq_true b1) a1
      · exfalso
        have := of_eq_true b3
        rw [Int32.lt_iff_toInt_lt] at this
        rw [Int32.le_iff_toInt_le, nI_toInt (by omega)] at a2
        have e0 : (nI 20).toInt = 20 := rfl
        omega
      · have hn : n < (gb_r G).length := by
          rw [nI_leI (by omega) (by omega)] at a2
          omega
        have cl : (nI n).toNatClampNeg = n := nI_clamp (by omega)
        have cl2 : (nI (1 + n)).toNatClampNeg = 1 + n := nI_clamp (by omega)
        have i2 : mm_inb (nI (1 + n)) 21 = true := hp_inb (by omega) (by omega)
        have g := h1 n hn
        simp only [b101_0, b101_4, b101_19, b101_30, e101, wx_o0 hw, wx_k0 hw, wx_q0 hw, wx_g0_0 hw, wx_s0_0 hw, wx_g0_1 hw, wx_s0_1 hw, wx_g0_2 hw, wx_s0_2 hw, wx_g0_3 hw, wx_s0_3 hw, wx_g0_4 hw, wx_s0_4 hw, wx_N42 hw, wx_a42 hw, wx_K42 hw, wx_g0_5 hw, wx_s0_5 hw, wx_g0_6 hw, wx_s0_6 hw, wx_N75 hw, wx_a75 hw, wx_K75 hw, wx_g0_7 hw, wx_s0_7 hw, wx_N88 hw, wx_a88 hw, wx_g0_8 hw, wx_s0_8 hw, wx_N89 hw, wx_a89 hw, wx_g0_9 hw, wx_s0_9 hw, wx_N90 hw, wx_a90 hw, wx_g0_10 hw, wx_s0_10 hw, wx_N91 hw, wx_a91 hw, List.not_mem_nil, false_implies, implies_true, nI_clamp, nI_add, Nat.reducePow, hp_bd, hp_bdi, hp_ts, hp_tn, hp_tsc, hp_tnc, Nat.reduceAdd, Nat.reduceSub, Nat.reduceMul, Nat.reduceLT, Nat.reduceLeDiff, Nat.reduceEqDiff, reduceIte, not_true_eq_false, not_false_eq_true, and_true, true_and, and_self, and_false, false_and, or_true, true_or, or_false, false_or, decide_true, decide_false, Bool.and_true, Bool.true_and, Bool.not_false, Bool.or_false, Bool.false_or, Bool.or_true, Bool.true_or, a1, a2, c0, i0, h0, hmin, cl, cl2, i2, g]
theorem s112 {e b k v q : Nat} (hk : k < 7) (hy : cd_by S e b k v q) {n : Nat} (hn : n < 7) : mm_cl d 112 [.ref e, .int (nI n)] S = some (some (.int (if n ∈ ab_above k then nI 1 else nI 0)), S) := by
  have ho := by_o hk hy
  have hK := hy.2.2.1
  have q1 : narrow .boolean (.int (1 : Int32)) = .int 1 := rfl
  have q0 : narrow .boolean (.int (0 : Int32)) = .int 0 := rfl
  have q : ∀ p : Prop, [Decidable p] → narrow .boolean (.int (if p then (1 : Int32) else 0)) = .int (if p then 1 else 0) := by intro p _; split <;> rfl
  rw [e112, b112_0, b112_1]
  rcases (by omega : n = 0 ∨ n = 1 ∨ n = 2 ∨ n = 3 ∨ n = 4 ∨ n = 5 ∨ n = 6) with rfl | rfl | rfl | rfl | rfl | rfl | rfl
  · rw [if_pos rfl, b112_44]
    rcases (by omega : k = 0 ∨ k = 1 ∨ k = 2 ∨ k = 3 ∨ k = 4 ∨ k = 5 ∨ k = 6) with rfl | rfl | rfl | rfl | rfl | rfl | rfl <;> rfl
  · rw [if_neg (by decide), if_pos rfl, b112_46 ho (q _), hK]
    rcases (by omega : k = 0 ∨ k = 1 ∨ k = 2 ∨ k = 3 ∨ k = 4 ∨ k = 5 ∨ k = 6) with rfl | rfl | rfl | rfl | rfl | rfl | rfl <;> rfl
  · rw [if_neg (by decide), if_neg (by decide), if_pos rfl, b112_51 ho (q _), hK]
    rcases (by omega : k = 0 ∨ k = 1 ∨ k = 2 ∨ k = 3 ∨ k = 4 ∨ k = 5 ∨ k = 6) with rfl | rfl | rfl | rfl | rfl | rfl | rfl <;> rfl
  · rw [if_neg (by decide), if_neg (by decide), if_neg (by decide), if_pos rfl, b112_56 ho (q _), hK]
    rcases (by omega : k = 0 ∨ k = 1 ∨ k = 2 ∨ k = 3 ∨ k = 4 ∨ k = 5 ∨ k = 6) with rfl | rfl | rfl | rfl | rfl | rfl | rfl <;> rfl
  · rw [if_neg (by decide), if_neg (by decide), if_neg (by decide), if_neg (by decide), if_pos rfl, b112_61 ho (q _), hK]
    rcases (by omega : k = 0 ∨ k = 1 ∨ k = 2 ∨ k = 3 ∨ k = 4 ∨ k = 5 ∨ k = 6) with rfl | rfl | rfl | rfl | rfl | rfl | rfl <;> rfl
  · rw [if_neg (by decide), if_neg (by decide), if_neg (by decide), if_neg (by decide), if_neg (by decide), if_pos rfl, b112_66 ho (q _), hK]
    rcases (by omega : k = 0 ∨ k = 1 ∨ k = 2 ∨ k = 3 ∨ k = 4 ∨ k = 5 ∨ k = 6) with rfl | rfl | rfl | rfl | rfl | rfl | rfl <;> rfl
  · rw [if_neg (by decide), if_neg (by decide), if_neg (by decide), if_neg (by decide), if_neg (by decide), if_neg (by decide), if_pos rfl, b112_71 ho (q _), hK]
    rcases (by omega : k = 0 ∨ k = 1 ∨ k = 2 ∨ k = 3 ∨ k = 4 ∨ k = 5 ∨ k = 6) with rfl | rfl | rfl | rfl | rfl | rfl | rfl <;> rfl
theorem c_29 (ok : gb_ok G) (hR : RC S G) : oC S (d + 1) 102 [.ref 0, .int x, .int y] (.int (an_29 G x y)) G := by
  have hw := hR.1
  have hk : gK G ≤ 6 := ok.1.1.1
  refine oC_id hR ?_
  rcases kw_d (n := 6) (m := 7) rfl (by decide) y with ⟨ep, a1, a2, a3, a4, a5, a6⟩ | ⟨ep, a1, a2, a3, a4, a5, a6⟩ | ⟨n, hp, ep, rfl, a1, a2, a3, a4, a5, a6⟩
  · have eo : an_29 G x y = -2 := by unfold an_29; simp only [ep]
    simp only [eo, b102_0, b102_4, b102_10, b102_13, b102_21, b102_24, b102_27, b102_42, b102_45, b102_52, e102, wx_o0 hw, wx_k0 hw, wx_q0 hw, wx_g0_0 hw, wx_s0_0 hw, wx_g0_1 hw, wx_s0_1 hw, wx_g0_2 hw, wx_s0_2 hw, wx_g0_3 hw, wx_s0_3 hw, wx_g0_4 hw, wx_s0_4 hw, wx_N42 hw, wx_a42 hw, wx_K42 hw, wx_g0_5 hw, wx_s0_5 hw, wx_g0_6 hw, wx_s0_6 hw, wx_N75 hw, wx_a75 hw, wx_K75 hw, wx_g0_7 hw, wx_s0_7 hw, wx_N88 hw, wx_a88 hw, wx_g0_8 hw, wx_s0_8 hw, wx_N89 hw, wx_a89 hw, wx_g0_9 hw, wx_s0_9 hw, wx_N90 hw, wx_a90 hw, wx_g0_10 hw, wx_s0_10 hw, wx_N91 hw, wx_a91 hw, wx_o6 hw, wx_k6 hw, wx_q6 hw, wx_g6_0 hw, wx_s6_0 hw, wx_N7 hw, wx_a7 hw, wx_K7 hw, wx_g6_1 hw, wx_s6_1 hw, wx_N8 hw, wx_a8 hw, wx_g6_2 hw, wx_s6_2 hw, wx_N9 hw, wx_a9 hw, wx_g6_3 hw, wx_s6_3 hw, wx_N10 hw, wx_a10 hw, wx_g6_4 hw, wx_s6_4 hw, wx_N11 hw, wx_a11 hw, wx_g6_5 hw, wx_s6_5 hw, wx_N12 hw, wx_a12 hw, wx_g6_6 hw, wx_s6_6 hw, wx_N13 hw, wx_a13 hw, wx_g6_7 hw, wx_s6_7 hw, wx_N14 hw, wx_a14 hw, List.not_mem_nil, false_implies, implies_true, nI_clamp, nI_add, Nat.reducePow, hp_bd, hp_bdi, hp_ts, hp_tn, hp_tsc, hp_tnc, Nat.reduceAdd, Nat.reduceSub, Nat.reduceMul, Nat.reduceLT, Nat.reduceLeDiff, Nat.reduceEqDiff, reduceIte, not_true_eq_false, not_false_eq_true, and_true, true_and, and_self, and_false, false_and, or_true, true_or, or_false, false_or, decide_true, decide_false, Bool.and_true, Bool.true_and, Bool.not_false, Bool.or_false, Bool.false_or, Bool.or_true, Bool.true_or, a1, a4]
  · have eo : an_29 G x y = -2 := by unfold an_29; simp only [ep]
    simp only [eo, b102_0, b102_4, b102_10, b102_13, b102_21, b102_24, b102_27, b102_42, b102_45, b102_52, e102, wx_o0 hw, wx_k0 hw, wx_q0 hw, wx_g0_0 hw, wx_s0_0 hw, wx_g0_1 hw, wx_s0_1 hw, wx_g0_2 hw, wx_s0_2 hw, wx_g0_3 hw, wx_s0_3 hw, wx_g0_4 hw, wx_s0_4 hw, wx_N42 hw, wx_a42 hw, wx_K42 hw, wx_g0_5 hw, wx_s0_5 hw, wx_g0_6 hw, wx_s0_6 hw, wx_N75 hw, wx_a75 hw, wx_K75 hw, wx_g0_7 hw, wx_s0_7 hw, wx_N88 hw, wx_a88 hw, wx_g0_8 hw, wx_s0_8 hw, wx_N89 hw, wx_a89 hw, wx_g0_9 hw, wx_s0_9 hw, wx_N90 hw, wx_a90 hw, wx_g0_10 hw, wx_s0_10 hw, wx_N91 hw, wx_a91 hw, wx_o6 hw, wx_k6 hw, wx_q6 hw, wx_g6_0 hw, wx_s6_0 hw, wx_N7 hw, wx_a7 hw, wx_K7 hw, wx_g6_1 hw, wx_s6_1 hw, wx_N8 hw, wx_a8 hw, wx_g6_2 hw, wx_s6_2 hw, wx_N9 hw, wx_a9 hw, wx_g6_3 hw, wx_s6_3 hw, wx_N10 hw, wx_a10 hw, wx_g6_4 hw, wx_s6_4 hw, wx_N11 hw, wx_a11 hw, wx_g6_5 hw, wx_s6_5 hw, wx_N12 hw, wx_a12 hw, wx_g6_6 hw, wx_s6_6 hw, wx_N13 hw, wx_a13 hw, wx_g6_7 hw, wx_s6_7 hw, wx_N14 hw, wx_a14 hw, List.not_mem_nil, false_implies, implies_true, nI_clamp, nI_add, Nat.reducePow, hp_bd, hp_bdi, hp_ts, hp_tn, hp_tsc, hp_tnc, Nat.reduceAdd, Nat.reduceSub, Nat.reduceMul, Nat.reduceLT, Nat.reduceLeDiff, Nat.reduceEqDiff, reduceIte, not_true_eq_false, not_false_eq_true, and_true, true_and, and_self, and_false, false_and, or_true, true_or, or_false, false_or, decide_true, decide_false, Bool.and_true, Bool.true_and, Bool.not_false, Bool.or_false, Bool.false_or, Bool.or_true, Bool.true_or, a1, a4]
  · rcases kw_c hk x with ⟨e, h⟩ | ⟨b, hb, e, rfl⟩
    · have k := s8n (d := d) ok hR e
      have eo : an_29 G x (nI n) = -11 := by unfold an_29; simp only [ep, e]
      simp only [eo, b102_0, b102_4, b102_10, b102_13, b102_21, b102_24, b102_27, b102_42, b102_45, b102_52, e102, wx_o0 hw, wx_k0 hw, wx_q0 hw, wx_g0_0 hw, wx_s0_0 hw, wx_g0_1 hw, wx_s0_1 hw, wx_g0_2 hw, wx_s0_2 hw, wx_g0_3 hw, wx_s0_3 hw, wx_g0_4 hw, wx_s0_4 hw, wx_N42 hw, wx_a42 hw, wx_K42 hw, wx_g0_5 hw, wx_s0_5 hw, wx_g0_6 hw, wx_s0_6 hw, wx_N75 hw, wx_a75 hw, wx_K75 hw, wx_g0_7 hw, wx_s0_7 hw, wx_N88 hw, wx_a88 hw, wx_g0_8 hw, wx_s0_8 hw, wx_N89 hw, wx_a89 hw, wx_g0_9 hw, wx_s0_9 hw, wx_N90 hw, wx_a90 hw, wx_g0_10 hw, wx_s0_10 hw, wx_N91 hw, wx_a91 hw, wx_o6 hw, wx_k6 hw, wx_q6 hw, wx_g6_0 hw, wx_s6_0 hw, wx_N7 hw, wx_a7 hw, wx_K7 hw, wx_g6_1 hw, wx_s6_1 hw, wx_N8 hw, wx_a8 hw, wx_g6_2 hw, wx_s6_2 hw, wx_N9 hw, wx_a9 hw, wx_g6_3 hw, wx_s6_3 hw, wx_N10 hw, wx_a10 hw, wx_g6_4 hw, wx_s6_4 hw, wx_N11 hw, wx_a11 hw, wx_g6_5 hw, wx_s6_5 hw, wx_N12 hw, wx_a12 hw, wx_g6_6 hw, wx_s6_6 hw, wx_N13 hw, wx_a13 hw, wx_g6_7 hw, wx_s6_7 hw, wx_N14 hw, wx_a14 hw, List.not_mem_nil, false_implies, implies_true, nI_clamp, nI_add, Nat.reducePow, hp_bd, hp_bdi, hp_ts, hp_tn, hp_tsc, hp_tnc, Nat.reduceAdd, Nat.reduceSub, Nat.reduceMul, Nat.reduceLT, Nat.reduceLeDiff, Nat.reduceEqDiff, reduceIte, not_true_eq_false, not_false_eq_true, and_true, true_and, and_self, and_false, false_and, or_true, true_or, or_false, false_or, decide_true, decide_false, Bool.and_true, Bool.true_and, Bool.not_false, Bool.or_false, Bool.false_or, Bool.or_true, Bool.true_or, a1, a4, i01, k]
    · have k := s8s (d := d) ok hR hb
      have cl : (nI b).toNatClampNeg = b := nI_clamp (by omega)
      have hbi : mm_inb (nI b) 6 = true := hp_inb (by omega) (by omega)
      obtain ⟨q, hq, rgq, rsq, oq, kq, hy⟩ := RC_by ok hR hb
      have hk7 := (ok.1.1.2.2.2.1 b hb).1
      have k112 := s112 (d := d) (k := ab_ki (gP G) b) hk7 hy hp
      have m0 : mm_M S q 0 = nI (ab_ki (gP G) b) := hy.2.2.2.1
      have eo : an_29 G (nI b) (nI n) = if n ∈ ab_above (ab_ki (gP G) b) then nI (ab_ki (gP G) b) else -12 := by unfold an_29; simp only [ep, e]
      rw [eo]
      by_cases hm : n ∈ ab_above (ab_ki (gP G) b)
      · rw [if_pos hm] at k112 ⊢
        simp only [b102_0, b102_4, b102_10, b102_13, b102_21, b102_24, b102_27, b102_42, b102_45, b102_52, e102, wx_o0 hw, wx_k0 hw, wx_q0 hw, wx_g0_0 hw, wx_s0_0 hw, wx_g0_1 hw, wx_s0_1 hw, wx_g0_2 hw, wx_s0_2 hw, wx_g0_3 hw, wx_s0_3 hw, wx_g0_4 hw, wx_s0_4 hw, wx_N42 hw, wx_a42 hw, wx_K42 hw, wx_g0_5 hw, wx_s0_5 hw, wx_g0_6 hw, wx_s0_6 hw, wx_N75 hw, wx_a75 hw, wx_K75 hw, wx_g0_7 hw, wx_s0_7 hw, wx_N88 hw, wx_a88 hw, wx_g0_8 hw, wx_s0_8 hw, wx_N89 hw, wx_a89 hw, wx_g0_9 hw, wx_s0_9 hw, wx_N90 hw, wx_a90 hw, wx_g0_10 hw, wx_s0_10 hw, wx_N91 hw, wx_a91 hw, wx_o6 hw, wx_k6 hw, wx_q6 hw, wx_g6_0 hw, wx_s6_0 hw, wx_N7 hw, wx_a7 hw, wx_K7 hw, wx_g6_1 hw, wx_s6_1 hw, wx_N8 hw, wx_a8 hw, wx_g6_2 hw, wx_s6_2 hw, wx_N9 hw, wx_a9 hw, wx_g6_3 hw, wx_s6_3 hw, wx_N10 hw, wx_a10 hw, wx_g6_4 hw, wx_s6_4 hw, wx_N11 hw, wx_a11 hw, wx_g6_5 hw, wx_s6_5 hw, wx_N12 hw, wx_a12 hw, wx_g6_6 hw, wx_s6_6 hw, wx_N13 hw, wx_a13 hw, wx_g6_7 hw, wx_s6_7 hw, wx_N14 hw, wx_a14 hw, List.not_mem_nil, false_implies, implies_true, nI_clamp, nI_add, Nat.reducePow, hp_bd, hp_bdi, hp_ts, hp_tn, hp_tsc, hp_tnc, Nat.reduceAdd, Nat.reduceSub, Nat.reduceMul, Nat.reduceLT, Nat.reduceLeDiff, Nat.reduceEqDiff, reduceIte, not_true_eq_false, not_false_eq_true, and_true, true_and, and_self, and_false, false_and, or_true, true_or, or_false, false_or, decide_true, decide_false, Bool.and_true, Bool.true_and, Bool.not_false, Bool.or_false, Bool.false_or, Bool.or_true, Bool.true_or, a1, a4, i01, k, cl, hbi, rgq, rsq, k112, oq, m0]
      · rw [if_neg hm] at k112 ⊢
        simp only [b102_0, b102_4, b102_10, b102_13, b102_21, b102_24, b102_27, b102_42, b102_45, b102_52, e102, wx_o0 hw, wx_k0 hw, wx_q0 hw, wx_g0_0 hw, wx_s0_0 hw, wx_g0_1 hw, wx_s0_1 hw, wx_g0_2 hw, wx_s0_2 hw, wx_g0_3 hw, wx_s0_3 hw, wx_g0_4 hw, wx_s0_4 hw, wx_N42 hw, wx_a42 hw, wx_K42 hw, wx_g0_5 hw, wx_s0_5 hw, wx_g0_6 hw, wx_s0_6 hw, wx_N75 hw, wx_a75 hw, wx_K75 hw, wx_g0_7 hw, wx_s0_7 hw, wx_N88 hw, wx_a88 hw, wx_g0_8 hw, wx_s0_8 hw, wx_N89 hw, wx_a89 hw, wx_g0_9 hw, wx_s0_9 hw, wx_N90 hw, wx_a90 hw, wx_g0_10 hw, wx_s0_10 hw, wx_N91 hw, wx_a91 hw, wx_o6 hw, wx_k6 hw, wx_q6 hw, wx_g6_0 hw, wx_s6_0 hw, wx_N7 hw, wx_a7 hw, wx_K7 hw, wx_g6_1 hw, wx_s6_1 hw, wx_N8 hw, wx_a8 hw, wx_g6_2 hw, wx_s6_2 hw, wx_N9 hw, wx_a9 hw, wx_g6_3 hw, wx_s6_3 hw, wx_N10 hw, wx_a10 hw, wx_g6_4 hw, wx_s6_4 hw, wx_N11 hw, wx_a11 hw, wx_g6_5 hw, wx_s6_5 hw, wx_N12 hw, wx_a12 hw, wx_g6_6 hw, wx_s6_6 hw, wx_N13 hw, wx_a13 hw, wx_g6_7 hw, wx_s6_7 hw, wx_N14 hw, wx_a14 hw, List.not_mem_nil, false_implies, implies_true, nI_clamp, nI_add, Nat.reducePow, hp_bd, hp_bdi, hp_ts, hp_tn, hp_tsc, hp_tnc, Nat.reduceAdd, Nat.reduceSub, Nat.reduceMul, Nat.reduceLT, Nat.reduceLeDiff, Nat.reduceEqDiff, reduceIte, not_true_eq_false, not_false_eq_true, and_true, true_and, and_self, and_false, false_and, or_true, true_or, or_false, false_or, decide_true, decide_false, Bool.and_true, Bool.true_and, Bool.not_false, Bool.or_false, Bool.false_or, Bool.or_true, Bool.true_or, a1, a4, i01, k, cl, hbi, rgq, rsq, k112, oq, m0]
theorem c_30 (ok : gb_ok G) (hR : RC S G) : oC S d 103 [.ref 0, .int w] (.int (an_30 G w)) G := by
  have hw := hR.1
  refine oC_id hR ?_
  have h1 : mm_M S 6 10 = nI (gK G) := hR.2.1.1.1
  have h2 : mm_M S 0 11 = nI (gb_s G).length := hR.2.2.2.2.2.1.1
  have h3 : mm_M S 6 17 = nI (gx_f G.1).length := hR.2.1.2.2.2.1
  have h4 : mm_M S 73 0 = nI (gb_t G).length := hR.2.2.2.2.2.2.1.1
  have h5 : mm_M S 88 0 = nI (gb_r G).length := hR.2.2.2.2.2.2.2.2.1
  have c0 : (nI 0).toNatClampNeg = 0 := nI_clamp (by decide)
  have i0 : mm_inb (nI 0) 21 = true := by decide
  unfold an_30
  simp only [b103_0, b103_1, b103_36, b103_44, b103_49, b103_57, b103_65, b103_72, e103, wx_o0 hw, wx_k0 hw, wx_q0 hw, wx_g0_0 hw, wx_s0_0 hw, wx_g0_1 hw, wx_s0_1 hw, wx_g0_2 hw, wx_s0_2 hw, wx_g0_3 hw, wx_s0_3 hw, wx_g0_4 hw, wx_s0_4 hw, wx_N42 hw, wx_a42 hw, wx_K42 hw, wx_g0_5 hw, wx_s0_5 hw, wx_g0_6 hw, wx_s0_6 hw, wx_N75 hw, wx_a75 hw, wx_K75 hw, wx_g0_7 hw, wx_s0_7 hw, wx_N88 hw, wx_a88 hw, wx_g0_8 hw, wx_s0_8 hw, wx_N89 hw, wx_a89 hw, wx_g0_9 hw, wx_s0_9 hw, wx_N90 hw, wx_a90 hw, wx_g0_10 hw, wx_s0_10 hw, wx_N91 hw, wx_a91 hw, wx_o6 hw, wx_k6 hw, wx_q6 hw, wx_g6_0 hw, wx_s6_0 hw, wx_N7 hw, wx_a7 hw, wx_K7 hw, wx_g6_1 hw, wx_s6_1 hw, wx_N8 hw, wx_a8 hw, wx_g6_2 hw, wx_s6_2 hw, wx_N9 hw, wx_a9 hw, wx_g6_3 hw, wx_s6_3 hw, wx_N10 hw, wx_a10 hw, wx_g6_4 hw, wx_s6_4 hw, wx_N11 hw, wx_a11 hw, wx_g6_5 hw, wx_s6_5 hw, wx_N12 hw, wx_a12 hw, wx_g6_6 hw, wx_s6_6 hw, wx_N13 hw, wx_a13 hw, wx_g6_7 hw, wx_s6_7 hw, wx_N14 hw, wx_a14 hw, wx_o73 hw, wx_k73 hw, wx_q73 hw, wx_g73_1 hw, wx_s73_1 hw, wx_N74 hw, wx_a74 hw, List.not_mem_nil, false_implies, implies_true, nI_clamp, nI_add, Nat.reducePow, hp_bd, hp_bdi, hp_ts, hp_tn, hp_tsc, hp_tnc, Nat.reduceAdd, Nat.reduceSub, Nat.reduceMul, Nat.reduceLT, Nat.reduceLeDiff, Nat.reduceEqDiff, reduceIte, not_true_eq_false, not_false_eq_true, and_true, true_and, and_self, and_false, false_and, or_true, true_or, or_false, false_or, decide_true, decide_false, Bool.and_true, Bool.true_and, Bool.not_false, Bool.or_false, Bool.false_or, Bool.or_true, Bool.true_or, h1, h2, h3, h4, h5, c0, i0]
  by_cases w0 : w = nI 0
  · rw [if_pos w0, if_pos w0]
  rw [if_neg w0, if_neg w0]
  by_cases w1 : w = nI 1
  · rw [if_pos w1, if_pos w1]
  rw [if_neg w1, if_neg w1]
  by_cases w2 : w = nI 2
  · rw [if_pos w2, if_pos w2]
  rw [if_neg w2, if_neg w2]
  by_cases w3 : w = nI 3
  · rw [if_pos w3, if_pos w3]
  rw [if_neg w3, if_neg w3]
  by_cases w4 : w = nI 4
  · rw [if_pos w4, if_pos w4]
  rw [if_neg w4, if_neg w4]
end C2
