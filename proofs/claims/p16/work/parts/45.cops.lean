/-! ===== calls of the class: tapes ===== -/
section TPX
variable {F : Nat → Nat → Prop} {S T : mm_S} {G : gb_G} {d t a b n i j : Nat} {x y : Int32} {v : Int64}
theorem t109n (e : ab_kw 6 x = none) : mm_cl d 109 [.int x] S = some (some (.int (nI 0)), S) := by
  rw [s109]
  unfold ab_kw at e
  by_cases q : x < nI 0 ∨ nI 6 ≤ x
  · rw [if_pos q]
  · rw [if_neg q] at e; cases e
theorem t109s (ht : t < 6) : mm_cl d 109 [.int (nI t)] S = some (some (.int (nI 1)), S) := by
  rw [s109, if_neg (fun e => e.elim (nI_n0 (by omega)) (nI_ge ht (by omega)))]
theorem sf_zL (h : ∀ j, F a j) : sf_f F S (mm_zL S a b n) := by
  refine ⟨fun c j hc => ⟨rfl, ?_, rfl⟩, fun _ _ => ⟨rfl, rfl⟩, Nat.le_refl _⟩
  rw [hz_L, if_neg (fun e => hc (by rw [e.1]; exact h j))]
theorem sf_cpL {c k : Nat} (h : ∀ j, F b j) : sf_f F S (mm_cpL S a b c k n) := by
  refine ⟨fun e j hc => ⟨rfl, ?_, rfl⟩, fun _ _ => ⟨rfl, rfl⟩, Nat.le_refl _⟩
  rw [hp_LcpL, if_neg (fun q => hc (by rw [q.1]; exact h j))]
theorem s64 (ho : mm_obj S t 8 = true) : mm_cl d 64 [.ref t, .long v] S = some (some (.long (ab_cut (mm_M S t 1) v)), S) := by
  unfold ab_cut
  rw [e64, b64_0 ho, b64_4]
  by_cases h0 : mm_M S t 1 = nI 0
  · rw [if_pos h0, if_pos h0, b64_40]
  rw [if_neg h0, if_neg h0]
  by_cases h1 : mm_M S t 1 = nI 1
  · rw [if_pos h1, if_pos h1, b64_45]
  rw [if_neg h1, if_neg h1]
  by_cases h2 : mm_M S t 1 = nI 2
  · rw [if_pos h2, if_pos h2, b64_50]
  rw [if_neg h2, if_neg h2]
  by_cases h4 : mm_M S t 1 = nI 4
  · rw [if_pos h4, if_pos h4, b64_54]
    by_cases h5 : lg_cmp v 0 = nI 0
    · rw [if_pos h5, if_pos h5, b64_64]
    · rw [if_neg h5, if_neg h5, b64_60]
  rw [if_neg h4, if_neg h4, b64_66]
theorem s63 (ho : mm_obj S t 8 = true) : mm_cl d 63 [.ref t, .int x, .int y] S = some (some (.int (if y < nI 0 ∨ x < nI 0 ∨ mm_M S t 2 < y ∨ mm_M S t 2 - y < x then nI 0 else nI 1)), S) := by
  simp only [b63_0, b63_4, b63_8, b63_16, b63_26, b63_30, e63, ho, if_or3, if_res]
theorem s63n (ho : mm_obj S t 8 = true) (h2 : mm_M S t 2 = nI n) (hn : n ≤ 60) (e : ab_kw 61 y = none ∨ ab_kw 61 x = none) : mm_cl d 63 [.ref t, .int x, .int y] S = some (some (.int (nI 0)), S) := by
  rw [s63 ho, h2, if_pos ?_]
  have t0 : (nI 0).toInt = 0 := rfl
  have tn : (nI n).toInt = (n : Int) := nI_toInt (by omega)
  have t60 : (nI 60).toInt = 60 := rfl
  rcases kw_d (n := 60) (m := 61) rfl (by decide) y with ⟨-, a1, -⟩ | ⟨-, -, -, a3, -⟩ | ⟨j, hj, ej, rfl, -⟩
  · exact Or.inl (of_eq_true a1)
  · refine Or.inr (Or.inr (Or.inl ?_))
    have := of_eq_true a3
    rw [Int32.lt_iff_toInt_lt] at this ⊢
    omega
  · rcases e with e | e
    · rw [e] at ej; cases ej
    · rcases kw_d (n := 60) (m := 61) rfl (by decide) x with ⟨-, a1, -⟩ | ⟨-, -, -, a3, -⟩ | ⟨k, hk, ek, rfl, -⟩
      · exact Or.inr (Or.inl (of_eq_true a1))
      · by_cases h : n < j
        · exact Or.inr (Or.inr (Or.inl (nI_lt h (by omega))))
        · refine Or.inr (Or.inr (Or.inr ?_))
          have := of_eq_true a3
          rw [pk_sub (by omega)]
          rw [Int32.lt_iff_toInt_lt] at this ⊢
          rw [nI_toInt (by omega)]
          omega
      · rw [e] at ek; cases ek
theorem s63s (ho : mm_obj S t 8 = true) (h2 : mm_M S t 2 = nI n) (hn : n ≤ 60) (hi : i < 61) (hj : j < 61) : mm_cl d 63 [.ref t, .int (nI i), .int (nI j)] S = some (some (.int (if i + j ≤ n then nI 1 else nI 0)), S) := by
  rw [s63 ho, h2]
  by_cases h : i + j ≤ n
  · rw [if_pos h, if_neg]
    intro q
    rcases q with q | q | q | q
    · exact nI_n0 (by omega) q
    · exact nI_n0 (by omega) q
    · exact nI_nlt (by omega) (by omega) q
    · rw [pk_sub (by omega)] at q
      exact nI_nlt (by omega) (by omega) q
  · rw [if_neg h, if_pos]
    by_cases h3 : n < j
    · exact Or.inr (Or.inr (Or.inl (nI_lt h3 (by omega))))
    · refine Or.inr (Or.inr (Or.inr ?_))
      rw [pk_sub (by omega)]
      exact nI_lt (by omega) (by omega)
theorem cp_ok {n0 n1 : Nat} (hi : i < 61) (hj : j < 61) (hn : n < 61) (h1 : i + n ≤ n0) (h2 : j + n ≤ n1) : mm_cpOk (nI i) (nI j) (nI n) n0 n1 = true := by
  unfold mm_cpOk
  rw [nI_clamp (by omega), nI_clamp (by omega), nI_clamp (by omega), decide_eq_true h1, decide_eq_true h2, decide_eq_false (nI_pos (n := i) (by omega)), decide_eq_false (nI_pos (n := j) (by omega)), decide_eq_false (nI_pos (n := n) (by omega))]
  rfl
theorem gp_up {f : Nat → Int32 × Nat × (Nat → Int64)} {g : Int32 × Nat × (Nat → Int64)} (h : gc_p S f) (ht : t < 6) (h1 : mm_M T (76 + 2 * t) 1 = g.1) (h2 : mm_M T (76 + 2 * t) 2 = nI g.2.1) (h3 : ∀ i, i < g.2.1 → mm_L T (77 + 2 * t) i = g.2.2 i) (h4 : ∀ u, u ≠ t → ∀ j, mm_M T (76 + 2 * u) j = mm_M S (76 + 2 * u) j ∧ mm_L T (77 + 2 * u) j = mm_L S (77 + 2 * u) j) : gc_p T (ab_up1 f t g) := by
  intro u hu
  unfold ab_up1
  by_cases e : u = t
  · subst e
    rw [if_pos rfl]
    exact ⟨h1, h2, h3⟩
  · rw [if_neg e]
    obtain ⟨q1, q2, q3⟩ := h u hu
    exact ⟨(h4 u e 1).1.trans q1, (h4 u e 2).1.trans q2, fun i hi => (h4 u e i).2.trans (q3 i hi)⟩
theorem be_sf (ht : t < 6) : sf_f gc_pp S (mm_be S t x y) := by
  unfold mm_be
  exact sf_tr (sf_tr (sf_uM (by unfold gc_pp; omega)) (sf_uM (by unfold gc_pp; omega))) (sf_zL (fun j => by unfold gc_pp; omega))
theorem be_p {f : Nat → Int32 × Nat × (Nat → Int64)} (h : gc_p S f) (ht : t < 6) (hn : n ≤ 60) (hy : y = nI n) : gc_p (mm_be S t x y) (ab_up1 f t (x, n, fun _ => 0)) := by
  unfold mm_be
  refine gp_up h ht ?_ ?_ (fun i hi => ?_) (fun u hu j => ⟨?_, ?_⟩)
  · rw [hz_M, rdn (by omega), rds]
  · rw [hz_M, rds, hy]
  · have hi2 : i < n := hi
    rw [hz_L, if_pos ⟨rfl, by omega, by omega⟩]
  · rw [hz_M, rdn (by omega), rdn (by omega)]
  · rw [hz_L, if_neg (by omega)]; rfl
end TPX
section C3
variable {S T : mm_S} {G : gb_G} {d b n : Nat} {x y w t s i o j : Int32} {v : Int64}
theorem tsz (ok : gb_ok G) {t : Nat} (ht : t < 6) : (gb_p G t).2.1 ≤ 60 := by
  rcases ok.2.2.2.2.2.2.1 t ht with ⟨-, h⟩ | ⟨-, h⟩ <;> omega
theorem tso (ok : gb_ok G) {t : Nat} (ht : t < 6) : (gb_p G t).1 = -1 → (gb_p G t).2.1 = 0 := by
  intro e
  rcases ok.2.2.2.2.2.2.1 t ht with ⟨-, h⟩ | ⟨⟨k, hk, h⟩, -⟩
  · exact h
  · rw [h] at e
    have h1 := congrArg Int32.toInt e
    rw [nI_toInt (by omega)] at h1
    have h2 : (-1 : Int32).toInt = -1 := rfl
    omega
theorem c_31 (ok : gb_ok G) (hR : RC S G) : oC S (d + 1) 104 [.ref 0, .int t, .int s, .int y] (.int (op_31 G t s y).1) (op_31 G t s y).2 := by
  have hw := hR.1
  have hp := hR.2.2.2.2.2.2.2.1
  rcases kw_c (n := 6) (by decide) t with ⟨e, h⟩ | ⟨t, ht, e, rfl⟩
  · have k := t109n (d := d) (S := S) e
    have eo : op_31 G t s y = (-1, G) := by unfold op_31; simp only [e]
    rw [eo]
    refine oC_id hR ?_
    simp only [b104_0, b104_4, b104_7, b104_9, b104_14, b104_25, b104_27, b104_31, b104_36, b104_42, b104_45, b104_49, b104_52, b104_63, e104, wx_o0 hw, wx_k0 hw, wx_q0 hw, wx_g0_0 hw, wx_s0_0 hw, wx_g0_1 hw, wx_s0_1 hw, wx_g0_2 hw, wx_s0_2 hw, wx_g0_3 hw, wx_s0_3 hw, wx_g0_4 hw, wx_s0_4 hw, wx_N42 hw, wx_a42 hw, wx_K42 hw, wx_g0_5 hw, wx_s0_5 hw, wx_g0_6 hw, wx_s0_6 hw, wx_N75 hw, wx_a75 hw, wx_K75 hw, wx_g0_7 hw, wx_s0_7 hw, wx_N88 hw, wx_a88 hw, wx_g0_8 hw, wx_s0_8 hw, wx_N89 hw, wx_a89 hw, wx_g0_9 hw, wx_s0_9 hw, wx_N90 hw, wx_a90 hw, wx_g0_10 hw, wx_s0_10 hw, wx_N91 hw, wx_a91 hw, wx_g75_0 hw, wx_s75_0 hw, wx_g75_1 hw, wx_s75_1 hw, wx_g75_2 hw, wx_s75_2 hw, wx_g75_3 hw, wx_s75_3 hw, wx_g75_4 hw, wx_s75_4 hw, wx_g75_5 hw, wx_s75_5 hw, List.not_mem_nil, false_implies, implies_true, nI_clamp, nI_add, Nat.reducePow, hp_bd, hp_bdi, hp_ts, hp_tn, hp_tsc, hp_tnc, Nat.reduceAdd, Nat.reduceSub, Nat.reduceMul, Nat.reduceLT, Nat.reduceLeDiff, Nat.reduceEqDiff, reduceIte, not_true_eq_false, not_false_eq_true, and_true, true_and, and_self, and_false, false_and, or_true, true_or, or_false, false_or, decide_true, decide_false, Bool.and_true, Bool.true_and, Bool.not_false, Bool.or_false, Bool.false_or, Bool.or_true, Bool.true_or, i01, k]
  · have k := t109s (d := d) (S := S) ht
    have cl : (nI t).toNatClampNeg = t := nI_clamp (by omega)
    have hbi : mm_inb (nI t) 6 = true := hp_inb (by omega) (by omega)
    have q1 := tp_g hw ht
    have q2 := tp_s hw ht
    have q3 := tp_o hw ht
    have q4 := tp_k hw ht
    by_cases hs : s = -1
    · subst hs
      have eo : op_31 G (nI t) (-1) y = (nI 1, gS_p G (ab_up1 (gb_p G) t (-1, 0, fun _ => 0))) := by unfold op_31; simp only [e, if_true]
      rw [eo]
      have k60 := s60t (d := d) (s := -1) (n := nI 0) hw ht
      refine ⟨mm_be S t (-1) (nI 0), ?_, RC_p ok (be_sf ht) hw hR (be_p hp ht (by decide) rfl), pp_0 (be_sf ht), sz_s rfl rfl⟩
      simp only [b104_0, b104_4, b104_7, b104_9, b104_14, b104_25, b104_27, b104_31, b104_36, b104_42, b104_45, b104_49, b104_52, b104_63, e104, wx_o0 hw, wx_k0 hw, wx_q0 hw, wx_g0_0 hw, wx_s0_0 hw, wx_g0_1 hw, wx_s0_1 hw, wx_g0_2 hw, wx_s0_2 hw, wx_g0_3 hw, wx_s0_3 hw, wx_g0_4 hw, wx_s0_4 hw, wx_N42 hw, wx_a42 hw, wx_K42 hw, wx_g0_5 hw, wx_s0_5 hw, wx_g0_6 hw, wx_s0_6 hw, wx_N75 hw, wx_a75 hw, wx_K75 hw, wx_g0_7 hw, wx_s0_7 hw, wx_N88 hw, wx_a88 hw, wx_g0_8 hw, wx_s0_8 hw, wx_N89 hw, wx_a89 hw, wx_g0_9 hw, wx_s0_9 hw, wx_N90 hw, wx_a90 hw, wx_g0_10 hw, wx_s0_10 hw, wx_N91 hw, wx_a91 hw, wx_g75_0 hw, wx_s75_0 hw, wx_g75_1 hw, wx_s75_1 hw, wx_g75_2 hw, wx_s75_2 hw, wx_g75_3 hw, wx_s75_3 hw, wx_g75_4 hw, wx_s75_4 hw, wx_g75_5 hw, wx_s75_5 hw, List.not_mem_nil, false_implies, implies_true, nI_clamp, nI_add, Nat.reducePow, hp_bd, hp_bdi, hp_ts, hp_tn, hp_tsc, hp_tnc, Nat.reduceAdd, Nat.reduceSub, Nat.reduceMul, Nat.reduceLT, Nat.reduceLeDiff, Nat.reduceEqDiff, reduceIte, not_true_eq_false, not_false_eq_true, and_true, true_and, and_self, and_false, false_and, or_true, true_or, or_false, false_or, decide_true, decide_false, Bool.and_true, Bool.true_and, Bool.not_false, Bool.or_false, Bool.false_or, Bool.or_true, Bool.true_or, i01, k, cl, hbi, q1, q2, q3, q4, k60]
    · rcases kw_d (n := 4) (m := 5) rfl (by decide) s with ⟨ep, a1, a2, a3, a4, a5, a6⟩ | ⟨ep, a1, a2, a3, a4, a5, a6⟩ | ⟨s, hs5, ep, rfl, a1, a2, a3, a4, a5, a6⟩
      · have eo : op_31 G (nI t) s y = (-2, G) := by unfold op_31; simp only [e, hs, if_false, ep]
        rw [eo]
        refine oC_id hR ?_
        simp only [b104_0, b104_4, b104_7, b104_9, b104_14, b104_25, b104_27, b104_31, b104_36, b104_42, b104_45, b104_49, b104_52, b104_63, e104, wx_o0 hw, wx_k0 hw, wx_q0 hw, wx_g0_0 hw, wx_s0_0 hw, wx_g0_1 hw, wx_s0_1 hw, wx_g0_2 hw, wx_s0_2 hw, wx_g0_3 hw, wx_s0_3 hw, wx_g0_4 hw, wx_s0_4 hw, wx_N42 hw, wx_a42 hw, wx_K42 hw, wx_g0_5 hw, wx_s0_5 hw, wx_g0_6 hw, wx_s0_6 hw, wx_N75 hw, wx_a75 hw, wx_K75 hw, wx_g0_7 hw, wx_s0_7 hw, wx_N88 hw, wx_a88 hw, wx_g0_8 hw, wx_s0_8 hw, wx_N89 hw, wx_a89 hw, wx_g0_9 hw, wx_s0_9 hw, wx_N90 hw, wx_a90 hw, wx_g0_10 hw, wx_s0_10 hw, wx_N91 hw, wx_a91 hw, wx_g75_0 hw, wx_s75_0 hw, wx_g75_1 hw, wx_s75_1 hw, wx_g75_2 hw, wx_s75_2 hw, wx_g75_3 hw, wx_s75_3 hw, wx_g75_4 hw, wx_s75_4 hw, wx_g75_5 hw, wx_s75_5 hw, List.not_mem_nil, false_implies, implies_true, nI_clamp, nI_add, Nat.reducePow, hp_bd, hp_bdi, hp_ts, hp_tn, hp_tsc, hp_tnc, Nat.reduceAdd, Nat.reduceSub, Nat.reduceMul, Nat.reduceLT, Nat.reduceLeDiff, Nat.reduceEqDiff, reduceIte, not_true_eq_false, not_false_eq_true, and_true, true_and, and_self, and_false, false_and, or_true, true_or, or_false, false_or, decide_true, decide_false, Bool.and_true, Bool.true_and, Bool.not_false, Bool.or_false, Bool.false_or, Bool.or_true, Bool.true_or, i01, k, hs, a1]
      · have eo : op_31 G (nI t) s y = (-2, G) := by unfold op_31; simp only [e, hs, if_false, ep]
        rw [eo]
        refine oC_id hR ?_
        simp only [b104_0, b104_4, b104_7, b104_9, b104_14, b104_25, b104_27, b104_31, b104_36, b104_42, b104_45, b104_49, b104_52, b104_63, e104, wx_o0 hw, wx_k0 hw, wx_q0 hw, wx_g0_0 hw, wx_s0_0 hw, wx_g0_1 hw, wx_s0_1 hw, wx_g0_2 hw, wx_s0_2 hw, wx_g0_3 hw, wx_s0_3 hw, wx_g0_4 hw, wx_s0_4 hw, wx_N42 hw, wx_a42 hw, wx_K42 hw, wx_g0_5 hw, wx_s0_5 hw, wx_g0_6 hw, wx_s0_6 hw, wx_N75 hw, wx_a75 hw, wx_K75 hw, wx_g0_7 hw, wx_s0_7 hw, wx_N88 hw, wx_a88 hw, wx_g0_8 hw, wx_s0_8 hw, wx_N89 hw, wx_a89 hw, wx_g0_9 hw, wx_s0_9 hw, wx_N90 hw, wx_a90 hw, wx_g0_10 hw, wx_s0_10 hw, wx_N91 hw, wx_a91 hw, wx_g75_0 hw, wx_s75_0 hw, wx_g75_1 hw, wx_s75_1 hw, wx_g75_2 hw, wx_s75_2 hw, wx_g75_3 hw, wx_s75_3 hw, wx_g75_4 hw, wx_s75_4 hw, wx_g75_5 hw, wx_s75_5 hw, List.not_mem_nil, false_implies, implies_true, nI_clamp, nI_add, Nat.reducePow, hp_bd, hp_bdi, hp_ts, hp_tn, hp_tsc, hp_tnc, Nat.reduceAdd, Nat.reduceSub, Nat.reduceMul, Nat.reduceLT, Nat.reduceLeDiff, Nat.reduceEqDiff, reduceIte, not_true_eq_false, not_false_eq_true, and_true, true_and, and_self, and_false, false_and, or_true, true_or, or_false, false_or, decide_true, decide_false, Bool.and_true, Bool.true_and, Bool.not_false, Bool.or_false, Bool.false_or, Bool.or_true, Bool.true_or, i01, k, hs, a1, a3]
      · rcases kw_d (n := 60) (m := 61) rfl (by decide) y with ⟨ey, c1, c2, c3, c4, c5, c6⟩ | ⟨ey, c1, c2, c3, c4, c5, c6⟩ | ⟨y, hy, ey, rfl, c1, c2, c3, c4, c5, c6⟩
        · have eo : op_31 G (nI t) (nI s) y = (-14, G) := by unfold op_31; simp only [e, hs, if_false, ep, c1, c3, if_true]
          rw [eo]
          refine oC_id hR ?_
          simp only [b104_0, b104_4, b104_7, b104_9, b104_14, b104_25, b104_27, b104_31, b104_36, b104_42, b104_45, b104_49, b104_52, b104_63, e104, wx_o0 hw, wx_k0 hw, wx_q0 hw, wx_g0_0 hw, wx_s0_0 hw, wx_g0_1 hw, wx_s0_1 hw, wx_g0_2 hw, wx_s0_2 hw, wx_g0_3 hw, wx_s0_3 hw, wx_g0_4 hw, wx_s0_4 hw, wx_N42 hw, wx_a42 hw, wx_K42 hw, wx_g0_5 hw, wx_s0_5 hw, wx_g0_6 hw, wx_s0_6 hw, wx_N75 hw, wx_a75 hw, wx_K75 hw, wx_g0_7 hw, wx_s0_7 hw, wx_N88 hw, wx_a88 hw, wx_g0_8 hw, wx_s0_8 hw, wx_N89 hw, wx_a89 hw, wx_g0_9 hw, wx_s0_9 hw, wx_N90 hw, wx_a90 hw, wx_g0_10 hw, wx_s0_10 hw, wx_N91 hw, wx_a91 hw, wx_g75_0 hw, wx_s75_0 hw, wx_g75_1 hw, wx_s75_1 hw, wx_g75_2 hw, wx_s75_2 hw, wx_g75_3 hw, wx_s75_3 hw, wx_g75_4 hw, wx_s75_4 hw, wx_g75_5 hw, wx_s75_5 hw, List.not_mem_nil, false_implies, implies_true, nI_clamp, nI_add, Nat.reducePow, hp_bd, hp_bdi, hp_ts, hp_tn, hp_tsc, hp_tnc, Nat.reduceAdd, Nat.reduceSub, Nat.reduceMul, Nat.reduceLT, Nat.reduceLeDiff, Nat.reduceEqDiff, reduceIte, not_true_eq_false, not_false_eq_true, and_true, true_and, and_self, and_false, false_and, or_true, true_or, or_false, false_or, decide_true, decide_false, Bool.and_true, Bool.true_and, Bool.not_false, Bool.or_false, Bool.false_or, Bool.or_true, Bool.true_or, i01, k, hs, a1, a3, c2, c4]
        · have eo : op_31 G (nI t) (nI s) y = (-2, G) := by unfold op_31; simp only [e, hs, if_false, ep, c3, if_true]
          rw [eo]
          refine oC_id hR ?_
          simp only [b104_0, b104_4, b104_7, b104_9, b104_14, b104_25, b104_27, b104_31, b104_36, b104_42, b104_45, b104_49, b104_52, b104_63, e104, wx_o0 hw, wx_k0 hw, wx_q0 hw, wx_g0_0 hw, wx_s0_0 hw, wx_g0_1 hw, wx_s0_1 hw, wx_g0_2 hw, wx_s0_2 hw, wx_g0_3 hw, wx_s0_3 hw, wx_g0_4 hw, wx_s0_4 hw, wx_N42 hw, wx_a42 hw, wx_K42 hw, wx_g0_5 hw, wx_s0_5 hw, wx_g0_6 hw, wx_s0_6 hw, wx_N75 hw, wx_a75 hw, wx_K75 hw, wx_g0_7 hw, wx_s0_7 hw, wx_N88 hw, wx_a88 hw, wx_g0_8 hw, wx_s0_8 hw, wx_N89 hw, wx_a89 hw, wx_g0_9 hw, wx_s0_9 hw, wx_N90 hw, wx_a90 hw, wx_g0_10 hw, wx_s0_10 hw, wx_N91 hw, wx_a91 hw, wx_g75_0 hw, wx_s75_0 hw, wx_g75_1 hw, wx_s75_1 hw, wx_g75_2 hw, wx_s75_2 hw, wx_g75_3 hw, wx_s75_3 hw, wx_g75_4 hw, wx_s75_4 hw, wx_g75_5 hw, wx_s75_5 hw, List.not_mem_nil, false_implies, implies_true, nI_clamp, nI_add, Nat.reducePow, hp_bd, hp_bdi, hp_ts, hp_tn, hp_tsc, hp_tnc, Nat.reduceAdd, Nat.reduceSub, Nat.reduceMul, Nat.reduceLT, Nat.reduceLeDiff, Nat.reduceEqDiff, reduceIte, not_true_eq_false, not_false_eq_true, and_true, true_and, and_self, and_false, false_and, or_true, true_or, or_false, false_or, decide_true, decide_false, Bool.and_true, Bool.true_and, Bool.not_false, Bool.or_false, Bool.false_or, Bool.or_true, Bool.true_or, i01, k, hs, a1, a3, c4]
        · have cy : (nI y).toNatClampNeg = y := nI_clamp (by omega)
          have eo : op_31 G (nI t) (nI s) (nI y) = (nI 1, gS_p G (ab_up1 (gb_p G) t (nI s, y, fun _ => 0))) := by unfold op_31; simp only [e, hs, if_false, ep, c1, c3, cy]
          rw [eo]
          have k60 := s60t (d := d) (s := nI s) (n := nI y) hw ht
          refine ⟨mm_be S t (nI s) (nI y), ?_, RC_p ok (be_sf ht) hw hR (be_p hp ht (by omega) rfl), pp_0 (be_sf ht), sz_s rfl rfl⟩
          simp only [b104_0, b104_4, b104_7, b104_9, b104_14, b104_25, b104_27, b104_31, b104_36, b104_42, b104_45, b104_49, b104_52, b104_63, e104, wx_o0 hw, wx_k0 hw, wx_q0 hw, wx_g0_0 hw, wx_s0_0 hw, wx_g0_1 hw, wx_s0_1 hw, wx_g0_2 hw, wx_s0_2 hw, wx_g0_3 hw, wx_s0_3 hw, wx_g0_4 hw, wx_s0_4 hw, wx_N42 hw, wx_a42 hw, wx_K42 hw, wx_g0_5 hw, wx_s0_5 hw, wx_g0_6 hw, wx_s0_6 hw, wx_N75 hw, wx_a75 hw, wx_K75 hw, wx_g0_7 hw, wx_s0_7 hw, wx_N88 hw, wx_a88 hw, wx_g0_8 hw, wx_s0_8 hw, wx_N89 hw, wx_a89 hw, wx_g0_9 hw, wx_s0_9 hw, wx_N90 hw, wx_a90 hw, wx_g0_10 hw, wx_s0_10 hw, wx_N91 hw, wx_a91 hw, wx_g75_0 hw, wx_s75_0 hw, wx_g75_1 hw, wx_s75_1 hw, wx_g75_2 hw, wx_s75_2 hw, wx_g75_3 hw, wx_s75_3 hw, wx_g75_4 hw, wx_s75_4 hw, wx_g75_5 hw, wx_s75_5 hw, List.not_mem_nil, false_implies, implies_true, nI_clamp, nI_add, Nat.reducePow, hp_bd, hp_bdi, hp_ts, hp_tn, hp_tsc, hp_tnc, Nat.reduceAdd, Nat.reduceSub, Nat.reduceMul, Nat.reduceLT, Nat.reduceLeDiff, Nat.reduceEqDiff, reduceIte, not_true_eq_false, not_false_eq_true, and_true, true_and, and_self, and_false, false_and, or_true, true_or, or_false, false_or, decide_true, decide_false, Bool.and_true, Bool.true_and, Bool.not_false, Bool.or_false, Bool.false_or, Bool.or_true, Bool.true_or, i01, k, cl, hbi, q1, q2, q3, q4, k60, hs, a1, a3, c2, c4]
theorem s62n {t n : Nat} (ho : mm_obj S t 8 = true) (h2 : mm_M S t 2 = nI n) (e : ab_kw n x = none) : mm_cl d 62 [.ref t, .int x] S = some (some (.int (nI 0)), S) := by
  rw [s62 ho, h2]
  unfold ab_kw at e
  by_cases q : x < nI 0 ∨ nI n ≤ x
  · rw [if_pos q]
  · rw [if_neg q] at e; cases e
theorem s62s {t n i : Nat} (ho : mm_obj S t 8 = true) (h2 : mm_M S t 2 = nI n) (hn : n ≤ 60) (hi : i < n) : mm_cl d 62 [.ref t, .int (nI i)] S = some (some (.int (nI 1)), S) := by
  rw [s62 ho, h2, if_neg (fun e => e.elim (nI_n0 (by omega)) (nI_ge hi (by omega)))]
theorem kw_e {n : Nat} (hn : n ≤ 60) (x : Int32) : ab_kw n x = none ∨ ∃ b, b < n ∧ ab_kw n x = some b ∧ x = nI b := by
  cases n with
  | zero =>
    left
    unfold ab_kw
    by_cases h : x < nI 0
    · exact if_pos (Or.inl h)
    · refine if_pos (Or.inr ?_)
      rw [Int32.le_iff_toInt_le]
      rw [Int32.lt_iff_toInt_lt] at h
      omega
  | succ n =>
    rcases kw_d (n := n) rfl (by omega) x with ⟨e, -⟩ | ⟨e, -⟩ | ⟨j, hj, e, h, -⟩
    · exact Or.inl e
    · exact Or.inl e
    · exact Or.inr ⟨j, hj, e, h⟩
theorem c_32 (ok : gb_ok G) (hR : RC S G) : oC S (d + 1) 105 [.ref 0, .int t, .int i, .long v] (.int (op_32 G t i v).1) (op_32 G t i v).2 := by
  have hw := hR.1
  have hp := hR.2.2.2.2.2.2.2.1
  rcases kw_c (n := 6) (by decide) t with ⟨e, h⟩ | ⟨t, ht, e, rfl⟩
  · have k := t109n (d := d) (S := S) e
    have eo : op_32 G t i v = (-1, G) := by unfold op_32; simp only [e]
    rw [eo]
    refine oC_id hR ?_
    simp only [b105_0, b105_4, b105_7, b105_9, b105_22, b105_25, b105_28, b105_34, b105_37, b105_40, b105_52, e105, wx_o0 hw, wx_k0 hw, wx_q0 hw, wx_g0_0 hw, wx_s0_0 hw, wx_g0_1 hw, wx_s0_1 hw, wx_g0_2 hw, wx_s0_2 hw, wx_g0_3 hw, wx_s0_3 hw, wx_g0_4 hw, wx_s0_4 hw, wx_N42 hw, wx_a42 hw, wx_K42 hw, wx_g0_5 hw, wx_s0_5 hw, wx_g0_6 hw, wx_s0_6 hw, wx_N75 hw, wx_a75 hw, wx_K75 hw, wx_g0_7 hw, wx_s0_7 hw, wx_N88 hw, wx_a88 hw, wx_g0_8 hw, wx_s0_8 hw, wx_N89 hw, wx_a89 hw, wx_g0_9 hw, wx_s0_9 hw, wx_N90 hw, wx_a90 hw, wx_g0_10 hw, wx_s0_10 hw, wx_N91 hw, wx_a91 hw, wx_g75_0 hw, wx_s75_0 hw, wx_g75_1 hw, wx_s75_1 hw, wx_g75_2 hw, wx_s75_2 hw, wx_g75_3 hw, wx_s75_3 hw, wx_g75_4 hw, wx_s75_4 hw, wx_g75_5 hw, wx_s75_5 hw, List.not_mem_nil, false_implies, implies_true, nI_clamp, nI_add, Nat.reducePow, hp_bd, hp_bdi, hp_ts, hp_tn, hp_tsc, hp_tnc, Nat.reduceAdd, Nat.reduceSub, Nat.reduceMul, Nat.reduceLT, Nat.reduceLeDiff, Nat.reduceEqDiff, reduceIte, not_true_eq_false, not_false_eq_true, and_true, true_and, and_self, and_false, false_and, or_true, true_or, or_false, false_or, decide_true, decide_false, Bool.and_true, Bool.true_and, Bool.not_false, Bool.or_false, Bool.false_or, Bool.or_true, Bool.true_or, i01, k]
  · have k := t109s (d := d) (S := S) ht
    have cl : (nI t).toNatClampNeg = t := nI_clamp (by omega)
    have hbi : mm_inb (nI t) 6 = true := hp_inb (by omega) (by omega)
    have q1 := tp_g hw ht
    have q2 := tp_s hw ht
    have q3 := tp_o hw ht
    have q4 := tp_k hw ht
    have q5 := tp_g0 hw ht
    have q6 := tp_s0 hw ht
    have q7 := tp_a hw ht
    have q8 := tp_N hw ht
    obtain ⟨p1, p2, p3⟩ := hp t ht
    have k61 := s61 (d := d) hw q3
    rw [p1] at k61
    have sz := tsz ok ht
    by_cases hs : (gb_p G t).1 = -1
    · have eo : op_32 G (nI t) i v = (-11, G) := by unfold op_32; simp only [e, hs, if_true]
      rw [eo]
      rw [if_pos hs] at k61
      refine oC_id hR ?_
      simp only [b105_0, b105_4, b105_7, b105_9, b105_22, b105_25, b105_28, b105_34, b105_37, b105_40, b105_52, e105, wx_o0 hw, wx_k0 hw, wx_q0 hw, wx_g0_0 hw, wx_s0_0 hw, wx_g0_1 hw, wx_s0_1 hw, wx_g0_2 hw, wx_s0_2 hw, wx_g0_3 hw, wx_s0_3 hw, wx_g0_4 hw, wx_s0_4 hw, wx_N42 hw, wx_a42 hw, wx_K42 hw, wx_g0_5 hw, wx_s0_5 hw, wx_g0_6 hw, wx_s0_6 hw, wx_N75 hw, wx_a75 hw, wx_K75 hw, wx_g0_7 hw, wx_s0_7 hw, wx_N88 hw, wx_a88 hw, wx_g0_8 hw, wx_s0_8 hw, wx_N89 hw, wx_a89 hw, wx_g0_9 hw, wx_s0_9 hw, wx_N90 hw, wx_a90 hw, wx_g0_10 hw, wx_s0_10 hw, wx_N91 hw, wx_a91 hw, wx_g75_0 hw, wx_s75_0 hw, wx_g75_1 hw, wx_s75_1 hw, wx_g75_2 hw, wx_s75_2 hw, wx_g75_3 hw, wx_s75_3 hw, wx_g75_4 hw, wx_s75_4 hw, wx_g75_5 hw, wx_s75_5 hw, List.not_mem_nil, false_implies, implies_true, nI_clamp, nI_add, Nat.reducePow, hp_bd, hp_bdi, hp_ts, hp_tn, hp_tsc, hp_tnc, Nat.reduceAdd, Nat.reduceSub, Nat.reduceMul, Nat.reduceLT, Nat.reduceLeDiff, Nat.reduceEqDiff, reduceIte, not_true_eq_false, not_false_eq_true, and_true, true_and, and_self, and_false, false_and, or_true, true_or, or_false, false_or, decide_true, decide_false, Bool.and_true, Bool.true_and, Bool.not_false, Bool.or_false, Bool.false_or, Bool.or_true, Bool.true_or, i01, k, cl, hbi, q1, q2, q3, q4, k61]
    · rw [if_neg hs] at k61
      rcases kw_e sz i with ei | ⟨i, hi, ei, rfl⟩
      · have k62 := s62n (d := d) q3 p2 ei
        have eo : op_32 G (nI t) i v = (-13, G) := by unfold op_32; simp only [e, hs, if_false, ei]
        rw [eo]
        refine oC_id hR ?_
        simp only [b105_0, b105_4, b105_7, b105_9, b105_22, b105_25, b105_28, b105_34, b105_37, b105_40, b105_52, e105, wx_o0 hw, wx_k0 hw, wx_q0 hw, wx_g0_0 hw, wx_s0_0 hw, wx_g0_1 hw, wx_s0_1 hw, wx_g0_2 hw, wx_s0_2 hw, wx_g0_3 hw, wx_s0_3 hw, wx_g0_4 hw, wx_s0_4 hw, wx_N42 hw, wx_a42 hw, wx_K42 hw, wx_g0_5 hw, wx_s0_5 hw, wx_g0_6 hw, wx_s0_6 hw, wx_N75 hw, wx_a75 hw, wx_K75 hw, wx_g0_7 hw, wx_s0_7 hw, wx_N88 hw, wx_a88 hw, wx_g0_8 hw, wx_s0_8 hw, wx_N89 hw, wx_a89 hw, wx_g0_9 hw, wx_s0_9 hw, wx_N90 hw, wx_a90 hw, wx_g0_10 hw, wx_s0_10 hw, wx_N91 hw, wx_a91 hw, wx_g75_0 hw, wx_s75_0 hw, wx_g75_1 hw, wx_s75_1 hw, wx_g75_2 hw, wx_s75_2 hw, wx_g75_3 hw, wx_s75_3 hw, wx_g75_4 hw, wx_s75_4 hw, wx_g75_5 hw, wx_s75_5 hw, List.not_mem_nil, false_implies, implies_true, nI_clamp, nI_add, Nat.reducePow, hp_bd, hp_bdi, hp_ts, hp_tn, hp_tsc, hp_tnc, Nat.reduceAdd, Nat.reduceSub, Nat.reduceMul, Nat.reduceLT, Nat.reduceLeDiff, Nat.reduceEqDiff, reduceIte, not_true_eq_false, not_false_eq_true, and_true, true_and, and_self, and_false, false_and, or_true, true_or, or_false, false_or, decide_true, decide_false, Bool.and_true, Bool.true_and, Bool.not_false, Bool.or_false, Bool.false_or, Bool.or_true, Bool.true_or, i01, k, cl, hbi, q1, q2, q3, q4, k61, k62]
      · have k62 := s62s (d := d) q3 p2 sz hi
        have k64 := s64 (d := d) (v := v) q3
        rw [p1] at k64
        have ci : (nI i).toNatClampNeg = i := nI_clamp (by omega)
        have ii : mm_inb (nI i) 60 = true := hp_inb (by omega) (by omega)
        have eo : op_32 G (nI t) (nI i) v = (nI 1, gS_p G (ab_up1 (gb_p G) t ((gb_p G t).1, (gb_p G t).2.1, ab_up1 (gb_p G t).2.2 i (ab_cut (gb_p G t).1 v)))) := by unfold op_32; simp only [e, hs, if_false, ei]
        have f : sf_f gc_pp S (mm_uL S (77 + 2 * t) i (ab_cut (gb_p G t).1 v)) := sf_uL (by unfold gc_pp; omega)
        rw [eo]
        refine ⟨mm_uL S (77 + 2 * t) i (ab_cut (gb_p G t).1 v), ?_, RC_p ok f hw hR (gp_up hp ht p1 p2 (fun k hk => ?_) (fun u hu k => ⟨rfl, ?_⟩)), pp_0 f, sz_s rfl rfl⟩
        · simp only [b105_0, b105_4, b105_7, b105_9, b105_22, b105_25, b105_28, b105_34, b105_37, b105_40, b105_52, e105, wx_o0 hw, wx_k0 hw, wx_q0 hw, wx_g0_0 hw, wx_s0_0 hw, wx_g0_1 hw, wx_s0_1 hw, wx_g0_2 hw, wx_s0_2 hw, wx_g0_3 hw, wx_s0_3 hw, wx_g0_4 hw, wx_s0_4 hw, wx_N42 hw, wx_a42 hw, wx_K42 hw, wx_g0_5 hw, wx_s0_5 hw, wx_g0_6 hw, wx_s0_6 hw, wx_N75 hw, wx_a75 hw, wx_K75 hw, wx_g0_7 hw, wx_s0_7 hw, wx_N88 hw, wx_a88 hw, wx_g0_8 hw, wx_s0_8 hw, wx_N89 hw, wx_a89 hw, wx_g0_9 hw, wx_s0_9 hw, wx_N90 hw, wx_a90 hw, wx_g0_10 hw, wx_s0_10 hw, wx_N91 hw, wx_a91 hw, wx_g75_0 hw, wx_s75_0 hw, wx_g75_1 hw, wx_s75_1 hw, wx_g75_2 hw, wx_s75_2 hw, wx_g75_3 hw, wx_s75_3 hw, wx_g75_4 hw, wx_s75_4 hw, wx_g75_5 hw, wx_s75_5 hw, List.not_mem_nil, false_implies, implies_true, nI_clamp, nI_add, Nat.reducePow, hp_bd, hp_bdi, hp_ts, hp_tn, hp_tsc, hp_tnc, Nat.reduceAdd, Nat.reduceSub, Nat.reduceMul, Nat.reduceLT, Nat.reduceLeDiff, Nat.reduceEqDiff, reduceIte, not_true_eq_false, not_false_eq_true, and_true, true_and, and_self, and_false, false_and, or_true, true_or, or_false, false_or, decide_true, decide_false, Bool.and_true, Bool.true_and, Bool.not_false, Bool.or_false, Bool.false_or, Bool.or_true, Bool.true_or, i01, k, cl, hbi, q1, q2, q3, q4, q5, q6, q7, q8, k61, k62, k64, ci, ii]
        · rw [hp_LuL]
          show _ = (if k = i then ab_cut (gb_p G t).1 v else (gb_p G t).2.2 k)
          by_cases h : k = i
          · rw [if_pos ⟨rfl, h⟩, if_pos h]
          · rw [if_neg (fun e => h e.2), if_neg h]; exact p3 k hk
        · rw [hp_LuL, if_neg (by omega)]
theorem c_33 (ok : gb_ok G) (hR : RC S G) : oC S (d + 1) 106 [.ref 0, .int t, .int i] (.long (an_33 G t i)) G := by
  have hw := hR.1
  have hp := hR.2.2.2.2.2.2.2.1
  refine oC_id hR ?_
  rcases kw_c (n := 6) (by decide) t with ⟨e, h⟩ | ⟨t, ht, e, rfl⟩
  · have k := t109n (d := d) (S := S) e
    have eo : an_33 G t i = -9223372036854775808 := by unfold an_33; simp only [e]
    simp only [eo, b106_0, b106_4, b106_7, b106_17, b106_20, b106_34, e106, wx_o0 hw, wx_k0 hw, wx_q0 hw, wx_g0_0 hw, wx_s0_0 hw, wx_g0_1 hw, wx_s0_1 hw, wx_g0_2 hw, wx_s0_2 hw, wx_g0_3 hw, wx_s0_3 hw, wx_g0_4 hw, wx_s0_4 hw, wx_N42 hw, wx_a42 hw, wx_K42 hw, wx_g0_5 hw, wx_s0_5 hw, wx_g0_6 hw, wx_s0_6 hw, wx_N75 hw, wx_a75 hw, wx_K75 hw, wx_g0_7 hw, wx_s0_7 hw, wx_N88 hw, wx_a88 hw, wx_g0_8 hw, wx_s0_8 hw, wx_N89 hw, wx_a89 hw, wx_g0_9 hw, wx_s0_9 hw, wx_N90 hw, wx_a90 hw, wx_g0_10 hw, wx_s0_10 hw, wx_N91 hw, wx_a91 hw, wx_g75_0 hw, wx_s75_0 hw, wx_g75_1 hw, wx_s75_1 hw, wx_g75_2 hw, wx_s75_2 hw, wx_g75_3 hw, wx_s75_3 hw, wx_g75_4 hw, wx_s75_4 hw, wx_g75_5 hw, wx_s75_5 hw, List.not_mem_nil, false_implies, implies_true, nI_clamp, nI_add, Nat.reducePow, hp_bd, hp_bdi, hp_ts, hp_tn, hp_tsc, hp_tnc, Nat.reduceAdd, Nat.reduceSub, Nat.reduceMul, Nat.reduceLT, Nat.reduceLeDiff, Nat.reduceEqDiff, reduceIte, not_true_eq_false, not_false_eq_true, and_true, true_and, and_self, and_false, false_and, or_true, true_or, or_false, false_or, decide_true, decide_false, Bool.and_true, Bool.true_and, Bool.not_false, Bool.or_false, Bool.false_or, Bool.or_true, Bool.true_or, i01, k]
  · have k := t109s (d := d) (S := S) ht
    have cl : (nI t).toNatClampNeg = t := nI_clamp (by omega)
    have hbi : mm_inb (nI t) 6 = true := hp_inb (by omega) (by omega)
    have q1 := tp_g hw ht
    have q2 := tp_s hw ht
    have q3 := tp_o hw ht
    have q4 := tp_k hw ht
    have q5 := tp_g0 hw ht
    have q6 := tp_s0 hw ht
    have q7 := tp_a hw ht
    have q8 := tp_N hw ht
    obtain ⟨p1, p2, p3⟩ := hp t ht
    have sz := tsz ok ht
    rcases kw_e sz i with ei | ⟨i, hi, ei, rfl⟩
    · have k62 := s62n (d := d) q3 p2 ei
      have eo : an_33 G (nI t) i = -9223372036854775808 := by unfold an_33; simp only [e, ei]
      simp only [eo, b106_0, b106_4, b106_7, b106_17, b106_20, b106_34, e106, wx_o0 hw, wx_k0 hw, wx_q0 hw, wx_g0_0 hw, wx_s0_0 hw, wx_g0_1 hw, wx_s0_1 hw, wx_g0_2 hw, wx_s0_2 hw, wx_g0_3 hw, wx_s0_3 hw, wx_g0_4 hw, wx_s0_4 hw, wx_N42 hw, wx_a42 hw, wx_K42 hw, wx_g0_5 hw, wx_s0_5 hw, wx_g0_6 hw, wx_s0_6 hw, wx_N75 hw, wx_a75 hw, wx_K75 hw, wx_g0_7 hw, wx_s0_7 hw, wx_N88 hw, wx_a88 hw, wx_g0_8 hw, wx_s0_8 hw, wx_N89 hw, wx_a89 hw, wx_g0_9 hw, wx_s0_9 hw, wx_N90 hw, wx_a90 hw, wx_g0_10 hw, wx_s0_10 hw, wx_N91 hw, wx_a91 hw, wx_g75_0 hw, wx_s75_0 hw, wx_g75_1 hw, wx_s75_1 hw, wx_g75_2 hw, wx_s75_2 hw, wx_g75_3 hw, wx_s75_3 hw, wx_g75_4 hw, wx_s75_4 hw, wx_g75_5 hw, wx_s75_5 hw, List.not_mem_nil, false_implies, implies_true, nI_clamp, nI_add, Nat.reducePow, hp_bd, hp_bdi, hp_ts, hp_tn, hp_tsc, hp_tnc, Nat.reduceAdd, Nat.reduceSub, Nat.reduceMul, Nat.reduceLT, Nat.reduceLeDiff, Nat.reduceEqDiff, reduceIte, not_true_eq_false, not_false_eq_true, and_true, true_and, and_self, and_false, false_and, or_true, true_or, or_false, false_or, decide_true, decide_false, Bool.and_true, Bool.true_and, Bool.not_false, Bool.or_false, Bool.false_or, Bool.or_true, Bool.true_or, i01, k, cl, hbi, q1, q2, q3, q4, k62]
    · have k62 := s62s (d := d) q3 p2 sz hi
      have ci : (nI i).toNatClampNeg = i := nI_clamp (by omega)
      have ii : mm_inb (nI i) 60 = true := hp_inb (by omega) (by omega)
      have eo : an_33 G (nI t) (nI i) = (gb_p G t).2.2 i := by unfold an_33; simp only [e, ei]
      have g := p3 i hi
      simp only [eo, b106_0, b106_4, b106_7, b106_17, b106_20, b106_34, e106, wx_o0 hw, wx_k0 hw, wx_q0 hw, wx_g0_0 hw, wx_s0_0 hw, wx_g0_1 hw, wx_s0_1 hw, wx_g0_2 hw, wx_s0_2 hw, wx_g0_3 hw, wx_s0_3 hw, wx_g0_4 hw, wx_s0_4 hw, wx_N42 hw, wx_a42 hw, wx_K42 hw, wx_g0_5 hw, wx_s0_5 hw, wx_g0_6 hw, wx_s0_6 hw, wx_N75 hw, wx_a75 hw, wx_K75 hw, wx_g0_7 hw, wx_s0_7 hw, wx_N88 hw, wx_a88 hw, wx_g0_8 hw, wx_s0_8 hw, wx_N89 hw, wx_a89 hw, wx_g0_9 hw, wx_s0_9 hw, wx_N90 hw, wx_a90 hw, wx_g0_10 hw, wx_s0_10 hw, wx_N91 hw, wx_a91 hw, wx_g75_0 hw, wx_s75_0 hw, wx_g75_1 hw, wx_s75_1 hw, wx_g75_2 hw, wx_s75_2 hw, wx_g75_3 hw, wx_s75_3 hw, wx_g75_4 hw, wx_s75_4 hw, wx_g75_5 hw, wx_s75_5 hw, List.not_mem_nil, false_implies, implies_true, nI_clamp, nI_add, Nat.reducePow, hp_bd, hp_bdi, hp_ts, hp_tn, hp_tsc, hp_tnc, Nat.reduceAdd, Nat.reduceSub, Nat.reduceMul, Nat.reduceLT, Nat.reduceLeDiff, Nat.reduceEqDiff, reduceIte, not_true_eq_false, not_false_eq_true, and_true, true_and, and_self, and_false, false_and, or_true, true_or, or_false, false_or, decide_true, decide_false, Bool.and_true, Bool.true_and, Bool.not_false, Bool.or_false, Bool.false_or, Bool.or_true, Bool.true_or, i01, k, cl, hbi, q1, q2, q3, q4, q5, q6, q7, q8, k62, ci, ii, g]
theorem c_34 (ok : gb_ok G) (hR : RC S G) : oC S (d + 1) 107 [.ref 0, .int t, .int i, .int o, .int j, .int y] (.int (op_34 G t i o j y).1) (op_34 G t i o j y).2 := by
  have hw := hR.1
  have hp := hR.2.2.2.2.2.2.2.1
  rcases kw_c (n := 6) (by decide) t with ⟨e, h⟩ | ⟨t, ht, e, rfl⟩
  · have k := t109n (d := d) (S := S) e
    have eo : op_34 G t i o j y = (-1, G) := by unfold op_34; simp only [e]
    rw [eo]
    refine oC_id hR ?_
    simp only [b107_0, b107_4, b107_7, b107_11, b107_14, b107_16, b107_37, b107_40, b107_45, b107_48, b107_51, b107_64, b107_67, b107_75, b107_78, b107_87, b107_90, b107_93, e107, wx_o0 hw, wx_k0 hw, wx_q0 hw, wx_g0_0 hw, wx_s0_0 hw, wx_g0_1 hw, wx_s0_1 hw, wx_g0_2 hw, wx_s0_2 hw, wx_g0_3 hw, wx_s0_3 hw, wx_g0_4 hw, wx_s0_4 hw, wx_N42 hw, wx_a42 hw, wx_K42 hw, wx_g0_5 hw, wx_s0_5 hw, wx_g0_6 hw, wx_s0_6 hw, wx_N75 hw, wx_a75 hw, wx_K75 hw, wx_g0_7 hw, wx_s0_7 hw, wx_N88 hw, wx_a88 hw, wx_g0_8 hw, wx_s0_8 hw, wx_N89 hw, wx_a89 hw, wx_g0_9 hw, wx_s0_9 hw, wx_N90 hw, wx_a90 hw, wx_g0_10 hw, wx_s0_10 hw, wx_N91 hw, wx_a91 hw, wx_g75_0 hw, wx_s75_0 hw, wx_g75_1 hw, wx_s75_1 hw, wx_g75_2 hw, wx_s75_2 hw, wx_g75_3 hw, wx_s75_3 hw, wx_g75_4 hw, wx_s75_4 hw, wx_g75_5 hw, wx_s75_5 hw, List.not_mem_nil, false_implies, implies_true, nI_clamp, nI_add, Nat.reducePow, hp_bd, hp_bdi, hp_ts, hp_tn, hp_tsc, hp_tnc, Nat.reduceAdd, Nat.reduceSub, Nat.reduceMul, Nat.reduceLT, Nat.reduceLeDiff, Nat.reduceEqDiff, reduceIte, not_true_eq_false, not_false_eq_true, and_true, true_and, and_self, and_false, false_and, or_true, true_or, or_false, false_or, decide_true, decide_false, Bool.and_true, Bool.true_and, Bool.not_false, Bool.or_false, Bool.false_or, Bool.or_true, Bool.true_or, i01, k]
  · have k := t109s (d := d) (S := S) ht
    rcases kw_c (n := 6) (by decide) o with ⟨eu, h⟩ | ⟨u, hu, eu, rfl⟩
    · have k2 := t109n (d := d) (S := S) eu
      have eo : op_34 G (nI t) i o j y = (-1, G) := by unfold op_34; simp only [e, eu]
      rw [eo]
      refine oC_id hR ?_
      simp only [b107_0, b107_4, b107_7, b107_11, b107_14, b107_16, b107_37, b107_40, b107_45, b107_48, b107_51, b107_64, b107_67, b107_75, b107_78, b107_87, b107_90, b107_93, e107, wx_o0 hw, wx_k0 hw, wx_q0 hw, wx_g0_0 hw, wx_s0_0 hw, wx_g0_1 hw, wx_s0_1 hw, wx_g0_2 hw, wx_s0_2 hw, wx_g0_3 hw, wx_s0_3 hw, wx_g0_4 hw, wx_s0_4 hw, wx_N42 hw, wx_a42 hw, wx_K42 hw, wx_g0_5 hw, wx_s0_5 hw, wx_g0_6 hw, wx_s0_6 hw, wx_N75 hw, wx_a75 hw, wx_K75 hw, wx_g0_7 hw, wx_s0_7 hw, wx_N88 hw, wx_a88 hw, wx_g0_8 hw, wx_s0_8 hw, wx_N89 hw, wx_a89 hw, wx_g0_9 hw, wx_s0_9 hw, wx_N90 hw, wx_a90 hw, wx_g0_10 hw, wx_s0_10 hw, wx_N91 hw, wx_a91 hw, wx_g75_0 hw, wx_s75_0 hw, wx_g75_1 hw, wx_s75_1 hw, wx_g75_2 hw, wx_s75_2 hw, wx_g75_3 hw, wx_s75_3 hw, wx_g75_4 hw, wx_s75_4 hw, wx_g75_5 hw, wx_s75_5 hw, List.not_mem_nil, false_implies, implies_true, nI_clamp, nI_add, Nat.reducePow, hp_bd, hp_bdi, hp_ts, hp_tn, hp_tsc, hp_tnc, Nat.reduceAdd, Nat.reduceSub, Nat.reduceMul, Nat.reduceLT, Nat.reduceLeDiff, Nat.reduceEqDiff, reduceIte, not_true_eq_false, not_false_eq_true, and_true, true_and, and_self, and_false, false_and, or_true, true_or, or_false, false_or, decide_true, decide_false, Bool.and_true, Bool.true_and, Bool.not_false, Bool.or_false, Bool.false_or, Bool.or_true, Bool.true_or, i01, k, k2]
    · have k2 := t109s (d := d) (S := S) hu
      have cl : (nI t).toNatClampNeg = t := nI_clamp (by omega)
      have hbi : mm_inb (nI t) 6 = true := hp_inb (by omega) (by omega)
      have cu : (nI u).toNatClampNeg = u := nI_clamp (by omega)
      have hui : mm_inb (nI u) 6 = true := hp_inb (by omega) (by omega)
      have q1 := tp_g hw ht
      have q2 := tp_s hw ht
      have q3 := tp_o hw ht
      have q4 := tp_k hw ht
      have q5 := tp_g0 hw ht
      have q6 := tp_s0 hw ht
      have q7 := tp_a hw ht
      have q8 := tp_N hw ht
      have r1 := tp_g hw hu
      have r2 := tp_s hw hu
      have r3 := tp_o hw hu
      have r4 := tp_k hw hu
      have r5 := tp_g0 hw hu
      have r6 := tp_s0 hw hu
      have r7 := tp_a hw hu
      have r8 := tp_N hw hu
      obtain ⟨p1, p2, p3⟩ := hp t ht
      obtain ⟨u1, u2, u3⟩ := hp u hu
      have sz := tsz ok ht
      have su := tsz ok hu
      have k61 := s61 (d := d) hw q3
      have k61u := s61 (d := d) hw r3
      rw [p1] at k61
      rw [u1] at k61u
      by_cases hs : (gb_p G t).1 = -1
      · have eo : op_34 G (nI t) i (nI u) j y = (-11, G) := by unfold op_34; simp only [e, eu, hs, true_or, if_true]
        rw [eo]
        rw [if_pos hs] at k61
        refine oC_id hR ?_
        simp only [b107_0, b107_4, b107_7, b107_11, b107_14, b107_16, b107_37, b107_40, b107_45, b107_48, b107_51, b107_64, b107_67, b107_75, b107_78, b107_87, b107_90, b107_93, e107, wx_o0 hw, wx_k0 hw, wx_q0 hw, wx_g0_0 hw, wx_s0_0 hw, wx_g0_1 hw, wx_s0_1 hw, wx_g0_2 hw, wx_s0_2 hw, wx_g0_3 hw, wx_s0_3 hw, wx_g0_4 hw, wx_s0_4 hw, wx_N42 hw, wx_a42 hw, wx_K42 hw, wx_g0_5 hw, wx_s0_5 hw, wx_g0_6 hw, wx_s0_6 hw, wx_N75 hw, wx_a75 hw, wx_K75 hw, wx_g0_7 hw, wx_s0_7 hw, wx_N88 hw, wx_a88 hw, wx_g0_8 hw, wx_s0_8 hw, wx_N89 hw, wx_a89 hw, wx_g0_9 hw, wx_s0_9 hw, wx_N90 hw, wx_a90 hw, wx_g0_10 hw, wx_s0_10 hw, wx_N91 hw, wx_a91 hw, wx_g75_0 hw, wx_s75_0 hw, wx_g75_1 hw, wx_s75_1 hw, wx_g75_2 hw, wx_s75_2 hw, wx_g75_3 hw, wx_s75_3 hw, wx_g75_4 hw, wx_s75_4 hw, wx_g75_5 hw, wx_s75_5 hw, List.not_mem_nil, false_implies, implies_true, nI_clamp, nI_add, Nat.reducePow, hp_bd, hp_bdi, hp_ts, hp_tn, hp_tsc, hp_tnc, Nat.reduceAdd, Nat.reduceSub, Nat.reduceMul, Nat.reduceLT, Nat.reduceLeDiff, Nat.reduceEqDiff, reduceIte, not_true_eq_false, not_false_eq_true, and_true, true_and, and_self, and_false, false_and, or_true, true_or, or_false, false_or, decide_true, decide_false, Bool.and_true, Bool.true_and, Bool.not_false, Bool.or_false, Bool.false_or, Bool.or_true, Bool.true_or, i01, k, k2, cl, hbi, cu, hui, q1, q2, q3, q4, r1, r2, r3, r4, k61]
      rw [if_neg hs] at k61
      by_cases hs2 : (gb_p G u).1 = -1
      · have eo : op_34 G (nI t) i (nI u) j y = (-11, G) := by unfold op_34; simp only [e, eu, hs2, or_true, if_true]
        rw [eo]
        rw [if_pos hs2] at k61u
        refine oC_id hR ?_
        simp only [b107_0, b107_4, b107_7, b107_11, b107_14, b107_16, b107_37, b107_40, b107_45, b107_48, b107_51, b107_64, b107_67, b107_75, b107_78, b107_87, b107_90, b107_93, e107, wx_o0 hw, wx_k0 hw, wx_q0 hw, wx_g0_0 hw, wx_s0_0 hw, wx_g0_1 hw, wx_s0_1 hw, wx_g0_2 hw, wx_s0_2 hw, wx_g0_3 hw, wx_s0_3 hw, wx_g0_4 hw, wx_s0_4 hw, wx_N42 hw, wx_a42 hw, wx_K42 hw, wx_g0_5 hw, wx_s0_5 hw, wx_g0_6 hw, wx_s0_6 hw, wx_N75 hw, wx_a75 hw, wx_K75 hw, wx_g0_7 hw, wx_s0_7 hw, wx_N88 hw, wx_a88 hw, wx_g0_8 hw, wx_s0_8 hw, wx_N89 hw, wx_a89 hw, wx_g0_9 hw, wx_s0_9 hw, wx_N90 hw, wx_a90 hw, wx_g0_10 hw, wx_s0_10 hw, wx_N91 hw, wx_a91 hw, wx_g75_0 hw, wx_s75_0 hw, wx_g75_1 hw, wx_s75_1 hw, wx_g75_2 hw, wx_s75_2 hw, wx_g75_3 hw, wx_s75_3 hw, wx_g75_4 hw, wx_s75_4 hw, wx_g75_5 hw, wx_s75_5 hw, List.not_mem_nil, false_implies, implies_true, nI_clamp, nI_add, Nat.reducePow, hp_bd, hp_bdi, hp_ts, hp_tn, hp_tsc, hp_tnc, Nat.reduceAdd, Nat.reduceSub, Nat.reduceMul, Nat.reduceLT, Nat.reduceLeDiff, Nat.reduceEqDiff, reduceIte, not_true_eq_false, not_false_eq_true, and_true, true_and, and_self, and_false, false_and, or_true, true_or, or_false, false_or, decide_true, decide_false, Bool.and_true, Bool.true_and, Bool.not_false, Bool.or_false, Bool.false_or, Bool.or_true, Bool.true_or, i01, k, k2, cl, hbi, cu, hui, q1, q2, q3, q4, r1, r2, r3, r4, k61, k61u]
      rw [if_neg hs2] at k61u
      by_cases hne : (gb_p G t).1 = (gb_p G u).1
      · have pre : ∀ z, op_34 G (nI t) i (nI u) j y = z ↔ (match ab_kw 61 y, ab_kw 61 i, ab_kw 61 j with
    | some n, some i, some j => if i + n ≤ (gb_p G t).2.1 ∧ j + n ≤ (gb_p G u).2.1 then (nI n, gS_p G (ab_up1 (gb_p G) u ((gb_p G u).1, (gb_p G u).2.1, va_cpy (gb_p G t).2.2 (gb_p G u).2.2 i j n))) else (-13, G)
    | _, _, _ => (-13, G)) = z := by
          intro z
          unfold op_34
          simp only [e, eu]
          rw [if_neg (fun q => q.elim hs hs2), if_neg (fun q => q hne)]
          exact Iff.rfl
        by_cases b1 : ab_kw 61 y = none ∨ ab_kw 61 i = none
        · have k63 := s63n (d := d) q3 p2 sz b1
          have eo : op_34 G (nI t) i (nI u) j y = (-13, G) := by
            rw [pre]
            rcases b1 with b1 | b1
            · simp only [b1]
            · rw [b1]
              cases ab_kw 61 y <;> rfl
          rw [eo]
          refine oC_id hR ?_
          simp only [b107_0, b107_4, b107_7, b107_11, b107_14, b107_16, b107_37, b107_40, b107_45, b107_48, b107_51, b107_64, b107_67, b107_75, b107_78, b107_87, b107_90, b107_93, e107, wx_o0 hw, wx_k0 hw, wx_q0 hw, wx_g0_0 hw, wx_s0_0 hw, wx_g0_1 hw, wx_s0_1 hw, wx_g0_2 hw, wx_s0_2 hw, wx_g0_3 hw, wx_s0_3 hw, wx_g0_4 hw, wx_s0_4 hw, wx_N42 hw, wx_a42 hw, wx_K42 hw, wx_g0_5 hw, wx_s0_5 hw, wx_g0_6 hw, wx_s0_6 hw, wx_N75 hw, wx_a75 hw, wx_K75 hw, wx_g0_7 hw, wx_s0_7 hw, wx_N88 hw, wx_a88 hw, wx_g0_8 hw, wx_s0_8 hw, wx_N89 hw, wx_a89 hw, wx_g0_9 hw, wx_s0_9 hw, wx_N90 hw, wx_a90 hw, wx_g0_10 hw, wx_s0_10 hw, wx_N91 hw, wx_a91 hw, wx_g75_0 hw, wx_s75_0 hw, wx_g75_1 hw, wx_s75_1 hw, wx_g75_2 hw, wx_s75_2 hw, wx_g75_3 hw, wx_s75_3 hw, wx_g75_4 hw, wx_s75_4 hw, wx_g75_5 hw, wx_s75_5 hw, List.not_mem_nil, false_implies, implies_true, nI_clamp, nI_add, Nat.reducePow, hp_bd, hp_bdi, hp_ts, hp_tn, hp_tsc, hp_tnc, Nat.reduceAdd, Nat.reduceSub, Nat.reduceMul, Nat.reduceLT, Nat.reduceLeDiff, Nat.reduceEqDiff, reduceIte, not_true_eq_false, not_false_eq_true, and_true, true_and, and_self, and_false, false_and, or_true, true_or, or_false, false_or, decide_true, decide_false, Bool.and_true, Bool.true_and, Bool.not_false, Bool.or_false, Bool.false_or, Bool.or_true, Bool.true_or, i01, k, k2, cl, hbi, cu, hui, q1, q2, q3, q4, r1, r2, r3, r4, k61, k61u, p1, u1, hne, k63]
        · rcases kw_d (n := 60) (m := 61) rfl (by decide) y with ⟨z, -⟩ | ⟨z, -⟩ | ⟨n, hn, ey, rfl, -⟩
          · exact absurd (Or.inl z) b1
          · exact absurd (Or.inl z) b1
          rcases kw_d (n := 60) (m := 61) rfl (by decide) i with ⟨z, -⟩ | ⟨z, -⟩ | ⟨i, hi, ei, rfl, -⟩
          · exact absurd (Or.inr z) b1
          · exact absurd (Or.inr z) b1
          have k63 := s63s (d := d) q3 p2 sz hi hn
          by_cases l1 : i + n ≤ (gb_p G t).2.1
          · rw [if_pos l1] at k63
            by_cases b2 : ab_kw 61 j = none
            · have k63u := s63n (d := d) (y := nI n) r3 u2 su (Or.inr b2)
              have eo : op_34 G (nI t) (nI i) (nI u) j (nI n) = (-13, G) := by rw [pre, b2, ey, ei]
              rw [eo]
              refine oC_id hR ?_
              simp only [b107_0, b107_4, b107_7, b107_11, b107_14, b107_16, b107_37, b107_40, b107_45, b107_48, b107_51, b107_64, b107_67, b107_75, b107_78, b107_87, b107_90, b107_93, e107, wx_o0 hw, wx_k0 hw, wx_q0 hw, wx_g0_0 hw, wx_s0_0 hw, wx_g0_1 hw, wx_s0_1 hw, wx_g0_2 hw, wx_s0_2 hw, wx_g0_3 hw, wx_s0_3 hw, wx_g0_4 hw, wx_s0_4 hw, wx_N42 hw, wx_a42 hw, wx_K42 hw, wx_g0_5 hw, wx_s0_5 hw, wx_g0_6 hw, wx_s0_6 hw, wx_N75 hw, wx_a75 hw, wx_K75 hw, wx_g0_7 hw, wx_s0_7 hw, wx_N88 hw, wx_a88 hw, wx_g0_8 hw, wx_s0_8 hw, wx_N89 hw, wx_a89 hw, wx_g0_9 hw, wx_s0_9 hw, wx_N90 hw, wx_a90 hw, wx_g0_10 hw, wx_s0_10 hw, wx_N91 hw, wx_a91 hw, wx_g75_0 hw, wx_s75_0 hw, wx_g75_1 hw, wx_s75_1 hw, wx_g75_2 hw, wx_s75_2 hw, wx_g75_3 hw, wx_s75_3 hw, wx_g75_4 hw, wx_s75_4 hw, wx_g75_5 hw, wx_s75_5 hw, List.not_mem_nil, false_implies, implies_true, nI_clamp, nI_add, Nat.reducePow, hp_bd, hp_bdi, hp_ts, hp_tn, hp_tsc, hp_tnc, Nat.reduceAdd, Nat.reduceSub, Nat.reduceMul, Nat.reduceLT, Nat.reduceLeDiff, Nat.reduceEqDiff, reduceIte, not_true_eq_false, not_false_eq_true, and_true, true_and, and_self, and_false, false_and, or_true, true_or, or_false, false_or, decide_true, decide_false, Bool.and_true, Bool.true_and, Bool.not_false, Bool.or_false, Bool.false_or, Bool.or_true, Bool.true_or, i01, k, k2, cl, hbi, cu, hui, q1, q2, q3, q4, r1, r2, r3, r4, k61, k61u, p1, u1, hne, k63, k63u]
            · rcases kw_d (n := 60) (m := 61) rfl (by decide) j with ⟨z, -⟩ | ⟨z, -⟩ | ⟨j, hj, ej, rfl, -⟩
              · exact absurd z b2
              · exact absurd z b2
              have k63u := s63s (d := d) r3 u2 su hj hn
              by_cases l2 : j + n ≤ (gb_p G u).2.1
              · rw [if_pos l2] at k63u
                have eo : op_34 G (nI t) (nI i) (nI u) (nI j) (nI n) = (nI n, gS_p G (ab_up1 (gb_p G) u ((gb_p G u).1, (gb_p G u).2.1, va_cpy (gb_p G t).2.2 (gb_p G u).2.2 i j n))) := by
                  rw [pre, ey, ei, ej]
                  exact if_pos ⟨l1, l2⟩
                have f : sf_f gc_pp S (mm_cpL S (77 + 2 * t) (77 + 2 * u) i j n) := sf_cpL (fun j => by unfold gc_pp; omega)
                have ci : (nI i).toNatClampNeg = i := nI_clamp (by omega)
                have cj : (nI j).toNatClampNeg = j := nI_clamp (by omega)
                have cn : (nI n).toNatClampNeg = n := nI_clamp (by omega)
                have cpo : mm_cpOk (nI i) (nI j) (nI n) 60 60 = true := cp_ok hi hj hn (by omega) (by omega)
                rw [eo]
                refine ⟨mm_cpL S (77 + 2 * t) (77 + 2 * u) i j n, ?_, RC_p ok f hw hR (gp_up hp hu u1 u2 (fun k hk => ?_) (fun w hw k => ⟨rfl, ?_⟩)), pp_0 f, sz_s rfl rfl⟩
                · simp only [b107_0, b107_4, b107_7, b107_11, b107_14, b107_16, b107_37, b107_40, b107_45, b107_48, b107_51, b107_64, b107_67, b107_75, b107_78, b107_87, b107_90, b107_93, e107, wx_o0 hw, wx_k0 hw, wx_q0 hw, wx_g0_0 hw, wx_s0_0 hw, wx_g0_1 hw, wx_s0_1 hw, wx_g0_2 hw, wx_s0_2 hw, wx_g0_3 hw, wx_s0_3 hw, wx_g0_4 hw, wx_s0_4 hw, wx_N42 hw, wx_a42 hw, wx_K42 hw, wx_g0_5 hw, wx_s0_5 hw, wx_g0_6 hw, wx_s0_6 hw, wx_N75 hw, wx_a75 hw, wx_K75 hw, wx_g0_7 hw, wx_s0_7 hw, wx_N88 hw, wx_a88 hw, wx_g0_8 hw, wx_s0_8 hw, wx_N89 hw, wx_a89 hw, wx_g0_9 hw, wx_s0_9 hw, wx_N90 hw, wx_a90 hw, wx_g0_10 hw, wx_s0_10 hw, wx_N91 hw, wx_a91 hw, wx_g75_0 hw, wx_s75_0 hw, wx_g75_1 hw, wx_s75_1 hw, wx_g75_2 hw, wx_s75_2 hw, wx_g75_3 hw, wx_s75_3 hw, wx_g75_4 hw, wx_s75_4 hw, wx_g75_5 hw, wx_s75_5 hw, List.not_mem_nil, false_implies, implies_true, nI_clamp, nI_add, Nat.reducePow, hp_bd, hp_bdi, hp_ts, hp_tn, hp_tsc, hp_tnc, Nat.reduceAdd, Nat.reduceSub, Nat.reduceMul, Nat.reduceLT, Nat.reduceLeDiff, Nat.reduceEqDiff, reduceIte, not_true_eq_false, not_false_eq_true, and_true, true_and, and_self, and_false, false_and, or_true, true_or, or_false, false_or, decide_true, decide_false, Bool.and_true, Bool.true_and, Bool.not_false, Bool.or_false, Bool.false_or, Bool.or_true, Bool.true_or, i01, k, k2, cl, hbi, cu, hui, q1, q2, q3, q4, q5, q6, q7, q8, r1, r2, r3, r4, r5, r6, r7, r8, k61, k61u, p1, u1, hne, k63, k63u, cpo, ci, cj, cn]
                · rw [hp_LcpL]
                  show _ = (if j ≤ k ∧ k < j + n then (gb_p G t).2.2 (i + (k - j)) else (gb_p G u).2.2 k)
                  by_cases h : j ≤ k ∧ k < j + n
                  · rw [if_pos ⟨rfl, h⟩, if_pos h]; exact p3 _ (by omega)
                  · rw [if_neg (fun e => h e.2), if_neg h]; exact u3 k hk
                · rw [hp_LcpL, if_neg (by omega)]
              · rw [if_neg l2] at k63u
                have eo : op_34 G (nI t) (nI i) (nI u) (nI j) (nI n) = (-13, G) := by
                  rw [pre, ey, ei, ej]
                  exact if_neg (fun e => l2 e.2)
                rw [eo]
                refine oC_id hR ?_
                simp only [b107_0, b107_4, b107_7, b107_11, b107_14, b107_16, b107_37, b107_40, b107_45, b107_48, b107_51, b107_64, b107_67, b107_75, b107_78, b107_87, b107_90, b107_93, e107, wx_o0 hw, wx_k0 hw, wx_q0 hw, wx_g0_0 hw, wx_s0_0 hw, wx_g0_1 hw, wx_s0_1 hw, wx_g0_2 hw, wx_s0_2 hw, wx_g0_3 hw, wx_s0_3 hw, wx_g0_4 hw, wx_s0_4 hw, wx_N42 hw, wx_a42 hw, wx_K42 hw, wx_g0_5 hw, wx_s0_5 hw, wx_g0_6 hw, wx_s0_6 hw, wx_N75 hw, wx_a75 hw, wx_K75 hw, wx_g0_7 hw, wx_s0_7 hw, wx_N88 hw, wx_a88 hw, wx_g0_8 hw, wx_s0_8 hw, wx_N89 hw, wx_a89 hw, wx_g0_9 hw, wx_s0_9 hw, wx_N90 hw, wx_a90 hw, wx_g0_10 hw, wx_s0_10 hw, wx_N91 hw, wx_a91 hw, wx_g75_0 hw, wx_s75_0 hw, wx_g75_1 hw, wx_s75_1 hw, wx_g75_2 hw, wx_s75_2 hw, wx_g75_3 hw, wx_s75_3 hw, wx_g75_4 hw, wx_s75_4 hw, wx_g75_5 hw, wx_s75_5 hw, List.not_mem_nil, false_implies, implies_true, nI_clamp, nI_add, Nat.reducePow, hp_bd, hp_bdi, hp_ts, hp_tn, hp_tsc, hp_tnc, Nat.reduceAdd, Nat.reduceSub, Nat.reduceMul, Nat.reduceLT, Nat.reduceLeDiff, Nat.reduceEqDiff, reduceIte, not_true_eq_false, not_false_eq_true, and_true, true_and, and_self, and_false, false_and, or_true, true_or, or_false, false_or, decide_true, decide_false, Bool.and_true, Bool.true_and, Bool.not_false, Bool.or_false, Bool.false_or, Bool.or_true, Bool.true_or, i01, k, k2, cl, hbi, cu, hui, q1, q2, q3, q4, r1, r2, r3, r4, k61, k61u, p1, u1, hne, k63, k63u]
          · rw [if_neg l1] at k63
            have eo : op_34 G (nI t) (nI i) (nI u) j (nI n) = (-13, G) := by
              rw [pre, ey, ei]
              cases ab_kw 61 j with
              | none => rfl
              | some j => exact if_neg (fun e => l1 e.1)
            rw [eo]
            refine oC_id hR ?_
            simp only [b107_0, b107_4, b107_7, b107_11, b107_14, b107_16, b107_37, b107_40, b107_45, b107_48, b107_51, b107_64, b107_67, b107_75, b107_78, b107_87, b107_90, b107_93, e107, wx_o0 hw, wx_k0 hw, wx_q0 hw, wx_g0_0 hw, wx_s0_0 hw, wx_g0_1 hw, wx_s0_1 hw, wx_g0_2 hw, wx_s0_2 hw, wx_g0_3 hw, wx_s0_3 hw, wx_g0_4 hw, wx_s0_4 hw, wx_N42 hw, wx_a42 hw, wx_K42 hw, wx_g0_5 hw, wx_s0_5 hw, wx_g0_6 hw, wx_s0_6 hw, wx_N75 hw, wx_a75 hw, wx_K75 hw, wx_g0_7 hw, wx_s0_7 hw, wx_N88 hw, wx_a88 hw, wx_g0_8 hw, wx_s0_8 hw, wx_N89 hw, wx_a89 hw, wx_g0_9 hw, wx_s0_9 hw, wx_N90 hw, wx_a90 hw, wx_g0_10 hw, wx_s0_10 hw, wx_N91 hw, wx_a91 hw, wx_g75_0 hw, wx_s75_0 hw, wx_g75_1 hw, wx_s75_1 hw, wx_g75_2 hw, wx_s75_2 hw, wx_g75_3 hw, wx_s75_3 hw, wx_g75_4 hw, wx_s75_4 hw, wx_g75_5 hw, wx_s75_5 hw, List.not_mem_nil, false_implies, implies_true, nI_clamp, nI_add, Nat.reducePow, hp_bd, hp_bdi, hp_ts, hp_tn, hp_tsc, hp_tnc, Nat.reduceAdd, Nat.reduceSub, Nat.reduceMul, Nat.reduceLT, Nat.reduceLeDiff, Nat.reduceEqDiff, reduceIte, not_true_eq_false, not_false_eq_true, and_true, true_and, and_self, and_false, false_and, or_true, true_or, or_false, false_or, decide_true, decide_false, Bool.and_true, Bool.true_and, Bool.not_false, Bool.or_false, Bool.false_or, Bool.or_true, Bool.true_or, i01, k, k2, cl, hbi, cu, hui, q1, q2, q3, q4, r1, r2, r3, r4, k61, k61u, p1, u1, hne, k63]
      · have eo : op_34 G (nI t) i (nI u) j y = (-12, G) := by unfold op_34; simp only [e, eu]; rw [if_neg (fun q => q.elim hs hs2), if_pos hne]
        rw [eo]
        refine oC_id hR ?_
        simp only [b107_0, b107_4, b107_7, b107_11, b107_14, b107_16, b107_37, b107_40, b107_45, b107_48, b107_51, b107_64, b107_67, b107_75, b107_78, b107_87, b107_90, b107_93, e107, wx_o0 hw, wx_k0 hw, wx_q0 hw, wx_g0_0 hw, wx_s0_0 hw, wx_g0_1 hw, wx_s0_1 hw, wx_g0_2 hw, wx_s0_2 hw, wx_g0_3 hw, wx_s0_3 hw, wx_g0_4 hw, wx_s0_4 hw, wx_N42 hw, wx_a42 hw, wx_K42 hw, wx_g0_5 hw, wx_s0_5 hw, wx_g0_6 hw, wx_s0_6 hw, wx_N75 hw, wx_a75 hw, wx_K75 hw, wx_g0_7 hw, wx_s0_7 hw, wx_N88 hw, wx_a88 hw, wx_g0_8 hw, wx_s0_8 hw, wx_N89 hw, wx_a89 hw, wx_g0_9 hw, wx_s0_9 hw, wx_N90 hw, wx_a90 hw, wx_g0_10 hw, wx_s0_10 hw, wx_N91 hw, wx_a91 hw, wx_g75_0 hw, wx_s75_0 hw, wx_g75_1 hw, wx_s75_1 hw, wx_g75_2 hw, wx_s75_2 hw, wx_g75_3 hw, wx_s75_3 hw, wx_g75_4 hw, wx_s75_4 hw, wx_g75_5 hw, wx_s75_5 hw, List.not_mem_nil, false_implies, implies_true, nI_clamp, nI_add, Nat.reducePow, hp_bd, hp_bdi, hp_ts, hp_tn, hp_tsc, hp_tnc, Nat.reduceAdd, Nat.reduceSub, Nat.reduceMul, Nat.reduceLT, Nat.reduceLeDiff, Nat.reduceEqDiff, reduceIte, not_true_eq_false, not_false_eq_true, and_true, true_and, and_self, and_false, false_and, or_true, true_or, or_false, false_or, decide_true, decide_false, Bool.and_true, Bool.true_and, Bool.not_false, Bool.or_false, Bool.false_or, Bool.or_true, Bool.true_or, i01, k, k2, cl, hbi, cu, hui, q1, q2, q3, q4, r1, r2, r3, r4, k61, k61u, p1, u1, hne]
end C3
