/-! ===== calls of the class: of, gained, friend, row, back, set, told ===== -/
def gP (G : gb_G) : ab_P := gx_P (gb_x G)
def gD (G : gb_G) : ab_D := gx_D (gb_x G)
def gK (G : gb_G) : Nat := ab_kn (gP G)
/-- the BUYER that a number names -/
def ab_kw (n : Nat) (x : Int32) : Option Nat := if x < nI 0 ∨ nI n ≤ x then none else some x.toNatClampNeg
theorem kw_c {n : Nat} (hn : n ≤ 6) (x : Int32) : (ab_kw n x = none ∧ (x < nI 0 ∨ nI n ≤ x)) ∨ ∃ b, b < n ∧ ab_kw n x = some b ∧ x = nI b := by
  unfold ab_kw
  rcases pk_ix x (n := n) (by omega) with h | h | ⟨j, hj, rfl⟩
  · have h : x < nI 0 := h
    exact Or.inl ⟨if_pos (Or.inl h), Or.inl h⟩
  · exact Or.inl ⟨if_pos (Or.inr h), Or.inr h⟩
  · refine Or.inr ⟨j, hj, ?_, rfl⟩
    rw [if_neg (fun e => e.elim (nI_n0 (by omega)) (nI_ge hj (by omega))), nI_clamp (by omega)]
theorem kw_b {n b : Nat} (hn : n ≤ 6) (hb : b < n) : ab_kw n (nI b) = some b := by
  unfold ab_kw
  rw [if_neg (fun e => e.elim (nI_n0 (by omega)) (nI_ge hb (by omega))), nI_clamp (by omega)]
def an_1 (G : gb_G) (x w : Int32) : Int32 := match ab_kw (gK G) x with
  | none => -10001
  | some b => if w = nI 0 then nI (ab_ki (gP G) b) else if w = nI 1 then nI (ab_v (gP G) b) else if w = nI 2 then nI (ab_wo (gP G) b) else if w = nI 3 then md_fo (ab_fr (gP G) b) else if w = nI 4 then nI (ab_aw (gD G) b) else if w = nI 5 then md_fo (ab_at b (ab_row (gD G))) else if w = nI 6 then nI (ab_val (gP G) (gD G) b) else if w = nI 7 then nI (ab_cost (gP G) (gD G) b) else if w = nI 8 then (if ab_ki (gP G) b = 6 then nI (100 * ab_te (gP G) (3 * b) + 10 * ab_te (gP G) (3 * b + 1) + ab_te (gP G) (3 * b + 2)) else -5) else -10001
def an_2 (G : gb_G) (x : Int32) : Int32 := match ab_kw (gK G) x with
  | none => -100001
  | some b => ab_ga (gD G) b
section CO
variable {S T : mm_S} {G : gb_G} {d b n : Nat} {x y w : Int32}
theorem RC_A (ok : gb_ok G) (hR : RC S G) : cd_A S 6 (gP G) (gD G) := ⟨hR.1, dy6, hR.2.1.1, hR.2.1.2.1, ok.1.1, ok.1.2.1⟩
theorem s8n (ok : gb_ok G) (hR : RC S G) (e : ab_kw (gK G) x = none) : mm_cl d 8 [.ref 6, .int x] S = some (some (.int (nI 0)), S) := by
  have h : mm_M S 6 10 = nI (gK G) := hR.2.1.1.1
  rw [s8 hR.1 dy6, h]
  unfold ab_kw at e
  by_cases q : x < nI 0 ∨ nI (gK G) ≤ x
  · rw [if_pos q]
  · rw [if_neg q] at e; cases e
theorem s8s (ok : gb_ok G) (hR : RC S G) (hb : b < gK G) : mm_cl d 8 [.ref 6, .int (nI b)] S = some (some (.int (nI 1)), S) := by
  have h : mm_M S 6 10 = nI (gK G) := hR.2.1.1.1
  have hk : gK G ≤ 6 := ok.1.1.1
  rw [s8 hR.1 dy6, h, if_neg (fun e => e.elim (nI_n0 (by omega)) (nI_ge hb (by omega)))]
theorem fo_108 {o : Option Nat} (h : ∀ k, o = some k → k < 2 ^ 31) : mm_cl d 108 [.int (cd_fo o)] S = some (some (.int (md_fo o)), S) := by
  rw [s108]
  cases o with
  | none => rfl
  | some k =>
    show some (some (Value.int (if nI 0 ≤ nI k then nI k else -5)), S) = _
    rw [if_pos (nI_le (Nat.zero_le _) (h k rfl))]; rfl
theorem c_2 (ok : gb_ok G) (hR : RC S G) : mm_cl (d + 1) 75 [.ref 0, .int x] S = some (some (.int (an_2 G x)), S) := by
  have hw := hR.1
  have hk : gK G ≤ 6 := ok.1.1.1
  unfold an_2
  rcases kw_c hk x with ⟨e, h⟩ | ⟨b, hb, e, rfl⟩
  · have k := s8n (d := d) ok hR e
    rw [e]
    simp only [b75_0, b75_8, b75_11, b75_23, e75, wx_o0 hw, wx_k0 hw, wx_q0 hw, wx_g0_0 hw, wx_s0_0 hw, wx_g0_1 hw, wx_s0_1 hw, wx_g0_2 hw, wx_s0_2 hw, wx_g0_3 hw, wx_s0_3 hw, wx_g0_4 hw, wx_s0_4 hw, wx_N42 hw, wx_a42 hw, wx_K42 hw, wx_g0_5 hw, wx_s0_5 hw, wx_g0_6 hw, wx_s0_6 hw, wx_N75 hw, wx_a75 hw, wx_K75 hw, wx_g0_7 hw, wx_s0_7 hw, wx_N88 hw, wx_a88 hw, wx_g0_8 hw, wx_s0_8 hw, wx_N89 hw, wx_a89 hw, wx_g0_9 hw, wx_s0_9 hw, wx_N90 hw, wx_a90 hw, wx_g0_10 hw, wx_s0_10 hw, wx_N91 hw, wx_a91 hw, wx_o6 hw, wx_k6 hw, wx_q6 hw, wx_g6_0 hw, wx_s6_0 hw, wx_N7 hw, wx_a7 hw, wx_K7 hw, wx_g6_1 hw, wx_s6_1 hw, wx_N8 hw, wx_a8 hw, wx_g6_2 hw, wx_s6_2 hw, wx_N9 hw, wx_a9 hw, wx_g6_3 hw, wx_s6_3 hw, wx_N10 hw, wx_a10 hw, wx_g6_4 hw, wx_s6_4 hw, wx_N11 hw, wx_a11 hw, wx_g6_5 hw, wx_s6_5 hw, wx_N12 hw, wx_a12 hw, wx_g6_6 hw, wx_s6_6 hw, wx_N13 hw, wx_a13 hw, wx_g6_7 hw, wx_s6_7 hw, wx_N14 hw, wx_a14 hw, List.not_mem_nil, false_implies, implies_true, nI_clamp, nI_add, Nat.reducePow, hp_bd, hp_bdi, hp_ts, hp_tn, hp_tsc, hp_tnc, Nat.reduceAdd, Nat.reduceSub, Nat.reduceMul, Nat.reduceLT, Nat.reduceLeDiff, Nat.reduceEqDiff, reduceIte, not_true_eq_false, not_false_eq_true, and_true, true_and, and_self, and_false, false_and, or_true, true_or, or_false, false_or, decide_true, decide_false, Bool.and_true, Bool.true_and, Bool.not_false, Bool.or_false, Bool.false_or, Bool.or_true, Bool.true_or, k]
  · have k := s8s (d := d) ok hR hb
    have cl : (nI b).toNatClampNeg = b := nI_clamp (by omega)
    have hbi : mm_inb (nI b) 6 = true := hp_inb (by omega) (by omega)
    have hg : mm_M S 11 b = ab_ga (gD G) b := hR.2.1.2.1.2.2.2.1 b hb
    rw [e]
    simp only [b75_0, b75_8, b75_11, b75_23, e75, wx_o0 hw, wx_k0 hw, wx_q0 hw, wx_g0_0 hw, wx_s0_0 hw, wx_g0_1 hw, wx_s0_1 hw, wx_g0_2 hw, wx_s0_2 hw, wx_g0_3 hw, wx_s0_3 hw, wx_g0_4 hw, wx_s0_4 hw, wx_N42 hw, wx_a42 hw, wx_K42 hw, wx_g0_5 hw, wx_s0_5 hw, wx_g0_6 hw, wx_s0_6 hw, wx_N75 hw, wx_a75 hw, wx_K75 hw, wx_g0_7 hw, wx_s0_7 hw, wx_N88 hw, wx_a88 hw, wx_g0_8 hw, wx_s0_8 hw, wx_N89 hw, wx_a89 hw, wx_g0_9 hw, wx_s0_9 hw, wx_N90 hw, wx_a90 hw, wx_g0_10 hw, wx_s0_10 hw, wx_N91 hw, wx_a91 hw, wx_o6 hw, wx_k6 hw, wx_q6 hw, wx_g6_0 hw, wx_s6_0 hw, wx_N7 hw, wx_a7 hw, wx_K7 hw, wx_g6_1 hw, wx_s6_1 hw, wx_N8 hw, wx_a8 hw, wx_g6_2 hw, wx_s6_2 hw, wx_N9 hw, wx_a9 hw, wx_g6_3 hw, wx_s6_3 hw, wx_N10 hw, wx_a10 hw, wx_g6_4 hw, wx_s6_4 hw, wx_N11 hw, wx_a11 hw, wx_g6_5 hw, wx_s6_5 hw, wx_N12 hw, wx_a12 hw, wx_g6_6 hw, wx_s6_6 hw, wx_N13 hw, wx_a13 hw, wx_g6_7 hw, wx_s6_7 hw, wx_N14 hw, wx_a14 hw, List.not_mem_nil, false_implies, implies_true, nI_clamp, nI_add, Nat.reducePow, hp_bd, hp_bdi, hp_ts, hp_tn, hp_tsc, hp_tnc, Nat.reduceAdd, Nat.reduceSub, Nat.reduceMul, Nat.reduceLT, Nat.reduceLeDiff, Nat.reduceEqDiff, reduceIte, not_true_eq_false, not_false_eq_true, and_true, true_and, and_self, and_false, false_and, or_true, true_or, or_false, false_or, decide_true, decide_false, Bool.and_true, Bool.true_and, Bool.not_false, Bool.or_false, Bool.false_or, Bool.or_true, Bool.true_or, i01, k, cl, hbi, hg]
theorem c_1 (ok : gb_ok G) (hR : RC S G) : ∃ T, mm_cl (d + 4) 74 [.ref 0, .int x, .int w] S = some (some (.int (an_1 G x w)), T) ∧ RC T G ∧ sf_f gc_F S T ∧ mm_n T = mm_n S ∧ mm_z T = mm_z S := by
  have hw := hR.1
  have hk : gK G ≤ 6 := ok.1.1.1
  have hA := RC_A ok hR
  unfold an_1
  rcases kw_c hk x with ⟨e, h⟩ | ⟨b, hb, e, rfl⟩
  · have k := s8n (d := d + 3) ok hR e
    rw [e]
    refine ⟨S, ?_, hR, sf_rf, rfl, rfl⟩
    simp only [b74_0, b74_8, b74_11, b74_15, b74_26, b74_76, b74_81, b74_86, b74_91, b74_103, b74_104, b74_114, b74_122, b74_125, b74_126, b74_134, b74_142, b74_150, b74_158, b74_167, b74_172, b74_175, b74_178, e74, wx_o0 hw, wx_k0 hw, wx_q0 hw, wx_g0_0 hw, wx_s0_0 hw, wx_g0_1 hw, wx_s0_1 hw, wx_g0_2 hw, wx_s0_2 hw, wx_g0_3 hw, wx_s0_3 hw, wx_g0_4 hw, wx_s0_4 hw, wx_N42 hw, wx_a42 hw, wx_K42 hw, wx_g0_5 hw, wx_s0_5 hw, wx_g0_6 hw, wx_s0_6 hw, wx_N75 hw, wx_a75 hw, wx_K75 hw, wx_g0_7 hw, wx_s0_7 hw, wx_N88 hw, wx_a88 hw, wx_g0_8 hw, wx_s0_8 hw, wx_N89 hw, wx_a89 hw, wx_g0_9 hw, wx_s0_9 hw, wx_N90 hw, wx_a90 hw, wx_g0_10 hw, wx_s0_10 hw, wx_N91 hw, wx_a91 hw, wx_o6 hw, wx_k6 hw, wx_q6 hw, wx_g6_0 hw, wx_s6_0 hw, wx_N7 hw, wx_a7 hw, wx_K7 hw, wx_g6_1 hw, wx_s6_1 hw, wx_N8 hw, wx_a8 hw, wx_g6_2 hw, wx_s6_2 hw, wx_N9 hw, wx_a9 hw, wx_g6_3 hw, wx_s6_3 hw, wx_N10 hw, wx_a10 hw, wx_g6_4 hw, wx_s6_4 hw, wx_N11 hw, wx_a11 hw, wx_g6_5 hw, wx_s6_5 hw, wx_N12 hw, wx_a12 hw, wx_g6_6 hw, wx_s6_6 hw, wx_N13 hw, wx_a13 hw, wx_g6_7 hw, wx_s6_7 hw, wx_N14 hw, wx_a14 hw, List.not_mem_nil, false_implies, implies_true, nI_clamp, nI_add, Nat.reducePow, hp_bd, hp_bdi, hp_ts, hp_tn, hp_tsc, hp_tnc, Nat.reduceAdd, Nat.reduceSub, Nat.reduceMul, Nat.reduceLT, Nat.reduceLeDiff, Nat.reduceEqDiff, reduceIte, not_true_eq_false, not_false_eq_true, and_true, true_and, and_self, and_false, false_and, or_true, true_or, or_false, false_or, decide_true, decide_false, Bool.and_true, Bool.true_and, Bool.not_false, Bool.or_false, Bool.false_or, Bool.or_true, Bool.true_or, k]
  · have k := s8s (d := d + 3) ok hR hb
    have cl : (nI b).toNatClampNeg = b := nI_clamp (by omega)
    have hbi : mm_inb (nI b) 6 = true := hp_inb (by omega) (by omega)
    obtain ⟨o, ho, hy⟩ := hA.2.2.1.2.2.2.2.1 b hb
    have ho : mm_R S 7 b = some o := ho
    have hkk := (hA.2.2.2.2.1.2.2.2.1 b hb)
    have oo := by_o hkk.1 hy
    have rgo : mm_rg S 7 b = o := hp_rg ho
    have rso : (mm_R S 7 b).isSome = true := hp_rs ho
    have m0 : mm_M S o 0 = nI (ab_ki (gP G) b) := hy.2.2.2.1
    have m2 : mm_M S o 2 = nI (ab_v (gP G) b) := hy.2.2.2.2.2.1
    have m3 : mm_M S o 3 = nI (ab_wo (gP G) b) := hy.2.2.2.2.2.2
    have start : mm_cl (d + 4) 74 [.ref 0, .int (nI b), .int w] S = mm_ex (d + 4) 74 26 [.ref 0, .int (nI b), .int w, .ref o] [.int w] S := by
      simp only [b74_0, b74_8, b74_15, e74, wx_o0 hw, wx_k0 hw, wx_q0 hw, wx_g0_0 hw, wx_s0_0 hw, wx_g0_1 hw, wx_s0_1 hw, wx_g0_2 hw, wx_s0_2 hw, wx_g0_3 hw, wx_s0_3 hw, wx_g0_4 hw, wx_s0_4 hw, wx_N42 hw, wx_a42 hw, wx_K42 hw, wx_g0_5 hw, wx_s0_5 hw, wx_g0_6 hw, wx_s0_6 hw, wx_N75 hw, wx_a75 hw, wx_K75 hw, wx_g0_7 hw, wx_s0_7 hw, wx_N88 hw, wx_a88 hw, wx_g0_8 hw, wx_s0_8 hw, wx_N89 hw, wx_a89 hw, wx_g0_9 hw, wx_s0_9 hw, wx_N90 hw, wx_a90 hw, wx_g0_10 hw, wx_s0_10 hw, wx_N91 hw, wx_a91 hw, wx_o6 hw, wx_k6 hw, wx_q6 hw, wx_g6_0 hw, wx_s6_0 hw, wx_N7 hw, wx_a7 hw, wx_K7 hw, wx_g6_1 hw, wx_s6_1 hw, wx_N8 hw, wx_a8 hw, wx_g6_2 hw, wx_s6_2 hw, wx_N9 hw, wx_a9 hw, wx_g6_3 hw, wx_s6_3 hw, wx_N10 hw, wx_a10 hw, wx_g6_4 hw, wx_s6_4 hw, wx_N11 hw, wx_a11 hw, wx_g6_5 hw, wx_s6_5 hw, wx_N12 hw, wx_a12 hw, wx_g6_6 hw, wx_s6_6 hw, wx_N13 hw, wx_a13 hw, wx_g6_7 hw, wx_s6_7 hw, wx_N14 hw, wx_a14 hw, List.not_mem_nil, false_implies, implies_true, nI_clamp, nI_add, Nat.reducePow, hp_bd, hp_bdi, hp_ts, hp_tn, hp_tsc, hp_tnc, Nat.reduceAdd, Nat.reduceSub, Nat.reduceMul, Nat.reduceLT, Nat.reduceLeDiff, Nat.reduceEqDiff, reduceIte, not_true_eq_false, not_false_eq_true, and_true, true_and, and_self, and_false, false_and, or_true, true_or, or_false, false_or, decide_true, decide_false, Bool.and_true, Bool.true_and, Bool.not_false, Bool.or_false, Bool.false_or, Bool.or_true, Bool.true_or, i01, k, cl, hbi, rgo, rso]
    rw [e, start, b74_26]
    have hfr : mm_M S 8 b = cd_fo (ab_fr (gP G) b) := hA.2.2.1.2.2.1 b hb
    have haw : mm_M S 10 b = nI (ab_aw (gD G) b) := hA.2.2.2.1.2.2.1 b hb
    have k12 := s12b (d := d + 3) hA hb
    have f1 : ∀ k, ab_fr (gP G) b = some k → k < 2 ^ 31 := fun k h => by have := (hA.2.2.2.2.1.2.2.2.2.1 b k hb h).1; have hk : ab_kn (gP G) ≤ 6 := hk; omega
    have f2 : ∀ k, ab_at b (ab_row (gD G)) = some k → k < 2 ^ 31 := fun k h => by have := at_lt (row_le hA.2.2.2.2.1 hA.2.2.2.2.2) h; omega
    have k108 := fo_108 (d := d + 3) (S := S) f1
    have k108b := fo_108 (d := d + 3) (S := S) f2
    have k19 := s19 (d := d) hA hb
    have fr19 := sf_cd (wg_fr (S := S) (a := 6) (b := b) (P := gP G) (D := gD G))
    simp only
    by_cases w0 : w = nI 0
    · rw [if_pos w0, if_pos w0, b74_76 oo, m0]; exact ⟨S, rfl, hR, sf_rf, rfl, rfl⟩
    rw [if_neg w0, if_neg w0]
    by_cases w1 : w = nI 1
    · rw [if_pos w1, if_pos w1, b74_81 oo, m2]; exact ⟨S, rfl, hR, sf_rf, rfl, rfl⟩
    rw [if_neg w1, if_neg w1]
    by_cases w2 : w = nI 2
    · rw [if_pos w2, if_pos w2, b74_86 oo, m3]; exact ⟨S, rfl, hR, sf_rf, rfl, rfl⟩
    rw [if_neg w2, if_neg w2]
    by_cases w3 : w = nI 3
    · rw [if_pos w3, if_pos w3]
      refine ⟨S, ?_, hR, sf_rf, rfl, rfl⟩
      simp only [b74_91, b74_103, wx_o0 hw, wx_k0 hw, wx_q0 hw, wx_g0_0 hw, wx_s0_0 hw, wx_g0_1 hw, wx_s0_1 hw, wx_g0_2 hw, wx_s0_2 hw, wx_g0_3 hw, wx_s0_3 hw, wx_g0_4 hw, wx_s0_4 hw, wx_N42 hw, wx_a42 hw, wx_K42 hw, wx_g0_5 hw, wx_s0_5 hw, wx_g0_6 hw, wx_s0_6 hw, wx_N75 hw, wx_a75 hw, wx_K75 hw, wx_g0_7 hw, wx_s0_7 hw, wx_N88 hw, wx_a88 hw, wx_g0_8 hw, wx_s0_8 hw, wx_N89 hw, wx_a89 hw, wx_g0_9 hw, wx_s0_9 hw, wx_N90 hw, wx_a90 hw, wx_g0_10 hw, wx_s0_10 hw, wx_N91 hw, wx_a91 hw, wx_o6 hw, wx_k6 hw, wx_q6 hw, wx_g6_0 hw, wx_s6_0 hw, wx_N7 hw, wx_a7 hw, wx_K7 hw, wx_g6_1 hw, wx_s6_1 hw, wx_N8 hw, wx_a8 hw, wx_g6_2 hw, wx_s6_2 hw, wx_N9 hw, wx_a9 hw, wx_g6_3 hw, wx_s6_3 hw, wx_N10 hw, wx_a10 hw, wx_g6_4 hw, wx_s6_4 hw, wx_N11 hw, wx_a11 hw, wx_g6_5 hw, wx_s6_5 hw, wx_N12 hw, wx_a12 hw, wx_g6_6 hw, wx_s6_6 hw, wx_N13 hw, wx_a13 hw, wx_g6_7 hw, wx_s6_7 hw, wx_N14 hw, wx_a14 hw, List.not_mem_nil, false_implies, implies_true, nI_clamp, nI_add, Nat.reducePow, hp_bd, hp_bdi, hp_ts, hp_tn, hp_tsc, hp_tnc, Nat.reduceAdd, Nat.reduceSub, Nat.reduceMul, Nat.reduceLT, Nat.reduceLeDiff, Nat.reduceEqDiff, reduceIte, not_true_eq_false, not_false_eq_true, and_true, true_and, and_self, and_false, false_and, or_true, true_or, or_false, false_or, decide_true, decide_false, Bool.and_true, Bool.true_and, Bool.not_false, Bool.or_false, Bool.false_or, Bool.or_true, Bool.true_or, cl, hbi, hfr, k108]
    rw [if_neg w3, if_neg w3]
    by_cases w4 : w = nI 4
    · rw [if_pos w4, if_pos w4]
      refine ⟨S, ?_, hR, sf_rf, rfl, rfl⟩
      simp only [b74_104, wx_o0 hw, wx_k0 hw, wx_q0 hw, wx_g0_0 hw, wx_s0_0 hw, wx_g0_1 hw, wx_s0_1 hw, wx_g0_2 hw, wx_s0_2 hw, wx_g0_3 hw, wx_s0_3 hw, wx_g0_4 hw, wx_s0_4 hw, wx_N42 hw, wx_a42 hw, wx_K42 hw, wx_g0_5 hw, wx_s0_5 hw, wx_g0_6 hw, wx_s0_6 hw, wx_N75 hw, wx_a75 hw, wx_K75 hw, wx_g0_7 hw, wx_s0_7 hw, wx_N88 hw, wx_a88 hw, wx_g0_8 hw, wx_s0_8 hw, wx_N89 hw, wx_a89 hw, wx_g0_9 hw, wx_s0_9 hw, wx_N90 hw, wx_a90 hw, wx_g0_10 hw, wx_s0_10 hw, wx_N91 hw, wx_a91 hw, wx_o6 hw, wx_k6 hw, wx_q6 hw, wx_g6_0 hw, wx_s6_0 hw, wx_N7 hw, wx_a7 hw, wx_K7 hw, wx_g6_1 hw, wx_s6_1 hw, wx_N8 hw, wx_a8 hw, wx_g6_2 hw, wx_s6_2 hw, wx_N9 hw, wx_a9 hw, wx_g6_3 hw, wx_s6_3 hw, wx_N10 hw, wx_a10 hw, wx_g6_4 hw, wx_s6_4 hw, wx_N11 hw, wx_a11 hw, wx_g6_5 hw, wx_s6_5 hw, wx_N12 hw, wx_a12 hw, wx_g6_6 hw, wx_s6_6 hw, wx_N13 hw, wx_a13 hw, wx_g6_7 hw, wx_s6_7 hw, wx_N14 hw, wx_a14 hw, List.not_mem_nil, false_implies, implies_true, nI_clamp, nI_add, Nat.reducePow, hp_bd, hp_bdi, hp_ts, hp_tn, hp_tsc, hp_tnc, Nat.reduceAdd, Nat.reduceSub, Nat.reduceMul, Nat.reduceLT, Nat.reduceLeDiff, Nat.reduceEqDiff, reduceIte, not_true_eq_false, not_false_eq_true, and_true, true_and, and_self, and_false, false_and, or_true, true_or, or_false, false_or, decide_true, decide_false, Bool.and_true, Bool.true_and, Bool.not_false, Bool.or_false, Bool.false_or, Bool.or_true, Bool.true_or, cl, hbi, haw]
    rw [if_neg w4, if_neg w4]
    by_cases w5 : w = nI 5
    · rw [if_pos w5, if_pos w5]
      refine ⟨S, ?_, hR, sf_rf, rfl, rfl⟩
      simp only [b74_114, b74_122, b74_125, wx_o0 hw, wx_k0 hw, wx_q0 hw, wx_g0_0 hw, wx_s0_0 hw, wx_g0_1 hw, wx_s0_1 hw, wx_g0_2 hw, wx_s0_2 hw, wx_g0_3 hw, wx_s0_3 hw, wx_g0_4 hw, wx_s0_4 hw, wx_N42 hw, wx_a42 hw, wx_K42 hw, wx_g0_5 hw, wx_s0_5 hw, wx_g0_6 hw, wx_s0_6 hw, wx_N75 hw, wx_a75 hw, wx_K75 hw, wx_g0_7 hw, wx_s0_7 hw, wx_N88 hw, wx_a88 hw, wx_g0_8 hw, wx_s0_8 hw, wx_N89 hw, wx_a89 hw, wx_g0_9 hw, wx_s0_9 hw, wx_N90 hw, wx_a90 hw, wx_g0_10 hw, wx_s0_10 hw, wx_N91 hw, wx_a91 hw, wx_o6 hw, wx_k6 hw, wx_q6 hw, wx_g6_0 hw, wx_s6_0 hw, wx_N7 hw, wx_a7 hw, wx_K7 hw, wx_g6_1 hw, wx_s6_1 hw, wx_N8 hw, wx_a8 hw, wx_g6_2 hw, wx_s6_2 hw, wx_N9 hw, wx_a9 hw, wx_g6_3 hw, wx_s6_3 hw, wx_N10 hw, wx_a10 hw, wx_g6_4 hw, wx_s6_4 hw, wx_N11 hw, wx_a11 hw, wx_g6_5 hw, wx_s6_5 hw, wx_N12 hw, wx_a12 hw, wx_g6_6 hw, wx_s6_6 hw, wx_N13 hw, wx_a13 hw, wx_g6_7 hw, wx_s6_7 hw, wx_N14 hw, wx_a14 hw, List.not_mem_nil, false_implies, implies_true, nI_clamp, nI_add, Nat.reducePow, hp_bd, hp_bdi, hp_ts, hp_tn, hp_tsc, hp_tnc, Nat.reduceAdd, Nat.reduceSub, Nat.reduceMul, Nat.reduceLT, Nat.reduceLeDiff, Nat.reduceEqDiff, reduceIte, not_true_eq_false, not_false_eq_true, and_true, true_and, and_self, and_false, false_and, or_true, true_or, or_false, false_or, decide_true, decide_false, Bool.and_true, Bool.true_and, Bool.not_false, Bool.or_false, Bool.false_or, Bool.or_true, Bool.true_or, k12, k108b]
    rw [if_neg w5, if_neg w5]
    have q19 : sf_f gc_F S (mm_uM (mm_uM (cd_mw S 6 b (gP G) (gD G)) 6 18 (nI (ab_val (gP G) (gD G) b))) 6 19 (nI (ab_cost (gP G) (gD G) b))) := by
      unfold cd_mw
      have f14 : ∀ j, gc_F (6 + 8) j := fun j => Or.inr (Or.inr (Or.inl rfl))
      exact sf_tr (sf_tr (sf_tr (sf_tr (sf_tr (sf_tr (sf_tr (sf_tr (sf_uM (f14 0)) (sf_uM (f14 1))) (sf_uM (f14 2))) (sf_uM (f14 3))) (sf_uM (f14 4))) (sf_uM (f14 5))) (sf_uM (f14 6))) (sf_uM (Or.inr (Or.inr (Or.inr ⟨rfl, Or.inl rfl⟩))))) (sf_uM (Or.inr (Or.inr (Or.inr ⟨rfl, Or.inr rfl⟩))))
    have w19 : mm_W (mm_uM (mm_uM (cd_mw S 6 b (gP G) (gD G)) 6 18 (nI (ab_val (gP G) (gD G) b))) 6 19 (nI (ab_cost (gP G) (gD G) b))) := hw
    by_cases w6 : w = nI 6
    · rw [if_pos w6, if_pos w6]
      refine ⟨_, ?_, RC_q ok q19 w19 hR, q19, rfl, rfl⟩
      rw [b74_126 (wx_o0 hw) (wx_s0_0 hw) (by rw [wx_g0_0 hw]; exact wx_k6 hw), wx_g0_0 hw, k19, hp_bd, hp_tnc, b74_134 (wx_o0 w19) (wx_s0_0 w19) (by rw [wx_g0_0 w19]; exact wx_o6 w19), wx_g0_0 w19, uM_k (by decide), uM_s]
    rw [if_neg w6, if_neg w6]
    by_cases w7 : w = nI 7
    · rw [if_pos w7, if_pos w7]
      refine ⟨_, ?_, RC_q ok q19 w19 hR, q19, rfl, rfl⟩
      rw [b74_142 (wx_o0 hw) (wx_s0_0 hw) (by rw [wx_g0_0 hw]; exact wx_k6 hw), wx_g0_0 hw, k19, hp_bd, hp_tnc, b74_150 (wx_o0 w19) (wx_s0_0 w19) (by rw [wx_g0_0 w19]; exact wx_o6 w19), wx_g0_0 w19, uM_s]
    rw [if_neg w7, if_neg w7]
    by_cases w8 : w = nI 8
    · rw [if_pos w8, if_pos w8, b74_158 oo, m0]
      refine ⟨S, ?_, hR, sf_rf, rfl, rfl⟩
      by_cases h6 : ab_ki (gP G) b = 6
      · have t0 : mm_M S 9 (b * 3) = nI (ab_te (gP G) (3 * b)) := by rw [Nat.mul_comm]; exact hA.2.2.1.2.2.2.1 _ (by have hb : b < ab_kn (gP G) := hb; omega)
        have t1 : mm_M S 9 (b * 3 + 1) = nI (ab_te (gP G) (3 * b + 1)) := by rw [Nat.mul_comm]; exact hA.2.2.1.2.2.2.1 _ (by have hb : b < ab_kn (gP G) := hb; omega)
        have t2 : mm_M S 9 (b * 3 + 2) = nI (ab_te (gP G) (3 * b + 2)) := by rw [Nat.mul_comm]; exact hA.2.2.1.2.2.2.1 _ (by have hb : b < ab_kn (gP G) := hb; omega)
        have c0 : (nI (b * 3)).toNatClampNeg = b * 3 := nI_clamp (by omega)
        have c1 : (nI (b * 3 + 1)).toNatClampNeg = b * 3 + 1 := nI_clamp (by omega)
        have c2 : (nI (b * 3 + 2)).toNatClampNeg = b * 3 + 2 := nI_clamp (by omega)
        have j0 : mm_inb (nI (b * 3)) 18 = true := hp_inb (by omega) (by omega)
        have j1 : mm_inb (nI (b * 3 + 1)) 18 = true := hp_inb (by omega) (by omega)
        have j2 : mm_inb (nI (b * 3 + 2)) 18 = true := hp_inb (by omega) (by omega)
        rw [if_pos (by rw [h6]), if_pos h6]
        simp only [b74_167, b74_172, b110_0, e110, wx_o0 hw, wx_k0 hw, wx_q0 hw, wx_g0_0 hw, wx_s0_0 hw, wx_g0_1 hw, wx_s0_1 hw, wx_g0_2 hw, wx_s0_2 hw, wx_g0_3 hw, wx_s0_3 hw, wx_g0_4 hw, wx_s0_4 hw, wx_N42 hw, wx_a42 hw, wx_K42 hw, wx_g0_5 hw, wx_s0_5 hw, wx_g0_6 hw, wx_s0_6 hw, wx_N75 hw, wx_a75 hw, wx_K75 hw, wx_g0_7 hw, wx_s0_7 hw, wx_N88 hw, wx_a88 hw, wx_g0_8 hw, wx_s0_8 hw, wx_N89 hw, wx_a89 hw, wx_g0_9 hw, wx_s0_9 hw, wx_N90 hw, wx_a90 hw, wx_g0_10 hw, wx_s0_10 hw, wx_N91 hw, wx_a91 hw, wx_o6 hw, wx_k6 hw, wx_q6 hw, wx_g6_0 hw, wx_s6_0 hw, wx_N7 hw, wx_a7 hw, wx_K7 hw, wx_g6_1 hw, wx_s6_1 hw, wx_N8 hw, wx_a8 hw, wx_g6_2 hw, wx_s6_2 hw, wx_N9 hw, wx_a9 hw, wx_g6_3 hw, wx_s6_3 hw, wx_N10 hw, wx_a10 hw, wx_g6_4 hw, wx_s6_4 hw, wx_N11 hw, wx_a11 hw, wx_g6_5 hw, wx_s6_5 hw, wx_N12 hw, wx_a12 hw, wx_g6_6 hw, wx_s6_6 hw, wx_N13 hw, wx_a13 hw, wx_g6_7 hw, wx_s6_7 hw, wx_N14 hw, wx_a14 hw, List.not_mem_nil, false_implies, implies_true, nI_clamp, nI_add, Nat.reducePow, hp_bd, hp_bdi, hp_ts, hp_tn, hp_tsc, hp_tnc, Nat.reduceAdd, Nat.reduceSub, Nat.reduceMul, Nat.reduceLT, Nat.reduceLeDiff, Nat.reduceEqDiff, reduceIte, not_true_eq_false, not_false_eq_true, and_true, true_and, and_self, and_false, false_and, or_true, true_or, or_false, false_or, decide_true, decide_false, Bool.and_true, Bool.true_and, Bool.not_false, Bool.or_false, Bool.false_or, Bool.or_true, Bool.true_or, nI_mul, c0, c1, c2, j0, j1, j2, t0, t1, t2]
      · rw [if_neg (fun e => h6 ((nI_eq (by omega) (by decide)).mp e)), if_neg h6, b74_175]
    rw [if_neg w8, if_neg w8, b74_178]
    exact ⟨S, rfl, hR, sf_rf, rfl, rfl⟩
end CO
