/-! ===== a new BUYER ===== -/
def mk_ck (j : Nat) : Nat := ([0, 4, 10, 2, 7, 3, 9] : List Nat).getD j 0
def mk_in (S : mm_S) (a : Nat) (x1 x2 x3 x4 : Int32) : mm_S := mm_uM (mm_uM (mm_uM (mm_uM S a 0 x1) a 1 x2) a 2 x3) a 3 x4
def mk_nb (S : mm_S) (j : Nat) (x1 x2 x3 : Int32) : mm_S := mk_in (mm_nw S (mk_ck j) 4) (mm_n S) (nI j) x1 x2 x3
section NB
variable {S : mm_S} {a d : Nat} {x1 x2 x3 x4 : Int32}
theorem q_o {f : Nat} (ho : mm_obj S a f = true) : (decide (a < mm_n S) && decide (mm_K S a < 13)) = true := by
  rw [hn_o] at ho
  simp only [Bool.and_eq_true] at ho ⊢
  exact ho.1
theorem si_0 (ho : mm_obj S a 0 = true) : mm_cl (d + 1) 0 [.ref a, .int x1, .int x2, .int x3, .int x4] S = some (none, mk_in S a x1 x2 x3 x4) := by
  rw [e0, b0_0 ho]; rfl
theorem si_25 (ho : mm_obj S a 0 = true) : mm_cl (d + 2) 25 [.ref a, .int x1, .int x2, .int x3, .int x4] S = some (none, mk_in S a x1 x2 x3 x4) := by
  rw [e25, b25_0 (q_o ho), si_0 ho, hp_bd, hp_tnc, b25_9]
theorem si_31 (ho : mm_obj S a 0 = true) : mm_cl (d + 2) 31 [.ref a, .int x1, .int x2, .int x3, .int x4] S = some (none, mk_in S a x1 x2 x3 x4) := by
  rw [e31, b31_0 (q_o ho), si_0 ho, hp_bd, hp_tnc, b31_9]
theorem si_69 (ho : mm_obj S a 0 = true) : mm_cl (d + 2) 69 [.ref a, .int x1, .int x2, .int x3, .int x4] S = some (none, mk_in S a x1 x2 x3 x4) := by
  rw [e69, b69_0 (q_o ho), si_0 ho, hp_bd, hp_tnc, b69_9]
theorem si_28 (ho : mm_obj S a 0 = true) : mm_cl (d + 3) 28 [.ref a, .int x1, .int x2, .int x3, .int x4] S = some (none, mk_in S a x1 x2 x3 x4) := by
  rw [e28, b28_0 (q_o ho), si_69 ho, hp_bd, hp_tnc, b28_9]
theorem si_55 (ho : mm_obj S a 0 = true) : mm_cl (d + 3) 55 [.ref a, .int x1, .int x2, .int x3, .int x4] S = some (none, mk_in S a x1 x2 x3 x4) := by
  rw [e55, b55_0 (q_o ho), si_31 ho, hp_bd, hp_tnc, b55_9]
theorem si_65 (ho : mm_obj S a 0 = true) : mm_cl (d + 3) 65 [.ref a, .int x1, .int x2, .int x3, .int x4] S = some (none, mk_in S a x1 x2 x3 x4) := by
  rw [e65, b65_0 (q_o ho), si_25 ho, hp_bd, hp_tnc, b65_9]
theorem nw_o {k : Nat} (hk : k < 13) (hf : mm_fam 0 k = true) : mm_obj (mm_nw S k 4) (mm_n S) 0 = true := by
  rw [hn_o, hn_n, hn_K, if_pos rfl, hf]
  simp [hk]
theorem s111 (hn : mm_n S < 1000000) {j : Nat} (hj : j ≤ 6) : mm_cl (d + 4) 111 [.int (nI j), .int x1, .int x2, .int x3] S = some (some (.ref (mm_n S)), mk_nb S j x1 x2 x3) := by
  have h0 : decide (mm_n S < 1000000) = true := by simp [hn]
  have n0 : mm_NF 0 = 4 := rfl
  have n2 : mm_NF 2 = 4 := rfl
  have n3 : mm_NF 3 = 4 := rfl
  have n4 : mm_NF 4 = 4 := rfl
  have n7 : mm_NF 7 = 4 := rfl
  have n9 : mm_NF 9 = 4 := rfl
  have n10 : mm_NF 10 = 4 := rfl
  rw [e111, b111_0, b111_1]
  rcases (by omega : j = 0 ∨ j = 1 ∨ j = 2 ∨ j = 3 ∨ j = 4 ∨ j = 5 ∨ j = 6) with rfl | rfl | rfl | rfl | rfl | rfl | rfl
  · rw [if_neg (by decide), if_neg (by decide), if_neg (by decide), if_neg (by decide), if_neg (by decide), if_neg (by decide), b111_112 h0, n0, b111_115 (q_o (nw_o (by decide) rfl)), si_0 (nw_o (by decide) rfl), hp_bd, hp_tnc, b111_123]; rfl
  · rw [if_pos rfl, b111_40 h0, n4, b111_43 (q_o (nw_o (by decide) rfl)), si_31 (nw_o (by decide) rfl), hp_bd, hp_tnc, b111_51]; rfl
  · rw [if_neg (by decide), if_pos rfl, b111_52 h0, n10, b111_55 (q_o (nw_o (by decide) rfl)), si_69 (nw_o (by decide) rfl), hp_bd, hp_tnc, b111_63]; rfl
  · rw [if_neg (by decide), if_neg (by decide), if_pos rfl, b111_64 h0, n2, b111_67 (q_o (nw_o (by decide) rfl)), si_25 (nw_o (by decide) rfl), hp_bd, hp_tnc, b111_75]; rfl
  · rw [if_neg (by decide), if_neg (by decide), if_neg (by decide), if_pos rfl, b111_76 h0, n7, b111_79 (q_o (nw_o (by decide) rfl)), si_55 (nw_o (by decide) rfl), hp_bd, hp_tnc, b111_87]; rfl
  · rw [if_neg (by decide), if_neg (by decide), if_neg (by decide), if_neg (by decide), if_pos rfl, b111_88 h0, n3, b111_91 (q_o (nw_o (by decide) rfl)), si_28 (nw_o (by decide) rfl), hp_bd, hp_tnc, b111_99]; rfl
  · rw [if_neg (by decide), if_neg (by decide), if_neg (by decide), if_neg (by decide), if_neg (by decide), if_pos rfl, b111_100 h0, n9, b111_103 (q_o (nw_o (by decide) rfl)), si_65 (nw_o (by decide) rfl), hp_bd, hp_tnc, b111_111]; rfl
/-- a BUYER comes to a day -/
def mk_we (S : mm_S) (a b kn st : Nat) : mm_S := mm_uM (mm_uM (mm_uM (mm_uM (mm_uM (mm_uM (mm_uM (mm_uM (mm_uM (mm_uR S (a + 1) kn (some b)) (a + 2) kn (-1)) (a + 3) (kn * 3 + 0) (nI 0)) (a + 3) (kn * 3 + 1) (nI 0)) (a + 3) (kn * 3 + 2) (nI 0)) (a + 4) kn (nI 0)) (a + 5) kn (nI 0)) a 10 (nI (kn + 1))) (a + 6) st (nI kn)) a 11 (nI (st + 1))
theorem tr_dy (ha : mm_dy a) (j : Nat) : mm_tR (a + 1) j = none := by rcases ha with rfl | rfl | rfl | rfl <;> rfl
theorem s9 (hw : mm_W S) (ha : mm_dy a) {b kn st : Nat} (hkn : mm_M S a 10 = nI kn) (h1 : kn < 6) (hst : mm_M S a 11 = nI st) (h2 : st < 6) (hb : mm_obj S b 0 = true) (hW : mm_W (mm_uR S (a + 1) kn (some b))) : mm_cl (d + 1) 9 [.ref a, .ref b] S = some (none, mk_we S a b kn st) := by
  have c1 := nI_clamp (n := kn) (by omega)
  have c2 := nI_clamp (n := st) (by omega)
  have i1 := hp_inb h1 (by omega)
  have i2 := hp_inb h2 (by omega)
  have e3 : ∀ i, i < 3 → mm_inb (nI kn * nI 3 + nI i) 18 = true := fun i hi => by rw [nI_mul, nI_add]; exact hp_inb (by omega) (by omega)
  have e4 : ∀ i, i < 3 → (nI kn * nI 3 + nI i).toNatClampNeg = kn * 3 + i := fun i hi => by rw [nI_mul, nI_add, nI_clamp (by omega)]
  generalize hT : mm_uM (mm_uR S (a + 1) kn (some b)) (a + 2) kn (-1) = T
  have wT : mm_W T := by rw [← hT]; exact hW
  have key : ∀ i, i < 3 → ∀ U, mm_W U → mm_ex (d + 1) 9 31 [.ref a, .ref b, .int (nI kn), .int (nI i)] [] U = mm_ex (d + 1) 9 31 [.ref a, .ref b, .int (nI kn), .int (nI (i + 1))] [] (mm_uM U (a + 3) (kn * 3 + i) (nI 0)) := by
    intro i hi U hU
    rw [b9_31, if_neg (nI_ge hi (by decide)), b9_36 (wd_o hU ha) (wd_s2 hU ha) (by rw [wd_g2 hU ha]; exact wd_a3 hU ha) (by rw [wd_g2 hU ha, wd_N3 hU ha]; exact e3 i hi), wd_g2 hU ha, e4 i hi, nI_add]
  have w1 : mm_W (mm_uM T (a + 3) (kn * 3 + 0) (nI 0)) := wT
  have w2 : mm_W (mm_uM (mm_uM T (a + 3) (kn * 3 + 0) (nI 0)) (a + 3) (kn * 3 + 1) (nI 0)) := wT
  rw [e9, b9_0 (wd_o hw ha), hkn, if_pos (nI_lt h1 (by decide)), b9_10 (wd_o hw ha) (wd_s0 hw ha) (by rw [wd_g0 hw ha]; exact wd_a1 hw ha) (by rw [hkn, wd_g0 hw ha, wd_N1 hw ha]; exact i1) (by rw [wd_g0 hw ha, wd_K1 hw ha]; exact hb), wd_g0 hw ha, hkn, c1,
    b9_23 (wd_o hW ha) (wd_s1 hW ha) (by rw [wd_g1 hW ha]; exact wd_a2 hW ha) (by rw [wd_g1 hW ha, wd_N2 hW ha]; exact i1), wd_g1 hW ha, c1, hT, key 0 (by decide) T wT, key 1 (by decide) _ w1, key 2 (by decide) _ w2, b9_31, if_pos (by decide)]
  generalize hV : mm_uM (mm_uM (mm_uM T (a + 3) (kn * 3 + 0) (nI 0)) (a + 3) (kn * 3 + 1) (nI 0)) (a + 3) (kn * 3 + 2) (nI 0) = V
  have wV : mm_W V := by rw [← hV]; exact wT
  have m10 : mm_M (mm_uM (mm_uM V (a + 4) kn (nI 0)) (a + 5) kn (nI 0)) a 10 = nI kn := by
    rw [← hV, ← hT]
    rw [hp_MuM, if_neg (fun e => by omega), hp_MuM, if_neg (fun e => by omega), hp_MuM, if_neg (fun e => by omega), hp_MuM, if_neg (fun e => by omega), hp_MuM, if_neg (fun e => by omega), hp_MuM, if_neg (fun e => by omega), hp_MuR, hkn]
  have m11 : mm_M (mm_uM (mm_uM V (a + 4) kn (nI 0)) (a + 5) kn (nI 0)) a 11 = nI st := by
    rw [← hV, ← hT]
    rw [hp_MuM, if_neg (fun e => by omega), hp_MuM, if_neg (fun e => by omega), hp_MuM, if_neg (fun e => by omega), hp_MuM, if_neg (fun e => by omega), hp_MuM, if_neg (fun e => by omega), hp_MuM, if_neg (fun e => by omega), hp_MuR, hst]
  have wX : mm_W (mm_uM (mm_uM V (a + 4) kn (nI 0)) (a + 5) kn (nI 0)) := wV
  rw [b9_53 (wd_o wV ha) (wd_s3 wV ha) (by rw [wd_g3 wV ha]; exact wd_a4 wV ha) (by rw [wd_g3 wV ha, wd_N4 wV ha]; exact i1) (wd_s4 wV ha) (by rw [wd_g4 wV ha]; exact wd_a5 wV ha) (by rw [wd_g4 wV ha, wd_N5 wV ha]; exact i1), wd_g3 wV ha, wd_g4 wV ha, c1]
  generalize hX : mm_uM (mm_uM V (a + 4) kn (nI 0)) (a + 5) kn (nI 0) = X
  rw [hX] at m10 m11 wX
  have wY : mm_W (mm_uM X a 10 (nI (kn + 1))) := wX
  have wZ : mm_W (mm_uM (mm_uM X a 10 (nI (kn + 1))) (a + 6) st (nI kn)) := wX
  have y11 : mm_M (mm_uM X a 10 (nI (kn + 1))) a 11 = nI st := by rw [hp_MuM, if_neg (fun e => by omega), m11]
  have z11 : mm_M (mm_uM (mm_uM X a 10 (nI (kn + 1))) (a + 6) st (nI kn)) a 11 = nI st := by rw [hp_MuM, if_neg (fun e => by omega), y11]
  rw [b9_69 (wd_o wX ha) (wd_o wX ha) (wd_k wX ha), m10, nI_add, e13, b13_0 (wd_o wY ha), y11, if_neg (nI_ge h2 (by decide)), b13_9 (wd_o wY ha) (wd_s5 wY ha) (by rw [wd_g5 wY ha]; exact wd_a6 wY ha) (by rw [y11, wd_g5 wY ha, wd_N6 wY ha]; exact i2), wd_g5 wY ha, y11, c2, b13_21 (wd_o wZ ha) (wd_o wZ ha), z11, nI_add, hp_bd, hp_tnc, b9_82, ← hX, ← hV, ← hT]
  rfl
end NB
