section BY
variable {S : mm_S} {d : Nat}
theorem ck_ok {j : Nat} (hj : j ≤ 6) : mk_ck j < 13 ∧ mm_fam 0 (mk_ck j) = true := by
  rcases (by omega : j = 0 ∨ j = 1 ∨ j = 2 ∨ j = 3 ∨ j = 4 ∨ j = 5 ∨ j = 6) with rfl | rfl | rfl | rfl | rfl | rfl | rfl <;> decide
theorem nb_M {j c i : Nat} {x1 x2 x3 : Int32} (hc : c ≠ mm_n S) : mm_M (mk_nb S j x1 x2 x3) c i = mm_M S c i := by
  unfold mk_nb mk_in
  rw [hp_MuM, if_neg (fun e => hc e.1), hp_MuM, if_neg (fun e => hc e.1), hp_MuM, if_neg (fun e => hc e.1), hp_MuM, if_neg (fun e => hc e.1), hn_M, if_neg hc]
theorem nb_G (hF : mm_Fr S) {j : Nat} {x1 x2 x3 : Int32} : mm_Gd (mk_nb S j x1 x2 x3) :=
  g_sm (gF hF) (w_nw hF.2.2.2) (fun b h1 h2 => ⟨(sm_nw (by rw [hF.1]; exact h2)).1, (sm_nw (S := S) (t := mk_ck j) (n := 4) (by rw [hF.1]; exact h2)).2.1, fun i => nb_M (by rw [hF.1]; omega), fun i => (sm_nw (S := S) (t := mk_ck j) (n := 4) (by rw [hF.1]; exact h2)).2.2.2 i⟩) (by show mm_n S + 1 ≤ 200; rw [hF.1]; decide) (by show mm_z S + 4 ≤ 5000; rw [hF.2.1]; decide)
theorem pc_0 (hF : mm_Fr S) {k v w : Int32} : ∃ S1, mm_cl 29 73 [.ref 0, .int k, .int v, .int w] S = some (some (.int (if k < nI 0 ∨ nI 6 < k then -1 else if v < nI 0 ∨ nI 9 < v ∨ w < nI 0 ∨ nI 99 < w then -2 else nI 0)), S1) ∧ mm_Gd S1 := by
  have hw := hF.2.2.2
  have t6 := hF.2.2.1 6 (by decide)
  rw [e73, b73_0]
  rcases i_rg k 6 7 (by decide) rfl with ⟨q, -, r⟩ | ⟨q0, p, q, r⟩ | ⟨j, hj, rfl⟩
  · exact ⟨S, by rw [if_pos q, b73_10, if_pos (Or.inl q)], gF hF⟩
  · exact ⟨S, by rw [if_neg q0, b73_4, if_neg (Int32.not_le.mpr q), b73_10, if_pos (Or.inr q)], gF hF⟩
  · have n0 : ¬ nI j < nI 0 := nI_pos (n := j) (by omega)
    have n6 : ¬ nI 6 < nI j := nI_nlt hj (by decide)
    rw [if_neg n0, b73_4, if_pos (Int32.not_lt.mp n6), if_neg (fun e : nI j < nI 0 ∨ nI 6 < nI j => e.elim n0 n6), b73_12]
    by_cases v1 : v < nI 0
    · exact ⟨S, by rw [if_pos v1, b73_32, if_pos (Or.inl v1)], gF hF⟩
    rw [if_neg v1, b73_16]
    by_cases v2 : nI 9 < v
    · exact ⟨S, by rw [if_pos v2, b73_32, if_pos (Or.inr (Or.inl v2))], gF hF⟩
    rw [if_neg v2, b73_22]
    by_cases w1 : w < nI 0
    · exact ⟨S, by rw [if_pos w1, b73_32, if_pos (Or.inr (Or.inr (Or.inl w1)))], gF hF⟩
    rw [if_neg w1, b73_26]
    by_cases w2 : nI 99 < w
    · exact ⟨S, by rw [if_neg (Int32.not_le.mpr w2), b73_32, if_pos (Or.inr (Or.inr (Or.inr w2)))], gF hF⟩
    have h10 : mm_M S (mm_rg S 0 0) 10 = nI 0 := by rw [wf_g0_0 hw, ff_6_10 t6]
    have ob := (by rw [wf_g0_0 hw]; exact wd_o hw dy6 : mm_obj S (mm_rg S 0 0) 1 = true)
    have gB := nb_G hF (j := j) (x1 := nI 0) (x2 := v) (x3 := w)
    have wB := gB.1
    have m10 : mm_M (mk_nb S j (nI 0) v w) 6 10 = nI 0 := by rw [nb_M (by rw [hF.1]; decide), ff_6_10 t6]
    have m11 : mm_M (mk_nb S j (nI 0) v w) 6 11 = nI 0 := by rw [nb_M (by rw [hF.1]; decide), ff_6_11 t6]
    have oB : mm_obj (mk_nb S j (nI 0) v w) (mm_n S) 0 = true := nw_o (ck_ok hj).1 (ck_ok hj).2
    rw [if_pos (Int32.not_lt.mp w2), b73_35 (wf_o0 hw) (wf_s0_0 hw) ob, h10, if_pos (by decide), b73_50 (wf_o0 hw) (wf_s0_0 hw) ob, h10, wf_g0_0 hw, s111 (d := 24) (by rw [hF.1]; decide) hj, hp_bd, hp_tsc, b73_71 (wd_k wB dy6), s9 (d := 27) (kn := 0) (st := 0) wB dy6 m10 (by decide) m11 (by decide) oB (w_uR rfl wB), hp_bd, hp_tnc, b73_74]
    refine ⟨_, by rw [if_neg (fun e : v < nI 0 ∨ nI 9 < v ∨ w < nI 0 ∨ nI 99 < w => e.elim v1 (fun e => e.elim v2 (fun e => e.elim w1 w2)))], ?_⟩
    exact g_uM (by decide) (g_uM (by decide) (g_uM (by decide) (g_uM (by decide) (g_uM (by decide) (g_uM (by decide) (g_uM (by decide) (g_uM (by decide) (g_uM (by decide) (g_uR (by decide) rfl gB)))))))))
def mk_p (S U : mm_S) : Prop := mm_W U ∧ mm_M U 92 0 = nI 0 ∧ mm_M U 92 8 = nI 0 ∧ mm_n U = mm_n S ∧ mm_z U = mm_z S
theorem p_uM {U : mm_S} {c j : Nat} {x : Int32} (hc : c ≠ 92) (h : mk_p S U) : mk_p S (mm_uM U c j x) := by
  refine ⟨h.1, ?_, ?_, h.2.2.2.1, h.2.2.2.2⟩
  · rw [hp_MuM, if_neg (fun e => hc e.1.symm), h.2.1]
  · rw [hp_MuM, if_neg (fun e => hc e.1.symm), h.2.2.1]
theorem l131 {k v w : Int32} : ∀ (n i : Nat) (U : mm_S), i + n = 3 → mk_p S U → ∃ T, mm_ex d 131 111 [.ref 92, .int k, .int v, .int w, .int (nI i)] [] U = mm_ex d 131 138 [.ref 92, .int k, .int v, .int w, .int (nI 3)] [] T ∧ mk_p S T := by
  intro n
  induction n with
  | zero =>
    intro i U hi hU
    have e : i = 3 := by omega
    subst e
    exact ⟨U, by rw [b131_111, if_pos (by decide)], hU⟩
  | succ n ih =>
    intro i U hi hU
    have e1 : (nI 3 * nI 0) + nI i = nI i := by rw [nI_mul, nI_add]; congr 1; omega
    obtain ⟨T, h1, h2⟩ := ih (i + 1) (mm_uM U 99 i (nI 0)) (by omega) (p_uM (by decide) hU)
    refine ⟨T, ?_, h2⟩
    rw [b131_111, if_neg (nI_ge (by omega) (by decide)), b131_117 (wf_o92 hU.1) (wf_s92_7 hU.1) (by rw [wf_g92_7 hU.1]; exact wf_a99 hU.1) (by rw [hU.2.1, e1, wf_g92_7 hU.1, wf_N99 hU.1]; exact hp_inb (by omega) (by omega)), hU.2.1, e1, wf_g92_7 hU.1, nI_clamp (by omega), nI_add, h1]
theorem pm_0 (hG : mm_Gd S) {k v w : Int32} : ∃ S1, mm_cl 29 131 [.ref 92, .int k, .int v, .int w] S = some (some (.int (if k < nI 0 ∨ nI 6 < k then -1 else if v < nI 0 ∨ nI 9 < v ∨ w < nI 0 ∨ nI 99 < w then -2 else nI 0)), S1) ∧ mm_n S1 ≤ 600000 ∧ mm_z S1 ≤ 7302250 := by
  have hw := hG.1
  have z1 := hG.2.2.2.2.2.2.1
  have z2 := hG.2.2.2.2.2.2.2
  rw [e131, b131_0, s128, hp_bd, hp_ts, b131_7]
  by_cases hk : k < nI 0 ∨ nI 6 < k
  · exact ⟨S, by rw [if_pos hk, if_pos rfl, b131_10, if_pos hk], by omega, by omega⟩
  rw [if_neg hk, if_neg hk, if_neg i01, b131_12, s128, hp_bd, hp_ts, b131_19]
  by_cases hv : v < nI 0 ∨ nI 9 < v
  · exact ⟨S, by rw [if_pos hv, if_pos rfl, b131_32, if_pos (hv.elim Or.inl (fun e => Or.inr (Or.inl e)))], by omega, by omega⟩
  rw [if_neg hv, if_neg i01, b131_22, s128, hp_bd, hp_ts, b131_29]
  by_cases hx : w < nI 0 ∨ nI 99 < w
  · exact ⟨S, by rw [if_pos hx, if_pos rfl, b131_32, if_pos (Or.inr (Or.inr hx))], by omega, by omega⟩
  have ez : (nI 0).toNatClampNeg = 0 := nI_clamp (by decide)
  have P0 : mk_p S S := ⟨hw, ff_92_0 hG.2.1, ff_92_8 hG.2.1, rfl, rfl⟩
  have P1 := p_uM (c := 93) (j := 0) (x := k) (by decide) P0
  have P2 := p_uM (c := 94) (j := 0) (x := v) (by decide) P1
  have P3 := p_uM (c := 95) (j := 0) (x := w) (by decide) P2
  have P4 := p_uM (c := 96) (j := 0) (x := -5) (by decide) P3
  have P5 := p_uM (c := 97) (j := 0) (x := nI 0) (by decide) P4
  have P6 := p_uM (c := 98) (j := 0) (x := nI 0) (by decide) P5
  have i6 : mm_inb (nI 0) 6 = true := by decide
  rw [if_neg hx, if_neg i01, b131_35 (wf_o92 hw), P0.2.1, if_neg (by decide),
    b131_47 (wf_o92 hw) (wf_s92_1 hw) (by rw [wf_g92_1 hw]; exact wf_a93 hw) (by rw [P0.2.1, wf_g92_1 hw, wf_N93 hw]; exact i6) (wf_s92_2 hw), wf_g92_1 hw, wf_g92_2 hw, P0.2.1, ez,
    b131_62 (wf_o92 P1.1) (wf_a94 P1.1) (by rw [P1.2.1, wf_N94 P1.1]; exact i6) (wf_o92 P1.1) (wf_s92_3 P1.1), wf_g92_3 P1.1, P1.2.1, ez,
    b131_72 (wf_o92 P2.1) (wf_a95 P2.1) (by rw [P2.2.1, wf_N95 P2.1]; exact i6) (wf_o92 P2.1) (wf_s92_4 P2.1), wf_g92_4 P2.1, P2.2.1, ez,
    b131_82 (wf_o92 P3.1) (wf_a96 P3.1) (by rw [P3.2.1, wf_N96 P3.1]; exact i6) (wf_o92 P3.1) (wf_s92_5 P3.1), wf_g92_5 P3.1, P3.2.1, ez,
    b131_93 (wf_o92 P4.1) (wf_a97 P4.1) (by rw [P4.2.1, wf_N97 P4.1]; exact i6) (wf_o92 P4.1) (wf_s92_6 P4.1), wf_g92_6 P4.1, P4.2.1, ez,
    b131_103 (wf_o92 P5.1) (wf_a98 P5.1) (by rw [P5.2.1, wf_N98 P5.1]; exact i6), P5.2.1, ez]
  obtain ⟨T, h1, Q⟩ := l131 (S := S) (d := 29) (k := k) (v := v) (w := w) 3 0 _ rfl P6
  have Q1 := p_uM (c := 100) (j := 0) (x := nI 0) (by decide) Q
  have e2 : nI 0 + nI 1 = nI 1 := by rw [nI_add]
  have e3 : nI 1 - nI 1 = nI 0 := by decide
  have wA : mm_W (mm_uM (mm_uM T 100 0 (nI 0)) 92 8 (nI 1)) := Q1.1
  have wB : mm_W (mm_uM (mm_uM (mm_uM T 100 0 (nI 0)) 92 8 (nI 1)) 92 0 (nI 1)) := Q1.1
  have a0 : mm_M (mm_uM (mm_uM T 100 0 (nI 0)) 92 8 (nI 1)) 92 0 = nI 0 := by rw [hp_MuM, if_neg (by decide), Q1.2.1]
  have b0 : mm_M (mm_uM (mm_uM (mm_uM T 100 0 (nI 0)) 92 8 (nI 1)) 92 0 (nI 1)) 92 0 = nI 1 := by rw [hp_MuM, if_pos ⟨rfl, rfl⟩]
  rw [h1, b131_138 (wf_o92 Q.1) (wf_s92_9 Q.1) (by rw [wf_g92_9 Q.1]; exact wf_a100 Q.1) (by rw [Q.2.2.1, wf_g92_9 Q.1, wf_N100 Q.1]; exact i6), wf_g92_9 Q.1, Q.2.2.1, ez, Q.2.1, b131_153 (wf_o92 Q1.1) (wf_o92 Q1.1), Q1.2.2.1, e2, b131_163 (wf_o92 wA) (wf_o92 wA), a0, e2, b131_172 (wf_o92 wB), b0, e3]
  refine ⟨_, by rw [if_neg (fun e : v < nI 0 ∨ nI 9 < v ∨ w < nI 0 ∨ nI 99 < w => e.elim (fun e => hv (Or.inl e)) (fun e => e.elim (fun e => hv (Or.inr e)) hx))], ?_⟩
  have n1 := Q.2.2.2.1
  have n2 := Q.2.2.2.2
  rw [hp_nuM, hp_nuM, hp_nuM, hp_zuM, hp_zuM, hp_zuM]
  omega
end BY
