/-! ===== one call on a fresh object ===== -/
section LAW
variable {S : mm_S} {d : Nat}
theorem sc_a (h : mm_n S ≤ 600000) : mm_arr S mm_SC 13 = false := by
  rw [hn_a]
  have e : ¬ mm_SC < mm_n S := by show ¬ 3000000 < mm_n S; omega
  simp [e]
theorem sc_b (h : mm_n S ≤ 600000) : (decide (mm_SC < mm_n S) && decide (13 ≤ mm_K S mm_SC) && decide (mm_K S mm_SC < 19)) = false := by
  have e : ¬ mm_SC < mm_n S := by show ¬ 3000000 < mm_n S; omega
  simp [e]
theorem sc_i (h : mm_N S mm_SC = 6) {j : Nat} (hj : j ≤ 5) : mm_inb (nI 0 + nI j) (mm_N S mm_SC) = true := by
  rw [h, nI_add, Nat.zero_add]
  exact hp_inb (by omega) (by omega)
theorem sc_k {a : Nat} (h : mm_W S) : mm_rk S 0 = 11 ∧ mm_rk S 92 = 12 := ⟨wf_k0 h, wf_k92 h⟩
theorem lg_rf {x : Int64} : lg_cmp x x = nI 0 := by
  unfold lg_cmp
  simp
  try rfl
def mk_ok (S : mm_S) : Prop := mm_n S ≤ 600000 ∧ mm_z S ≤ 7302250 ∧ mm_N S mm_SC = 6
end LAW
theorem op_0 {S : mm_S} (hF : mm_Fr S) (hNS : mm_N S mm_SC = 6) : ∃ S2, mm_ex 30 225 188 [.ref mm_SC, .ref 0, .ref 92, .int (nI 0)] [] S = mm_ex 30 225 1186 [.ref mm_SC, .ref 0, .ref 92, .int (nI 0)] [] S2 ∧ mk_ok S2 := by
  have hwS := hF.2.2.2
  have hnS : mm_n S ≤ 600000 := by rw [hF.1]; decide
  obtain ⟨T, h1, g1⟩ := @pc_0 S hF ((mm_M S mm_SC ((nI 0) + (nI 1)).toNatClampNeg)) ((mm_M S mm_SC ((nI 0) + (nI 2)).toNatClampNeg)) ((mm_M S mm_SC ((nI 0) + (nI 3)).toNatClampNeg))
  have n1 := g1.2.2.2.2.2.2.1
  have q1 := (cl_fr h1).2 mm_SC (by show mm_n T ≤ 3000000; omega)
  have hwT := g1.1
  have hnT : mm_n T ≤ 600000 := by omega
  have hNT : mm_N T mm_SC = 6 := q1.2.1.trans hNS
  obtain ⟨U, h2, n2, z2⟩ := @pm_0 T g1 ((mm_M S mm_SC ((nI 0) + (nI 1)).toNatClampNeg)) ((mm_M S mm_SC ((nI 0) + (nI 2)).toNatClampNeg)) ((mm_M S mm_SC ((nI 0) + (nI 3)).toNatClampNeg))
  have q2 := (cl_fr h2).2 mm_SC (by show mm_n U ≤ 3000000; omega)
  refine ⟨U, ?_, n2, z2, q2.2.1.trans hNT⟩
  rw [b225_188 (sc_a hnS) (sc_i hNS (by decide)) (sc_i hNS (by decide)) (sc_i hNS (by decide)) (wf_k0 hwS), h1, hp_bd, hp_ts, b225_207 (sc_a hnT) (sc_i hNT (by decide)) (sc_i hNT (by decide)) (sc_i hNT (by decide)) (wf_k92 hwT), q1.1 (nI 0 + nI 1).toNatClampNeg, q1.1 (nI 0 + nI 2).toNatClampNeg, q1.1 (nI 0 + nI 3).toNatClampNeg, h2, hp_bd, hp_tsc, b225_226, if_pos rfl]
theorem op_1 {S : mm_S} (hF : mm_Fr S) (hNS : mm_N S mm_SC = 6) : ∃ S2, mm_ex 30 225 231 [.ref mm_SC, .ref 0, .ref 92, .int (nI 0)] [] S = mm_ex 30 225 1186 [.ref mm_SC, .ref 0, .ref 92, .int (nI 0)] [] S2 ∧ mk_ok S2 := by
  have hwS := hF.2.2.2
  have hnS : mm_n S ≤ 600000 := by rw [hF.1]; decide
  obtain ⟨T, h1, g1⟩ := @pc_1 S hF ((mm_M S mm_SC ((nI 0) + (nI 1)).toNatClampNeg)) ((mm_M S mm_SC ((nI 0) + (nI 2)).toNatClampNeg))
  have n1 := g1.2.2.2.2.2.2.1
  have q1 := (cl_fr h1).2 mm_SC (by show mm_n T ≤ 3000000; omega)
  have hwT := g1.1
  have hnT : mm_n T ≤ 600000 := by omega
  have hNT : mm_N T mm_SC = 6 := q1.2.1.trans hNS
  obtain ⟨U, h2, n2, z2⟩ := @pm_1 T g1 ((mm_M S mm_SC ((nI 0) + (nI 1)).toNatClampNeg)) ((mm_M S mm_SC ((nI 0) + (nI 2)).toNatClampNeg))
  have q2 := (cl_fr h2).2 mm_SC (by show mm_n U ≤ 3000000; omega)
  refine ⟨U, ?_, n2, z2, q2.2.1.trans hNT⟩
  rw [b225_231 (sc_a hnS) (sc_i hNS (by decide)) (sc_i hNS (by decide)) (wf_k0 hwS), h1, hp_bd, hp_ts, b225_245 (sc_a hnT) (sc_i hNT (by decide)) (sc_i hNT (by decide)) (wf_k92 hwT), q1.1 (nI 0 + nI 1).toNatClampNeg, q1.1 (nI 0 + nI 2).toNatClampNeg, h2, hp_bd, hp_tsc, b225_259, if_pos rfl]
theorem op_2 {S : mm_S} (hF : mm_Fr S) (hNS : mm_N S mm_SC = 6) : ∃ S2, mm_ex 30 225 264 [.ref mm_SC, .ref 0, .ref 92, .int (nI 0)] [] S = mm_ex 30 225 1186 [.ref mm_SC, .ref 0, .ref 92, .int (nI 0)] [] S2 ∧ mk_ok S2 := by
  have hwS := hF.2.2.2
  have hnS : mm_n S ≤ 600000 := by rw [hF.1]; decide
  obtain ⟨T, h1, g1⟩ := @pc_2 S hF ((mm_M S mm_SC ((nI 0) + (nI 1)).toNatClampNeg))
  have n1 := g1.2.2.2.2.2.2.1
  have q1 := (cl_fr h1).2 mm_SC (by show mm_n T ≤ 3000000; omega)
  have hwT := g1.1
  have hnT : mm_n T ≤ 600000 := by omega
  have hNT : mm_N T mm_SC = 6 := q1.2.1.trans hNS
  obtain ⟨U, h2, n2, z2⟩ := @pm_2 T g1 ((mm_M S mm_SC ((nI 0) + (nI 1)).toNatClampNeg))
  have q2 := (cl_fr h2).2 mm_SC (by show mm_n U ≤ 3000000; omega)
  refine ⟨U, ?_, n2, z2, q2.2.1.trans hNT⟩
  rw [b225_264 (sc_a hnS) (sc_i hNS (by decide)) (wf_k0 hwS), h1, hp_bd, hp_ts, b225_273 (sc_a hnT) (sc_i hNT (by decide)) (wf_k92 hwT), q1.1 (nI 0 + nI 1).toNatClampNeg, h2, hp_bd, hp_tsc, b225_282, if_pos rfl]
theorem op_3 {S : mm_S} (hF : mm_Fr S) (hNS : mm_N S mm_SC = 6) : ∃ S2, mm_ex 30 225 287 [.ref mm_SC, .ref 0, .ref 92, .int (nI 0)] [] S = mm_ex 30 225 1186 [.ref mm_SC, .ref 0, .ref 92, .int (nI 0)] [] S2 ∧ mk_ok S2 := by
  have hwS := hF.2.2.2
  have hnS : mm_n S ≤ 600000 := by rw [hF.1]; decide
  obtain ⟨T, h1, g1⟩ := @pc_3 S hF ((mm_M S mm_SC ((nI 0) + (nI 1)).toNatClampNeg)) ((mm_M S mm_SC ((nI 0) + (nI 2)).toNatClampNeg))
  have n1 := g1.2.2.2.2.2.2.1
  have q1 := (cl_fr h1).2 mm_SC (by show mm_n T ≤ 3000000; omega)
  have hwT := g1.1
  have hnT : mm_n T ≤ 600000 := by omega
  have hNT : mm_N T mm_SC = 6 := q1.2.1.trans hNS
  obtain ⟨U, h2, n2, z2⟩ := @pm_3 T g1 ((mm_M S mm_SC ((nI 0) + (nI 1)).toNatClampNeg)) ((mm_M S mm_SC ((nI 0) + (nI 2)).toNatClampNeg))
  have q2 := (cl_fr h2).2 mm_SC (by show mm_n U ≤ 3000000; omega)
  refine ⟨U, ?_, n2, z2, q2.2.1.trans hNT⟩
  rw [b225_287 (sc_a hnS) (sc_i hNS (by decide)) (sc_i hNS (by decide)) (wf_k0 hwS), h1, hp_bd, hp_ts, b225_301 (sc_a hnT) (sc_i hNT (by decide)) (sc_i hNT (by decide)) (wf_k92 hwT), q1.1 (nI 0 + nI 1).toNatClampNeg, q1.1 (nI 0 + nI 2).toNatClampNeg, h2, hp_bd, hp_tsc, b225_315, if_pos rfl]
theorem op_4 {S : mm_S} (hF : mm_Fr S) (hNS : mm_N S mm_SC = 6) : ∃ S2, mm_ex 30 225 320 [.ref mm_SC, .ref 0, .ref 92, .int (nI 0)] [] S = mm_ex 30 225 1186 [.ref mm_SC, .ref 0, .ref 92, .int (nI 0)] [] S2 ∧ mk_ok S2 := by
  have hwS := hF.2.2.2
  have hnS : mm_n S ≤ 600000 := by rw [hF.1]; decide
  obtain ⟨T, h1, g1⟩ := @pc_4 S hF ((mm_M S mm_SC ((nI 0) + (nI 1)).toNatClampNeg)) ((mm_M S mm_SC ((nI 0) + (nI 2)).toNatClampNeg)) ((mm_M S mm_SC ((nI 0) + (nI 3)).toNatClampNeg))
  have n1 := g1.2.2.2.2.2.2.1
  have q1 := (cl_fr h1).2 mm_SC (by show mm_n T ≤ 3000000; omega)
  have hwT := g1.1
  have hnT : mm_n T ≤ 600000 := by omega
  have hNT : mm_N T mm_SC = 6 := q1.2.1.trans hNS
  obtain ⟨U, h2, n2, z2⟩ := @pm_4 T g1 ((mm_M S mm_SC ((nI 0) + (nI 1)).toNatClampNeg)) ((mm_M S mm_SC ((nI 0) + (nI 2)).toNatClampNeg)) ((mm_M S mm_SC ((nI 0) + (nI 3)).toNatClampNeg))
  have q2 := (cl_fr h2).2 mm_SC (by show mm_n U ≤ 3000000; omega)
  refine ⟨U, ?_, n2, z2, q2.2.1.trans hNT⟩
  rw [b225_320 (sc_a hnS) (sc_i hNS (by decide)) (sc_i hNS (by decide)) (sc_i hNS (by decide)) (wf_k0 hwS), h1, hp_bd, hp_ts, b225_339 (sc_a hnT) (sc_i hNT (by decide)) (sc_i hNT (by decide)) (sc_i hNT (by decide)) (wf_k92 hwT), q1.1 (nI 0 + nI 1).toNatClampNeg, q1.1 (nI 0 + nI 2).toNatClampNeg, q1.1 (nI 0 + nI 3).toNatClampNeg, h2, hp_bd, hp_tsc, b225_358, if_pos rfl]
theorem op_5 {S : mm_S} (hF : mm_Fr S) (hNS : mm_N S mm_SC = 6) : ∃ S2, mm_ex 30 225 363 [.ref mm_SC, .ref 0, .ref 92, .int (nI 0)] [] S = mm_ex 30 225 1186 [.ref mm_SC, .ref 0, .ref 92, .int (nI 0)] [] S2 ∧ mk_ok S2 := by
  have hwS := hF.2.2.2
  have hnS : mm_n S ≤ 600000 := by rw [hF.1]; decide
  obtain ⟨T, h1, g1⟩ := @pc_5 S hF ((mm_M S mm_SC ((nI 0) + (nI 1)).toNatClampNeg))
  have n1 := g1.2.2.2.2.2.2.1
  have q1 := (cl_fr h1).2 mm_SC (by show mm_n T ≤ 3000000; omega)
  have hwT := g1.1
  have hnT : mm_n T ≤ 600000 := by omega
  have hNT : mm_N T mm_SC = 6 := q1.2.1.trans hNS
  obtain ⟨U, h2, n2, z2⟩ := @pm_5 T g1 ((mm_M S mm_SC ((nI 0) + (nI 1)).toNatClampNeg))
  have q2 := (cl_fr h2).2 mm_SC (by show mm_n U ≤ 3000000; omega)
  refine ⟨U, ?_, n2, z2, q2.2.1.trans hNT⟩
  rw [b225_363 (sc_a hnS) (sc_i hNS (by decide)) (wf_k0 hwS), h1, hp_bd, hp_ts, b225_372 (sc_a hnT) (sc_i hNT (by decide)) (wf_k92 hwT), q1.1 (nI 0 + nI 1).toNatClampNeg, h2, hp_bd, hp_tsc, b225_381, if_pos rfl]
theorem op_6 {S : mm_S} (hF : mm_Fr S) (hNS : mm_N S mm_SC = 6) : ∃ S2, mm_ex 30 225 386 [.ref mm_SC, .ref 0, .ref 92, .int (nI 0)] [] S = mm_ex 30 225 1186 [.ref mm_SC, .ref 0, .ref 92, .int (nI 0)] [] S2 ∧ mk_ok S2 := by
  have hwS := hF.2.2.2
  have hnS : mm_n S ≤ 600000 := by rw [hF.1]; decide
  obtain ⟨T, h1, g1⟩ := @pc_6 S hF ((mm_M S mm_SC ((nI 0) + (nI 1)).toNatClampNeg)) ((mm_M S mm_SC ((nI 0) + (nI 2)).toNatClampNeg))
  have n1 := g1.2.2.2.2.2.2.1
  have q1 := (cl_fr h1).2 mm_SC (by show mm_n T ≤ 3000000; omega)
  have hwT := g1.1
  have hnT : mm_n T ≤ 600000 := by omega
  have hNT : mm_N T mm_SC = 6 := q1.2.1.trans hNS
  obtain ⟨U, h2, n2, z2⟩ := @pm_6 T g1 ((mm_M S mm_SC ((nI 0) + (nI 1)).toNatClampNeg)) ((mm_M S mm_SC ((nI 0) + (nI 2)).toNatClampNeg))
  have q2 := (cl_fr h2).2 mm_SC (by show mm_n U ≤ 3000000; omega)
  refine ⟨U, ?_, n2, z2, q2.2.1.trans hNT⟩
  rw [b225_386 (sc_a hnS) (sc_i hNS (by decide)) (sc_i hNS (by decide)) (wf_k0 hwS), h1, hp_bd, hp_ts, b225_400 (sc_a hnT) (sc_i hNT (by decide)) (sc_i hNT (by decide)) (wf_k92 hwT), q1.1 (nI 0 + nI 1).toNatClampNeg, q1.1 (nI 0 + nI 2).toNatClampNeg, h2, hp_bd, hp_tsc, b225_414, if_pos rfl]
theorem op_7 {S : mm_S} (hF : mm_Fr S) (hNS : mm_N S mm_SC = 6) : ∃ S2, mm_ex 30 225 419 [.ref mm_SC, .ref 0, .ref 92, .int (nI 0)] [] S = mm_ex 30 225 1186 [.ref mm_SC, .ref 0, .ref 92, .int (nI 0)] [] S2 ∧ mk_ok S2 := by
  have hwS := hF.2.2.2
  have hnS : mm_n S ≤ 600000 := by rw [hF.1]; decide
  obtain ⟨T, h1, g1⟩ := @pc_7 S hF ((mm_M S mm_SC ((nI 0) + (nI 1)).toNatClampNeg))
  have n1 := g1.2.2.2.2.2.2.1
  have q1 := (cl_fr h1).2 mm_SC (by show mm_n T ≤ 3000000; omega)
  have hwT := g1.1
  have hnT : mm_n T ≤ 600000 := by omega
  have hNT : mm_N T mm_SC = 6 := q1.2.1.trans hNS
  obtain ⟨U, h2, n2, z2⟩ := @pm_7 T g1 ((mm_M S mm_SC ((nI 0) + (nI 1)).toNatClampNeg))
  have q2 := (cl_fr h2).2 mm_SC (by show mm_n U ≤ 3000000; omega)
  refine ⟨U, ?_, n2, z2, q2.2.1.trans hNT⟩
  rw [b225_419 (sc_a hnS) (sc_i hNS (by decide)) (wf_k0 hwS), h1, hp_bd, hp_ts, b225_428 (sc_a hnT) (sc_i hNT (by decide)) (wf_k92 hwT), q1.1 (nI 0 + nI 1).toNatClampNeg, h2, hp_bd, hp_tsc, b225_437, if_pos rfl]
theorem op_8 {S : mm_S} (hF : mm_Fr S) (hNS : mm_N S mm_SC = 6) : ∃ S2, mm_ex 30 225 442 [.ref mm_SC, .ref 0, .ref 92, .int (nI 0)] [] S = mm_ex 30 225 1186 [.ref mm_SC, .ref 0, .ref 92, .int (nI 0)] [] S2 ∧ mk_ok S2 := by
  have hwS := hF.2.2.2
  have hnS : mm_n S ≤ 600000 := by rw [hF.1]; decide
  obtain ⟨T, h1, g1⟩ := @pc_8 S hF 
  have n1 := g1.2.2.2.2.2.2.1
  have q1 := (cl_fr h1).2 mm_SC (by show mm_n T ≤ 3000000; omega)
  have hwT := g1.1
  have hnT : mm_n T ≤ 600000 := by omega
  have hNT : mm_N T mm_SC = 6 := q1.2.1.trans hNS
  obtain ⟨U, h2, n2, z2⟩ := @pm_8 T g1 
  have q2 := (cl_fr h2).2 mm_SC (by show mm_n U ≤ 3000000; omega)
  refine ⟨U, ?_, n2, z2, q2.2.1.trans hNT⟩
  rw [b225_442 (wf_k0 hwS), h1, hp_bd, hp_ts, b225_446 (wf_k92 hwT), h2, hp_bd, hp_tsc, b225_450, if_pos rfl]
theorem op_9 {S : mm_S} (hF : mm_Fr S) (hNS : mm_N S mm_SC = 6) : ∃ S2, mm_ex 30 225 455 [.ref mm_SC, .ref 0, .ref 92, .int (nI 0)] [] S = mm_ex 30 225 1186 [.ref mm_SC, .ref 0, .ref 92, .int (nI 0)] [] S2 ∧ mk_ok S2 := by
  have hwS := hF.2.2.2
  have hnS : mm_n S ≤ 600000 := by rw [hF.1]; decide
  obtain ⟨T, h1, g1⟩ := @pc_9 S hF ((mm_M S mm_SC ((nI 0) + (nI 1)).toNatClampNeg))
  have n1 := g1.2.2.2.2.2.2.1
  have q1 := (cl_fr h1).2 mm_SC (by show mm_n T ≤ 3000000; omega)
  have hwT := g1.1
  have hnT : mm_n T ≤ 600000 := by omega
  have hNT : mm_N T mm_SC = 6 := q1.2.1.trans hNS
  obtain ⟨U, h2, n2, z2⟩ := @pm_9 T g1 ((mm_M S mm_SC ((nI 0) + (nI 1)).toNatClampNeg))
  have q2 := (cl_fr h2).2 mm_SC (by show mm_n U ≤ 3000000; omega)
  refine ⟨U, ?_, n2, z2, q2.2.1.trans hNT⟩
  rw [b225_455 (sc_a hnS) (sc_i hNS (by decide)) (wf_k0 hwS), h1, hp_bd, hp_ts, b225_464 (sc_a hnT) (sc_i hNT (by decide)) (wf_k92 hwT), q1.1 (nI 0 + nI 1).toNatClampNeg, h2, hp_bd, hp_tsc, b225_473, if_pos rfl]
theorem op_10 {S : mm_S} (hF : mm_Fr S) (hNS : mm_N S mm_SC = 6) : ∃ S2, mm_ex 30 225 478 [.ref mm_SC, .ref 0, .ref 92, .int (nI 0)] [] S = mm_ex 30 225 1186 [.ref mm_SC, .ref 0, .ref 92, .int (nI 0)] [] S2 ∧ mk_ok S2 := by
  have hwS := hF.2.2.2
  have hnS : mm_n S ≤ 600000 := by rw [hF.1]; decide
  obtain ⟨T, h1, g1⟩ := @pc_10 S hF ((mm_M S mm_SC ((nI 0) + (nI 1)).toNatClampNeg))
  have n1 := g1.2.2.2.2.2.2.1
  have q1 := (cl_fr h1).2 mm_SC (by show mm_n T ≤ 3000000; omega)
  have hwT := g1.1
  have hnT : mm_n T ≤ 600000 := by omega
  have hNT : mm_N T mm_SC = 6 := q1.2.1.trans hNS
  obtain ⟨U, h2, n2, z2⟩ := @pm_10 T g1 ((mm_M S mm_SC ((nI 0) + (nI 1)).toNatClampNeg))
  have q2 := (cl_fr h2).2 mm_SC (by show mm_n U ≤ 3000000; omega)
  refine ⟨U, ?_, n2, z2, q2.2.1.trans hNT⟩
  rw [b225_478 (sc_a hnS) (sc_i hNS (by decide)) (wf_k0 hwS), h1, hp_bd, hp_ts, b225_487 (sc_a hnT) (sc_i hNT (by decide)) (wf_k92 hwT), q1.1 (nI 0 + nI 1).toNatClampNeg, h2, hp_bd, hp_tsc, b225_496, if_pos rfl]
theorem op_11 {S : mm_S} (hF : mm_Fr S) (hNS : mm_N S mm_SC = 6) : ∃ S2, mm_ex 30 225 501 [.ref mm_SC, .ref 0, .ref 92, .int (nI 0)] [] S = mm_ex 30 225 1186 [.ref mm_SC, .ref 0, .ref 92, .int (nI 0)] [] S2 ∧ mk_ok S2 := by
  have hwS := hF.2.2.2
  have hnS : mm_n S ≤ 600000 := by rw [hF.1]; decide
  obtain ⟨T, h1, g1⟩ := @pc_11 S hF 
  have n1 := g1.2.2.2.2.2.2.1
  have q1 := (cl_fr h1).2 mm_SC (by show mm_n T ≤ 3000000; omega)
  have hwT := g1.1
  have hnT : mm_n T ≤ 600000 := by omega
  have hNT : mm_N T mm_SC = 6 := q1.2.1.trans hNS
  obtain ⟨U, h2, n2, z2⟩ := @pm_11 T g1 
  have q2 := (cl_fr h2).2 mm_SC (by show mm_n U ≤ 3000000; omega)
  refine ⟨U, ?_, n2, z2, q2.2.1.trans hNT⟩
  rw [b225_501 (wf_k0 hwS), h1, hp_bd, hp_ts, b225_505 (wf_k92 hwT), h2, hp_bd, hp_tsc, b225_509, if_pos rfl]
theorem op_12 {S : mm_S} (hF : mm_Fr S) (hNS : mm_N S mm_SC = 6) : ∃ S2, mm_ex 30 225 514 [.ref mm_SC, .ref 0, .ref 92, .int (nI 0)] [] S = mm_ex 30 225 1186 [.ref mm_SC, .ref 0, .ref 92, .int (nI 0)] [] S2 ∧ mk_ok S2 := by
  have hwS := hF.2.2.2
  have hnS : mm_n S ≤ 600000 := by rw [hF.1]; decide
  obtain ⟨T, h1, g1⟩ := @pc_12 S hF ((mm_M S mm_SC ((nI 0) + (nI 1)).toNatClampNeg))
  have n1 := g1.2.2.2.2.2.2.1
  have q1 := (cl_fr h1).2 mm_SC (by show mm_n T ≤ 3000000; omega)
  have hwT := g1.1
  have hnT : mm_n T ≤ 600000 := by omega
  have hNT : mm_N T mm_SC = 6 := q1.2.1.trans hNS
  obtain ⟨U, h2, n2, z2⟩ := @pm_12 T g1 ((mm_M S mm_SC ((nI 0) + (nI 1)).toNatClampNeg))
  have q2 := (cl_fr h2).2 mm_SC (by show mm_n U ≤ 3000000; omega)
  refine ⟨U, ?_, n2, z2, q2.2.1.trans hNT⟩
  rw [b225_514 (sc_a hnS) (sc_i hNS (by decide)) (wf_k0 hwS), h1, hp_bd, hp_ts, b225_523 (sc_a hnT) (sc_i hNT (by decide)) (wf_k92 hwT), q1.1 (nI 0 + nI 1).toNatClampNeg, h2, hp_bd, hp_tsc, b225_532, if_pos rfl]
theorem op_13 {S : mm_S} (hF : mm_Fr S) (hNS : mm_N S mm_SC = 6) : ∃ S2, mm_ex 30 225 537 [.ref mm_SC, .ref 0, .ref 92, .int (nI 0)] [] S = mm_ex 30 225 1186 [.ref mm_SC, .ref 0, .ref 92, .int (nI 0)] [] S2 ∧ mk_ok S2 := by
  have hwS := hF.2.2.2
  have hnS : mm_n S ≤ 600000 := by rw [hF.1]; decide
  obtain ⟨T, h1, g1⟩ := @pc_13 S hF ((mm_M S mm_SC ((nI 0) + (nI 1)).toNatClampNeg))
  have n1 := g1.2.2.2.2.2.2.1
  have q1 := (cl_fr h1).2 mm_SC (by show mm_n T ≤ 3000000; omega)
  have hwT := g1.1
  have hnT : mm_n T ≤ 600000 := by omega
  have hNT : mm_N T mm_SC = 6 := q1.2.1.trans hNS
  obtain ⟨U, h2, n2, z2⟩ := @pm_13 T g1 ((mm_M S mm_SC ((nI 0) + (nI 1)).toNatClampNeg))
  have q2 := (cl_fr h2).2 mm_SC (by show mm_n U ≤ 3000000; omega)
  refine ⟨U, ?_, n2, z2, q2.2.1.trans hNT⟩
  rw [b225_537 (sc_a hnS) (sc_i hNS (by decide)) (wf_k0 hwS), h1, hp_bd, hp_ts, b225_546 (sc_a hnT) (sc_i hNT (by decide)) (wf_k92 hwT), q1.1 (nI 0 + nI 1).toNatClampNeg, h2, hp_bd, hp_tsc, b225_555, if_pos rfl]
theorem op_14 {S : mm_S} (hF : mm_Fr S) (hNS : mm_N S mm_SC = 6) : ∃ S2, mm_ex 30 225 560 [.ref mm_SC, .ref 0, .ref 92, .int (nI 0)] [] S = mm_ex 30 225 1186 [.ref mm_SC, .ref 0, .ref 92, .int (nI 0)] [] S2 ∧ mk_ok S2 := by
  have hwS := hF.2.2.2
  have hnS : mm_n S ≤ 600000 := by rw [hF.1]; decide
  obtain ⟨T, h1, g1⟩ := @pc_14 S hF ((mm_M S mm_SC ((nI 0) + (nI 1)).toNatClampNeg)) ((mm_M S mm_SC ((nI 0) + (nI 2)).toNatClampNeg))
  have n1 := g1.2.2.2.2.2.2.1
  have q1 := (cl_fr h1).2 mm_SC (by show mm_n T ≤ 3000000; omega)
  have hwT := g1.1
  have hnT : mm_n T ≤ 600000 := by omega
  have hNT : mm_N T mm_SC = 6 := q1.2.1.trans hNS
  obtain ⟨U, h2, n2, z2⟩ := @pm_14 T g1 ((mm_M S mm_SC ((nI 0) + (nI 1)).toNatClampNeg)) ((mm_M S mm_SC ((nI 0) + (nI 2)).toNatClampNeg))
  have q2 := (cl_fr h2).2 mm_SC (by show mm_n U ≤ 3000000; omega)
  refine ⟨U, ?_, n2, z2, q2.2.1.trans hNT⟩
  rw [b225_560 (sc_a hnS) (sc_i hNS (by decide)) (sc_i hNS (by decide)) (wf_k0 hwS), h1, hp_bd, hp_ts, b225_574 (sc_a hnT) (sc_i hNT (by decide)) (sc_i hNT (by decide)) (wf_k92 hwT), q1.1 (nI 0 + nI 1).toNatClampNeg, q1.1 (nI 0 + nI 2).toNatClampNeg, h2, hp_bd, hp_tsc, b225_588, if_pos rfl]
theorem op_15 {S : mm_S} (hF : mm_Fr S) (hNS : mm_N S mm_SC = 6) : ∃ S2, mm_ex 30 225 593 [.ref mm_SC, .ref 0, .ref 92, .int (nI 0)] [] S = mm_ex 30 225 1186 [.ref mm_SC, .ref 0, .ref 92, .int (nI 0)] [] S2 ∧ mk_ok S2 := by
  have hwS := hF.2.2.2
  have hnS : mm_n S ≤ 600000 := by rw [hF.1]; decide
  obtain ⟨T, h1, g1⟩ := @pc_15 S hF ((mm_M S mm_SC ((nI 0) + (nI 1)).toNatClampNeg))
  have n1 := g1.2.2.2.2.2.2.1
  have q1 := (cl_fr h1).2 mm_SC (by show mm_n T ≤ 3000000; omega)
  have hwT := g1.1
  have hnT : mm_n T ≤ 600000 := by omega
  have hNT : mm_N T mm_SC = 6 := q1.2.1.trans hNS
  obtain ⟨U, h2, n2, z2⟩ := @pm_15 T g1 ((mm_M S mm_SC ((nI 0) + (nI 1)).toNatClampNeg))
  have q2 := (cl_fr h2).2 mm_SC (by show mm_n U ≤ 3000000; omega)
  refine ⟨U, ?_, n2, z2, q2.2.1.trans hNT⟩
  rw [b225_593 (sc_a hnS) (sc_i hNS (by decide)) (wf_k0 hwS), h1, hp_bd, hp_ts, b225_602 (sc_a hnT) (sc_i hNT (by decide)) (wf_k92 hwT), q1.1 (nI 0 + nI 1).toNatClampNeg, h2, hp_bd, hp_tsc, b225_611, if_pos rfl]
theorem op_16 {S : mm_S} (hF : mm_Fr S) (hNS : mm_N S mm_SC = 6) : ∃ S2, mm_ex 30 225 616 [.ref mm_SC, .ref 0, .ref 92, .int (nI 0)] [] S = mm_ex 30 225 1186 [.ref mm_SC, .ref 0, .ref 92, .int (nI 0)] [] S2 ∧ mk_ok S2 := by
  have hwS := hF.2.2.2
  have hnS : mm_n S ≤ 600000 := by rw [hF.1]; decide
  obtain ⟨T, h1, g1⟩ := @pc_16 S hF ((mm_M S mm_SC ((nI 0) + (nI 1)).toNatClampNeg))
  have n1 := g1.2.2.2.2.2.2.1
  have q1 := (cl_fr h1).2 mm_SC (by show mm_n T ≤ 3000000; omega)
  have hwT := g1.1
  have hnT : mm_n T ≤ 600000 := by omega
  have hNT : mm_N T mm_SC = 6 := q1.2.1.trans hNS
  obtain ⟨U, h2, n2, z2⟩ := @pm_16 T g1 ((mm_M S mm_SC ((nI 0) + (nI 1)).toNatClampNeg))
  have q2 := (cl_fr h2).2 mm_SC (by show mm_n U ≤ 3000000; omega)
  refine ⟨U, ?_, n2, z2, q2.2.1.trans hNT⟩
  rw [b225_616 (sc_a hnS) (sc_i hNS (by decide)) (wf_k0 hwS), h1, hp_bd, hp_ts, b225_625 (sc_a hnT) (sc_i hNT (by decide)) (wf_k92 hwT), q1.1 (nI 0 + nI 1).toNatClampNeg, h2, hp_bd, hp_tsc, b225_634, if_pos lg_rf]
theorem op_17 {S : mm_S} (hF : mm_Fr S) (hNS : mm_N S mm_SC = 6) : ∃ S2, mm_ex 30 225 640 [.ref mm_SC, .ref 0, .ref 92, .int (nI 0)] [] S = mm_ex 30 225 1186 [.ref mm_SC, .ref 0, .ref 92, .int (nI 0)] [] S2 ∧ mk_ok S2 := by
  have hwS := hF.2.2.2
  have hnS : mm_n S ≤ 600000 := by rw [hF.1]; decide
  obtain ⟨T, h1, g1⟩ := @pc_17 S hF 
  have n1 := g1.2.2.2.2.2.2.1
  have q1 := (cl_fr h1).2 mm_SC (by show mm_n T ≤ 3000000; omega)
  have hwT := g1.1
  have hnT : mm_n T ≤ 600000 := by omega
  have hNT : mm_N T mm_SC = 6 := q1.2.1.trans hNS
  obtain ⟨U, h2, n2, z2⟩ := @pm_17 T g1 
  have q2 := (cl_fr h2).2 mm_SC (by show mm_n U ≤ 3000000; omega)
  refine ⟨U, ?_, n2, z2, q2.2.1.trans hNT⟩
  rw [b225_640 (wf_k0 hwS), h1, hp_bd, hp_ts, b225_644 (wf_k92 hwT), h2, hp_bd, hp_tsc, b225_648, if_pos rfl]
theorem op_18 {S : mm_S} (hF : mm_Fr S) (hNS : mm_N S mm_SC = 6) : ∃ S2, mm_ex 30 225 653 [.ref mm_SC, .ref 0, .ref 92, .int (nI 0)] [] S = mm_ex 30 225 1186 [.ref mm_SC, .ref 0, .ref 92, .int (nI 0)] [] S2 ∧ mk_ok S2 := by
  have hwS := hF.2.2.2
  have hnS : mm_n S ≤ 600000 := by rw [hF.1]; decide
  obtain ⟨T, h1, g1⟩ := @pc_18 S hF ((mm_M S mm_SC ((nI 0) + (nI 1)).toNatClampNeg))
  have n1 := g1.2.2.2.2.2.2.1
  have q1 := (cl_fr h1).2 mm_SC (by show mm_n T ≤ 3000000; omega)
  have hwT := g1.1
  have hnT : mm_n T ≤ 600000 := by omega
  have hNT : mm_N T mm_SC = 6 := q1.2.1.trans hNS
  obtain ⟨U, h2, n2, z2⟩ := @pm_18 T g1 ((mm_M S mm_SC ((nI 0) + (nI 1)).toNatClampNeg))
  have q2 := (cl_fr h2).2 mm_SC (by show mm_n U ≤ 3000000; omega)
  refine ⟨U, ?_, n2, z2, q2.2.1.trans hNT⟩
  rw [b225_653 (sc_a hnS) (sc_i hNS (by decide)) (wf_k0 hwS), h1, hp_bd, hp_ts, b225_662 (sc_a hnT) (sc_i hNT (by decide)) (wf_k92 hwT), q1.1 (nI 0 + nI 1).toNatClampNeg, h2, hp_bd, hp_tsc, b225_671, if_pos rfl]
theorem op_19 {S : mm_S} (hF : mm_Fr S) (hNS : mm_N S mm_SC = 6) : ∃ S2, mm_ex 30 225 676 [.ref mm_SC, .ref 0, .ref 92, .int (nI 0)] [] S = mm_ex 30 225 1186 [.ref mm_SC, .ref 0, .ref 92, .int (nI 0)] [] S2 ∧ mk_ok S2 := by
  have hwS := hF.2.2.2
  have hnS : mm_n S ≤ 600000 := by rw [hF.1]; decide
  obtain ⟨T, h1, g1⟩ := @pc_19 S hF ((mm_M S mm_SC ((nI 0) + (nI 1)).toNatClampNeg))
  have n1 := g1.2.2.2.2.2.2.1
  have q1 := (cl_fr h1).2 mm_SC (by show mm_n T ≤ 3000000; omega)
  have hwT := g1.1
  have hnT : mm_n T ≤ 600000 := by omega
  have hNT : mm_N T mm_SC = 6 := q1.2.1.trans hNS
  obtain ⟨U, h2, n2, z2⟩ := @pm_19 T g1 ((mm_M S mm_SC ((nI 0) + (nI 1)).toNatClampNeg))
  have q2 := (cl_fr h2).2 mm_SC (by show mm_n U ≤ 3000000; omega)
  refine ⟨U, ?_, n2, z2, q2.2.1.trans hNT⟩
  rw [b225_676 (sc_a hnS) (sc_i hNS (by decide)) (wf_k0 hwS), h1, hp_bd, hp_ts, b225_685 (sc_a hnT) (sc_i hNT (by decide)) (wf_k92 hwT), q1.1 (nI 0 + nI 1).toNatClampNeg, h2, hp_bd, hp_tsc, b225_694, if_pos rfl]
theorem op_20 {S : mm_S} (hF : mm_Fr S) (hNS : mm_N S mm_SC = 6) : ∃ S2, mm_ex 30 225 699 [.ref mm_SC, .ref 0, .ref 92, .int (nI 0)] [] S = mm_ex 30 225 1186 [.ref mm_SC, .ref 0, .ref 92, .int (nI 0)] [] S2 ∧ mk_ok S2 := by
  have hwS := hF.2.2.2
  have hnS : mm_n S ≤ 600000 := by rw [hF.1]; decide
  obtain ⟨T, h1, g1⟩ := @pc_20 S hF ((mm_M S mm_SC ((nI 0) + (nI 1)).toNatClampNeg))
  have n1 := g1.2.2.2.2.2.2.1
  have q1 := (cl_fr h1).2 mm_SC (by show mm_n T ≤ 3000000; omega)
  have hwT := g1.1
  have hnT : mm_n T ≤ 600000 := by omega
  have hNT : mm_N T mm_SC = 6 := q1.2.1.trans hNS
  obtain ⟨U, h2, n2, z2⟩ := @pm_20 T g1 ((mm_M S mm_SC ((nI 0) + (nI 1)).toNatClampNeg))
  have q2 := (cl_fr h2).2 mm_SC (by show mm_n U ≤ 3000000; omega)
  refine ⟨U, ?_, n2, z2, q2.2.1.trans hNT⟩
  rw [b225_699 (sc_a hnS) (sc_i hNS (by decide)) (wf_k0 hwS), h1, hp_bd, hp_ts, b225_708 (sc_a hnT) (sc_i hNT (by decide)) (wf_k92 hwT), q1.1 (nI 0 + nI 1).toNatClampNeg, h2, hp_bd, hp_tsc, b225_717, if_pos rfl]
theorem op_21 {S : mm_S} (hF : mm_Fr S) (hNS : mm_N S mm_SC = 6) : ∃ S2, mm_ex 30 225 722 [.ref mm_SC, .ref 0, .ref 92, .int (nI 0)] [] S = mm_ex 30 225 1186 [.ref mm_SC, .ref 0, .ref 92, .int (nI 0)] [] S2 ∧ mk_ok S2 := by
  have hwS := hF.2.2.2
  have hnS : mm_n S ≤ 600000 := by rw [hF.1]; decide
  obtain ⟨T, h1, g1⟩ := @pc_21 S hF ((mm_M S mm_SC ((nI 0) + (nI 1)).toNatClampNeg)) ((mm_M S mm_SC ((nI 0) + (nI 2)).toNatClampNeg))
  have n1 := g1.2.2.2.2.2.2.1
  have q1 := (cl_fr h1).2 mm_SC (by show mm_n T ≤ 3000000; omega)
  have hwT := g1.1
  have hnT : mm_n T ≤ 600000 := by omega
  have hNT : mm_N T mm_SC = 6 := q1.2.1.trans hNS
  obtain ⟨U, h2, n2, z2⟩ := @pm_21 T g1 ((mm_M S mm_SC ((nI 0) + (nI 1)).toNatClampNeg)) ((mm_M S mm_SC ((nI 0) + (nI 2)).toNatClampNeg))
  have q2 := (cl_fr h2).2 mm_SC (by show mm_n U ≤ 3000000; omega)
  refine ⟨U, ?_, n2, z2, q2.2.1.trans hNT⟩
  rw [b225_722 (sc_a hnS) (sc_i hNS (by decide)) (sc_i hNS (by decide)) (wf_k0 hwS), h1, hp_bd, hp_ts, b225_736 (sc_a hnT) (sc_i hNT (by decide)) (sc_i hNT (by decide)) (wf_k92 hwT), q1.1 (nI 0 + nI 1).toNatClampNeg, q1.1 (nI 0 + nI 2).toNatClampNeg, h2, hp_bd, hp_tsc, b225_750, if_pos lg_rf]
theorem op_22 {S : mm_S} (hF : mm_Fr S) (hNS : mm_N S mm_SC = 6) : ∃ S2, mm_ex 30 225 756 [.ref mm_SC, .ref 0, .ref 92, .int (nI 0)] [] S = mm_ex 30 225 1186 [.ref mm_SC, .ref 0, .ref 92, .int (nI 0)] [] S2 ∧ mk_ok S2 := by
  have hwS := hF.2.2.2
  have hnS : mm_n S ≤ 600000 := by rw [hF.1]; decide
  obtain ⟨T, h1, g1⟩ := @pc_22 S hF ((mm_M S mm_SC ((nI 0) + (nI 1)).toNatClampNeg))
  have n1 := g1.2.2.2.2.2.2.1
  have q1 := (cl_fr h1).2 mm_SC (by show mm_n T ≤ 3000000; omega)
  have hwT := g1.1
  have hnT : mm_n T ≤ 600000 := by omega
  have hNT : mm_N T mm_SC = 6 := q1.2.1.trans hNS
  obtain ⟨U, h2, n2, z2⟩ := @pm_22 T g1 ((mm_M S mm_SC ((nI 0) + (nI 1)).toNatClampNeg))
  have q2 := (cl_fr h2).2 mm_SC (by show mm_n U ≤ 3000000; omega)
  refine ⟨U, ?_, n2, z2, q2.2.1.trans hNT⟩
  rw [b225_756 (sc_a hnS) (sc_i hNS (by decide)) (wf_k0 hwS), h1, hp_bd, hp_ts, b225_765 (sc_a hnT) (sc_i hNT (by decide)) (wf_k92 hwT), q1.1 (nI 0 + nI 1).toNatClampNeg, h2, hp_bd, hp_tsc, b225_774, if_pos rfl]
theorem op_23 {S : mm_S} (hF : mm_Fr S) (hNS : mm_N S mm_SC = 6) : ∃ S2, mm_ex 30 225 779 [.ref mm_SC, .ref 0, .ref 92, .int (nI 0)] [] S = mm_ex 30 225 1186 [.ref mm_SC, .ref 0, .ref 92, .int (nI 0)] [] S2 ∧ mk_ok S2 := by
  have hwS := hF.2.2.2
  have hnS : mm_n S ≤ 600000 := by rw [hF.1]; decide
  obtain ⟨T, h1, g1⟩ := @pc_23 S hF 
  have n1 := g1.2.2.2.2.2.2.1
  have q1 := (cl_fr h1).2 mm_SC (by show mm_n T ≤ 3000000; omega)
  have hwT := g1.1
  have hnT : mm_n T ≤ 600000 := by omega
  have hNT : mm_N T mm_SC = 6 := q1.2.1.trans hNS
  obtain ⟨U, h2, n2, z2⟩ := @pm_23 T g1 
  have q2 := (cl_fr h2).2 mm_SC (by show mm_n U ≤ 3000000; omega)
  refine ⟨U, ?_, n2, z2, q2.2.1.trans hNT⟩
  rw [b225_779 (wf_k0 hwS), h1, hp_bd, hp_ts, b225_783 (wf_k92 hwT), h2, hp_bd, hp_tsc, b225_787, if_pos rfl]
theorem op_24 {S : mm_S} (hF : mm_Fr S) (hNS : mm_N S mm_SC = 6) : ∃ S2, mm_ex 30 225 792 [.ref mm_SC, .ref 0, .ref 92, .int (nI 0)] [] S = mm_ex 30 225 1186 [.ref mm_SC, .ref 0, .ref 92, .int (nI 0)] [] S2 ∧ mk_ok S2 := by
  have hwS := hF.2.2.2
  have hnS : mm_n S ≤ 600000 := by rw [hF.1]; decide
  obtain ⟨T, h1, g1⟩ := @pc_24 S hF ((mm_M S mm_SC ((nI 0) + (nI 1)).toNatClampNeg)) ((mm_M S mm_SC ((nI 0) + (nI 2)).toNatClampNeg))
  have n1 := g1.2.2.2.2.2.2.1
  have q1 := (cl_fr h1).2 mm_SC (by show mm_n T ≤ 3000000; omega)
  have hwT := g1.1
  have hnT : mm_n T ≤ 600000 := by omega
  have hNT : mm_N T mm_SC = 6 := q1.2.1.trans hNS
  obtain ⟨U, h2, n2, z2⟩ := @pm_24 T g1 ((mm_M S mm_SC ((nI 0) + (nI 1)).toNatClampNeg)) ((mm_M S mm_SC ((nI 0) + (nI 2)).toNatClampNeg))
  have q2 := (cl_fr h2).2 mm_SC (by show mm_n U ≤ 3000000; omega)
  refine ⟨U, ?_, n2, z2, q2.2.1.trans hNT⟩
  rw [b225_792 (sc_a hnS) (sc_i hNS (by decide)) (sc_i hNS (by decide)) (wf_k0 hwS), h1, hp_bd, hp_ts, b225_806 (sc_a hnT) (sc_i hNT (by decide)) (sc_i hNT (by decide)) (wf_k92 hwT), q1.1 (nI 0 + nI 1).toNatClampNeg, q1.1 (nI 0 + nI 2).toNatClampNeg, h2, hp_bd, hp_tsc, b225_820, if_pos rfl]
theorem op_25 {S : mm_S} (hF : mm_Fr S) (hNS : mm_N S mm_SC = 6) : ∃ S2, mm_ex 30 225 825 [.ref mm_SC, .ref 0, .ref 92, .int (nI 0)] [] S = mm_ex 30 225 1186 [.ref mm_SC, .ref 0, .ref 92, .int (nI 0)] [] S2 ∧ mk_ok S2 := by
  have hwS := hF.2.2.2
  have hnS : mm_n S ≤ 600000 := by rw [hF.1]; decide
  obtain ⟨T, h1, g1⟩ := @pc_25 S hF 
  have n1 := g1.2.2.2.2.2.2.1
  have q1 := (cl_fr h1).2 mm_SC (by show mm_n T ≤ 3000000; omega)
  have hwT := g1.1
  have hnT : mm_n T ≤ 600000 := by omega
  have hNT : mm_N T mm_SC = 6 := q1.2.1.trans hNS
  obtain ⟨U, h2, n2, z2⟩ := @pm_25 T g1 
  have q2 := (cl_fr h2).2 mm_SC (by show mm_n U ≤ 3000000; omega)
  refine ⟨U, ?_, n2, z2, q2.2.1.trans hNT⟩
  rw [b225_825 (wf_k0 hwS), h1, hp_bd, hp_ts, b225_829 (wf_k92 hwT), h2, hp_bd, hp_tsc, b225_833, if_pos rfl]
theorem op_26 {S : mm_S} (hF : mm_Fr S) (hNS : mm_N S mm_SC = 6) : ∃ S2, mm_ex 30 225 838 [.ref mm_SC, .ref 0, .ref 92, .int (nI 0)] [] S = mm_ex 30 225 1186 [.ref mm_SC, .ref 0, .ref 92, .int (nI 0)] [] S2 ∧ mk_ok S2 := by
  have hwS := hF.2.2.2
  have hnS : mm_n S ≤ 600000 := by rw [hF.1]; decide
  obtain ⟨T, h1, g1⟩ := @pc_26 S hF 
  have n1 := g1.2.2.2.2.2.2.1
  have q1 := (cl_fr h1).2 mm_SC (by show mm_n T ≤ 3000000; omega)
  have hwT := g1.1
  have hnT : mm_n T ≤ 600000 := by omega
  have hNT : mm_N T mm_SC = 6 := q1.2.1.trans hNS
  obtain ⟨U, h2, n2, z2⟩ := @pm_26 T g1 
  have q2 := (cl_fr h2).2 mm_SC (by show mm_n U ≤ 3000000; omega)
  refine ⟨U, ?_, n2, z2, q2.2.1.trans hNT⟩
  rw [b225_838 (wf_k0 hwS), h1, hp_bd, hp_ts, b225_842 (wf_k92 hwT), h2, hp_bd, hp_tsc, b225_846, if_pos rfl]
theorem op_27 {S : mm_S} (hF : mm_Fr S) (hNS : mm_N S mm_SC = 6) : ∃ S2, mm_ex 30 225 851 [.ref mm_SC, .ref 0, .ref 92, .int (nI 0)] [] S = mm_ex 30 225 1186 [.ref mm_SC, .ref 0, .ref 92, .int (nI 0)] [] S2 ∧ mk_ok S2 := by
  have hwS := hF.2.2.2
  have hnS : mm_n S ≤ 600000 := by rw [hF.1]; decide
  obtain ⟨T, h1, g1⟩ := @pc_27 S hF ((mm_M S mm_SC ((nI 0) + (nI 1)).toNatClampNeg)) ((mm_M S mm_SC ((nI 0) + (nI 2)).toNatClampNeg)) ((mm_M S mm_SC ((nI 0) + (nI 3)).toNatClampNeg))
  have n1 := g1.2.2.2.2.2.2.1
  have q1 := (cl_fr h1).2 mm_SC (by show mm_n T ≤ 3000000; omega)
  have hwT := g1.1
  have hnT : mm_n T ≤ 600000 := by omega
  have hNT : mm_N T mm_SC = 6 := q1.2.1.trans hNS
  obtain ⟨U, h2, n2, z2⟩ := @pm_27 T g1 ((mm_M S mm_SC ((nI 0) + (nI 1)).toNatClampNeg)) ((mm_M S mm_SC ((nI 0) + (nI 2)).toNatClampNeg)) ((mm_M S mm_SC ((nI 0) + (nI 3)).toNatClampNeg))
  have q2 := (cl_fr h2).2 mm_SC (by show mm_n U ≤ 3000000; omega)
  refine ⟨U, ?_, n2, z2, q2.2.1.trans hNT⟩
  rw [b225_851 (sc_a hnS) (sc_i hNS (by decide)) (sc_i hNS (by decide)) (sc_i hNS (by decide)) (wf_k0 hwS), h1, hp_bd, hp_ts, b225_870 (sc_a hnT) (sc_i hNT (by decide)) (sc_i hNT (by decide)) (sc_i hNT (by decide)) (wf_k92 hwT), q1.1 (nI 0 + nI 1).toNatClampNeg, q1.1 (nI 0 + nI 2).toNatClampNeg, q1.1 (nI 0 + nI 3).toNatClampNeg, h2, hp_bd, hp_tsc, b225_889, if_pos rfl]
theorem op_28 {S : mm_S} (hF : mm_Fr S) (hNS : mm_N S mm_SC = 6) : ∃ S2, mm_ex 30 225 894 [.ref mm_SC, .ref 0, .ref 92, .int (nI 0)] [] S = mm_ex 30 225 1186 [.ref mm_SC, .ref 0, .ref 92, .int (nI 0)] [] S2 ∧ mk_ok S2 := by
  have hwS := hF.2.2.2
  have hnS : mm_n S ≤ 600000 := by rw [hF.1]; decide
  obtain ⟨T, h1, g1⟩ := @pc_28 S hF ((mm_M S mm_SC ((nI 0) + (nI 1)).toNatClampNeg))
  have n1 := g1.2.2.2.2.2.2.1
  have q1 := (cl_fr h1).2 mm_SC (by show mm_n T ≤ 3000000; omega)
  have hwT := g1.1
  have hnT : mm_n T ≤ 600000 := by omega
  have hNT : mm_N T mm_SC = 6 := q1.2.1.trans hNS
  obtain ⟨U, h2, n2, z2⟩ := @pm_28 T g1 ((mm_M S mm_SC ((nI 0) + (nI 1)).toNatClampNeg))
  have q2 := (cl_fr h2).2 mm_SC (by show mm_n U ≤ 3000000; omega)
  refine ⟨U, ?_, n2, z2, q2.2.1.trans hNT⟩
  rw [b225_894 (sc_a hnS) (sc_i hNS (by decide)) (wf_k0 hwS), h1, hp_bd, hp_ts, b225_903 (sc_a hnT) (sc_i hNT (by decide)) (wf_k92 hwT), q1.1 (nI 0 + nI 1).toNatClampNeg, h2, hp_bd, hp_tsc, b225_912, if_pos rfl]
theorem op_29 {S : mm_S} (hF : mm_Fr S) (hNS : mm_N S mm_SC = 6) : ∃ S2, mm_ex 30 225 917 [.ref mm_SC, .ref 0, .ref 92, .int (nI 0)] [] S = mm_ex 30 225 1186 [.ref mm_SC, .ref 0, .ref 92, .int (nI 0)] [] S2 ∧ mk_ok S2 := by
  have hwS := hF.2.2.2
  have hnS : mm_n S ≤ 600000 := by rw [hF.1]; decide
  obtain ⟨T, h1, g1⟩ := @pc_29 S hF ((mm_M S mm_SC ((nI 0) + (nI 1)).toNatClampNeg)) ((mm_M S mm_SC ((nI 0) + (nI 2)).toNatClampNeg))
  have n1 := g1.2.2.2.2.2.2.1
  have q1 := (cl_fr h1).2 mm_SC (by show mm_n T ≤ 3000000; omega)
  have hwT := g1.1
  have hnT : mm_n T ≤ 600000 := by omega
  have hNT : mm_N T mm_SC = 6 := q1.2.1.trans hNS
  obtain ⟨U, h2, n2, z2⟩ := @pm_29 T g1 ((mm_M S mm_SC ((nI 0) + (nI 1)).toNatClampNeg)) ((mm_M S mm_SC ((nI 0) + (nI 2)).toNatClampNeg))
  have q2 := (cl_fr h2).2 mm_SC (by show mm_n U ≤ 3000000; omega)
  refine ⟨U, ?_, n2, z2, q2.2.1.trans hNT⟩
  rw [b225_917 (sc_a hnS) (sc_i hNS (by decide)) (sc_i hNS (by decide)) (wf_k0 hwS), h1, hp_bd, hp_ts, b225_931 (sc_a hnT) (sc_i hNT (by decide)) (sc_i hNT (by decide)) (wf_k92 hwT), q1.1 (nI 0 + nI 1).toNatClampNeg, q1.1 (nI 0 + nI 2).toNatClampNeg, h2, hp_bd, hp_tsc, b225_945, if_pos rfl]
theorem op_30 {S : mm_S} (hF : mm_Fr S) (hNS : mm_N S mm_SC = 6) : ∃ S2, mm_ex 30 225 950 [.ref mm_SC, .ref 0, .ref 92, .int (nI 0)] [] S = mm_ex 30 225 1186 [.ref mm_SC, .ref 0, .ref 92, .int (nI 0)] [] S2 ∧ mk_ok S2 := by
  have hwS := hF.2.2.2
  have hnS : mm_n S ≤ 600000 := by rw [hF.1]; decide
  obtain ⟨T, h1, g1⟩ := @pc_30 S hF ((mm_M S mm_SC ((nI 0) + (nI 1)).toNatClampNeg))
  have n1 := g1.2.2.2.2.2.2.1
  have q1 := (cl_fr h1).2 mm_SC (by show mm_n T ≤ 3000000; omega)
  have hwT := g1.1
  have hnT : mm_n T ≤ 600000 := by omega
  have hNT : mm_N T mm_SC = 6 := q1.2.1.trans hNS
  obtain ⟨U, h2, n2, z2⟩ := @pm_30 T g1 ((mm_M S mm_SC ((nI 0) + (nI 1)).toNatClampNeg))
  have q2 := (cl_fr h2).2 mm_SC (by show mm_n U ≤ 3000000; omega)
  refine ⟨U, ?_, n2, z2, q2.2.1.trans hNT⟩
  rw [b225_950 (sc_a hnS) (sc_i hNS (by decide)) (wf_k0 hwS), h1, hp_bd, hp_ts, b225_959 (sc_a hnT) (sc_i hNT (by decide)) (wf_k92 hwT), q1.1 (nI 0 + nI 1).toNatClampNeg, h2, hp_bd, hp_tsc, b225_968, if_pos rfl]
theorem op_31 {S : mm_S} (hF : mm_Fr S) (hNS : mm_N S mm_SC = 6) : ∃ S2, mm_ex 30 225 973 [.ref mm_SC, .ref 0, .ref 92, .int (nI 0)] [] S = mm_ex 30 225 1186 [.ref mm_SC, .ref 0, .ref 92, .int (nI 0)] [] S2 ∧ mk_ok S2 := by
  have hwS := hF.2.2.2
  have hnS : mm_n S ≤ 600000 := by rw [hF.1]; decide
  obtain ⟨T, h1, g1⟩ := @pc_31 S hF ((mm_M S mm_SC ((nI 0) + (nI 1)).toNatClampNeg)) ((mm_M S mm_SC ((nI 0) + (nI 2)).toNatClampNeg)) ((mm_M S mm_SC ((nI 0) + (nI 3)).toNatClampNeg))
  have n1 := g1.2.2.2.2.2.2.1
  have q1 := (cl_fr h1).2 mm_SC (by show mm_n T ≤ 3000000; omega)
  have hwT := g1.1
  have hnT : mm_n T ≤ 600000 := by omega
  have hNT : mm_N T mm_SC = 6 := q1.2.1.trans hNS
  obtain ⟨U, h2, n2, z2⟩ := @pm_31 T g1 ((mm_M S mm_SC ((nI 0) + (nI 1)).toNatClampNeg)) ((mm_M S mm_SC ((nI 0) + (nI 2)).toNatClampNeg)) ((mm_M S mm_SC ((nI 0) + (nI 3)).toNatClampNeg))
  have q2 := (cl_fr h2).2 mm_SC (by show mm_n U ≤ 3000000; omega)
  refine ⟨U, ?_, n2, z2, q2.2.1.trans hNT⟩
  rw [b225_973 (sc_a hnS) (sc_i hNS (by decide)) (sc_i hNS (by decide)) (sc_i hNS (by decide)) (wf_k0 hwS), h1, hp_bd, hp_ts, b225_992 (sc_a hnT) (sc_i hNT (by decide)) (sc_i hNT (by decide)) (sc_i hNT (by decide)) (wf_k92 hwT), q1.1 (nI 0 + nI 1).toNatClampNeg, q1.1 (nI 0 + nI 2).toNatClampNeg, q1.1 (nI 0 + nI 3).toNatClampNeg, h2, hp_bd, hp_tsc, b225_1011, if_pos rfl]
theorem op_32 {S : mm_S} (hF : mm_Fr S) (hNS : mm_N S mm_SC = 6) : ∃ S2, mm_ex 30 225 1016 [.ref mm_SC, .ref 0, .ref 92, .int (nI 0)] [] S = mm_ex 30 225 1186 [.ref mm_SC, .ref 0, .ref 92, .int (nI 0)] [] S2 ∧ mk_ok S2 := by
  have hwS := hF.2.2.2
  have hnS : mm_n S ≤ 600000 := by rw [hF.1]; decide
  obtain ⟨T, h1, g1⟩ := @pc_32 S hF ((mm_M S mm_SC ((nI 0) + (nI 1)).toNatClampNeg)) ((mm_M S mm_SC ((nI 0) + (nI 2)).toNatClampNeg)) (((((mm_M S mm_SC ((nI 0) + (nI 3)).toNatClampNeg).toInt64) <<< ((nI 32).toInt64 &&& 63)) ||| (((mm_M S mm_SC ((nI 0) + (nI 4)).toNatClampNeg).toInt64) &&& 4294967295)))
  have n1 := g1.2.2.2.2.2.2.1
  have q1 := (cl_fr h1).2 mm_SC (by show mm_n T ≤ 3000000; omega)
  have hwT := g1.1
  have hnT : mm_n T ≤ 600000 := by omega
  have hNT : mm_N T mm_SC = 6 := q1.2.1.trans hNS
  obtain ⟨U, h2, n2, z2⟩ := @pm_32 T g1 ((mm_M S mm_SC ((nI 0) + (nI 1)).toNatClampNeg)) ((mm_M S mm_SC ((nI 0) + (nI 2)).toNatClampNeg)) (((((mm_M S mm_SC ((nI 0) + (nI 3)).toNatClampNeg).toInt64) <<< ((nI 32).toInt64 &&& 63)) ||| (((mm_M S mm_SC ((nI 0) + (nI 4)).toNatClampNeg).toInt64) &&& 4294967295)))
  have q2 := (cl_fr h2).2 mm_SC (by show mm_n U ≤ 3000000; omega)
  refine ⟨U, ?_, n2, z2, q2.2.1.trans hNT⟩
  rw [b225_1016 (sc_a hnS) (sc_i hNS (by decide)) (sc_i hNS (by decide)) (sc_i hNS (by decide)) (sc_i hNS (by decide)) (wf_k0 hwS), h1, hp_bd, hp_ts, b225_1050 (sc_a hnT) (sc_i hNT (by decide)) (sc_i hNT (by decide)) (sc_i hNT (by decide)) (sc_i hNT (by decide)) (wf_k92 hwT), q1.1 (nI 0 + nI 1).toNatClampNeg, q1.1 (nI 0 + nI 2).toNatClampNeg, q1.1 (nI 0 + nI 3).toNatClampNeg, q1.1 (nI 0 + nI 4).toNatClampNeg, h2, hp_bd, hp_tsc, b225_1084, if_pos rfl]
theorem op_33 {S : mm_S} (hF : mm_Fr S) (hNS : mm_N S mm_SC = 6) : ∃ S2, mm_ex 30 225 1089 [.ref mm_SC, .ref 0, .ref 92, .int (nI 0)] [] S = mm_ex 30 225 1186 [.ref mm_SC, .ref 0, .ref 92, .int (nI 0)] [] S2 ∧ mk_ok S2 := by
  have hwS := hF.2.2.2
  have hnS : mm_n S ≤ 600000 := by rw [hF.1]; decide
  obtain ⟨T, h1, g1⟩ := @pc_33 S hF ((mm_M S mm_SC ((nI 0) + (nI 1)).toNatClampNeg)) ((mm_M S mm_SC ((nI 0) + (nI 2)).toNatClampNeg))
  have n1 := g1.2.2.2.2.2.2.1
  have q1 := (cl_fr h1).2 mm_SC (by show mm_n T ≤ 3000000; omega)
  have hwT := g1.1
  have hnT : mm_n T ≤ 600000 := by omega
  have hNT : mm_N T mm_SC = 6 := q1.2.1.trans hNS
  obtain ⟨U, h2, n2, z2⟩ := @pm_33 T g1 ((mm_M S mm_SC ((nI 0) + (nI 1)).toNatClampNeg)) ((mm_M S mm_SC ((nI 0) + (nI 2)).toNatClampNeg))
  have q2 := (cl_fr h2).2 mm_SC (by show mm_n U ≤ 3000000; omega)
  refine ⟨U, ?_, n2, z2, q2.2.1.trans hNT⟩
  rw [b225_1089 (sc_a hnS) (sc_i hNS (by decide)) (sc_i hNS (by decide)) (wf_k0 hwS), h1, hp_bd, hp_ts, b225_1103 (sc_a hnT) (sc_i hNT (by decide)) (sc_i hNT (by decide)) (wf_k92 hwT), q1.1 (nI 0 + nI 1).toNatClampNeg, q1.1 (nI 0 + nI 2).toNatClampNeg, h2, hp_bd, hp_tsc, b225_1117, if_pos lg_rf]
theorem op_34 {S : mm_S} (hF : mm_Fr S) (hNS : mm_N S mm_SC = 6) : ∃ S2, mm_ex 30 225 1123 [.ref mm_SC, .ref 0, .ref 92, .int (nI 0)] [] S = mm_ex 30 225 1186 [.ref mm_SC, .ref 0, .ref 92, .int (nI 0)] [] S2 ∧ mk_ok S2 := by
  have hwS := hF.2.2.2
  have hnS : mm_n S ≤ 600000 := by rw [hF.1]; decide
  obtain ⟨T, h1, g1⟩ := @pc_34 S hF ((mm_M S mm_SC ((nI 0) + (nI 1)).toNatClampNeg)) ((mm_M S mm_SC ((nI 0) + (nI 2)).toNatClampNeg)) ((mm_M S mm_SC ((nI 0) + (nI 3)).toNatClampNeg)) ((mm_M S mm_SC ((nI 0) + (nI 4)).toNatClampNeg)) ((mm_M S mm_SC ((nI 0) + (nI 5)).toNatClampNeg))
  have n1 := g1.2.2.2.2.2.2.1
  have q1 := (cl_fr h1).2 mm_SC (by show mm_n T ≤ 3000000; omega)
  have hwT := g1.1
  have hnT : mm_n T ≤ 600000 := by omega
  have hNT : mm_N T mm_SC = 6 := q1.2.1.trans hNS
  obtain ⟨U, h2, n2, z2⟩ := @pm_34 T g1 ((mm_M S mm_SC ((nI 0) + (nI 1)).toNatClampNeg)) ((mm_M S mm_SC ((nI 0) + (nI 2)).toNatClampNeg)) ((mm_M S mm_SC ((nI 0) + (nI 3)).toNatClampNeg)) ((mm_M S mm_SC ((nI 0) + (nI 4)).toNatClampNeg)) ((mm_M S mm_SC ((nI 0) + (nI 5)).toNatClampNeg))
  have q2 := (cl_fr h2).2 mm_SC (by show mm_n U ≤ 3000000; omega)
  refine ⟨U, ?_, n2, z2, q2.2.1.trans hNT⟩
  rw [b225_1123 (sc_a hnS) (sc_i hNS (by decide)) (sc_i hNS (by decide)) (sc_i hNS (by decide)) (sc_i hNS (by decide)) (sc_i hNS (by decide)) (wf_k0 hwS), h1, hp_bd, hp_ts, b225_1152 (sc_a hnT) (sc_i hNT (by decide)) (sc_i hNT (by decide)) (sc_i hNT (by decide)) (sc_i hNT (by decide)) (sc_i hNT (by decide)) (wf_k92 hwT), q1.1 (nI 0 + nI 1).toNatClampNeg, q1.1 (nI 0 + nI 2).toNatClampNeg, q1.1 (nI 0 + nI 3).toNatClampNeg, q1.1 (nI 0 + nI 4).toNatClampNeg, q1.1 (nI 0 + nI 5).toNatClampNeg, h2, hp_bd, hp_tsc, b225_1181, if_pos rfl]
theorem mm_law (xs : Nat → Int32) (L : Nat) (hL : L ≤ 6) : ∃ S', mm_ex 30 mm_nc 0 [.ref mm_SC, .null, .null, .null] [] (mm_S0 L xs) = some (some (.int 1), S') ∧ mm_n S' ≤ 600000 ∧ mm_z S' ≤ 7302250 := by
  obtain ⟨S, h0, n0, z0, t0, w0, N0, M0⟩ := law_start xs L
  have hn : mm_n S ≤ 600000 := by rw [n0]; decide
  have hF : mm_Fr S := ⟨n0, z0, t0, w0⟩
  rw [h0, b225_18 (sc_b hn), N0]
  by_cases hL6 : L = 6
  · subst hL6
    rw [if_neg (by decide)]
    have e0 : (nI 0).toNatClampNeg = 0 := nI_clamp (by decide)
    have i0 : mm_inb (nI 0) (mm_N S mm_SC) = true := by rw [N0]; decide
    have fin : ∀ T : mm_S, mk_ok T → ∃ S', mm_ex 30 225 1186 [.ref mm_SC, .ref 0, .ref 92, .int (nI 0)] [] T = some (some (.int 1), S') ∧ mm_n S' ≤ 600000 ∧ mm_z S' ≤ 7302250 := by
      intro T hT
      refine ⟨T, ?_, hT.1, hT.2.1⟩
      rw [b225_1186, nI_add, b225_18 (sc_b hT.1), hT.2.2, if_pos (by decide), b225_1192]
      rfl
    rw [b225_27 (sc_a hn) i0, b225_33]
    by_cases c0 : (mm_M S mm_SC (nI 0).toNatClampNeg) &&& (nI 63) = nI 0
    · rw [if_pos c0]; obtain ⟨T, h, g⟩ := op_0 hF N0; rw [h]; exact fin T g
    rw [if_neg c0]
    by_cases c1 : (mm_M S mm_SC (nI 0).toNatClampNeg) &&& (nI 63) = nI 1
    · rw [if_pos c1]; obtain ⟨T, h, g⟩ := op_1 hF N0; rw [h]; exact fin T g
    rw [if_neg c1]
    by_cases c2 : (mm_M S mm_SC (nI 0).toNatClampNeg) &&& (nI 63) = nI 2
    · rw [if_pos c2]; obtain ⟨T, h, g⟩ := op_2 hF N0; rw [h]; exact fin T g
    rw [if_neg c2]
    by_cases c3 : (mm_M S mm_SC (nI 0).toNatClampNeg) &&& (nI 63) = nI 3
    · rw [if_pos c3]; obtain ⟨T, h, g⟩ := op_3 hF N0; rw [h]; exact fin T g
    rw [if_neg c3]
    by_cases c4 : (mm_M S mm_SC (nI 0).toNatClampNeg) &&& (nI 63) = nI 4
    · rw [if_pos c4]; obtain ⟨T, h, g⟩ := op_4 hF N0; rw [h]; exact fin T g
    rw [if_neg c4]
    by_cases c5 : (mm_M S mm_SC (nI 0).toNatClampNeg) &&& (nI 63) = nI 5
    · rw [if_pos c5]; obtain ⟨T, h, g⟩ := op_5 hF N0; rw [h]; exact fin T g
    rw [if_neg c5]
    by_cases c6 : (mm_M S mm_SC (nI 0).toNatClampNeg) &&& (nI 63) = nI 6
    · rw [if_pos c6]; obtain ⟨T, h, g⟩ := op_6 hF N0; rw [h]; exact fin T g
    rw [if_neg c6]
    by_cases c7 : (mm_M S mm_SC (nI 0).toNatClampNeg) &&& (nI 63) = nI 7
    · rw [if_pos c7]; obtain ⟨T, h, g⟩ := op_7 hF N0; rw [h]; exact fin T g
    rw [if_neg c7]
    by_cases c8 : (mm_M S mm_SC (nI 0).toNatClampNeg) &&& (nI 63) = nI 8
    · rw [if_pos c8]; obtain ⟨T, h, g⟩ := op_8 hF N0; rw [h]; exact fin T g
    rw [if_neg c8]
    by_cases c9 : (mm_M S mm_SC (nI 0).toNatClampNeg) &&& (nI 63) = nI 9
    · rw [if_pos c9]; obtain ⟨T, h, g⟩ := op_9 hF N0; rw [h]; exact fin T g
    rw [if_neg c9]
    by_cases c10 : (mm_M S mm_SC (nI 0).toNatClampNeg) &&& (nI 63) = nI 10
    · rw [if_pos c10]; obtain ⟨T, h, g⟩ := op_10 hF N0; rw [h]; exact fin T g
    rw [if_neg c10]
    by_cases c11 : (mm_M S mm_SC (nI 0).toNatClampNeg) &&& (nI 63) = nI 11
    · rw [if_pos c11]; obtain ⟨T, h, g⟩ := op_11 hF N0; rw [h]; exact fin T g
    rw [if_neg c11]
    by_cases c12 : (mm_M S mm_SC (nI 0).toNatClampNeg) &&& (nI 63) = nI 12
    · rw [if_pos c12]; obtain ⟨T, h, g⟩ := op_12 hF N0; rw [h]; exact fin T g
    rw [if_neg c12]
    by_cases c13 : (mm_M S mm_SC (nI 0).toNatClampNeg) &&& (nI 63) = nI 13
    · rw [if_pos c13]; obtain ⟨T, h, g⟩ := op_13 hF N0; rw [h]; exact fin T g
    rw [if_neg c13]
    by_cases c14 : (mm_M S mm_SC (nI 0).toNatClampNeg) &&& (nI 63) = nI 14
    · rw [if_pos c14]; obtain ⟨T, h, g⟩ := op_14 hF N0; rw [h]; exact fin T g
    rw [if_neg c14]
    by_cases c15 : (mm_M S mm_SC (nI 0).toNatClampNeg) &&& (nI 63) = nI 15
    · rw [if_pos c15]; obtain ⟨T, h, g⟩ := op_15 hF N0; rw [h]; exact fin T g
    rw [if_neg c15]
    by_cases c16 : (mm_M S mm_SC (nI 0).toNatClampNeg) &&& (nI 63) = nI 16
    · rw [if_pos c16]; obtain ⟨T, h, g⟩ := op_16 hF N0; rw [h]; exact fin T g
    rw [if_neg c16]
    by_cases c17 : (mm_M S mm_SC (nI 0).toNatClampNeg) &&& (nI 63) = nI 17
    · rw [if_pos c17]; obtain ⟨T, h, g⟩ := op_17 hF N0; rw [h]; exact fin T g
    rw [if_neg c17]
    by_cases c18 : (mm_M S mm_SC (nI 0).toNatClampNeg) &&& (nI 63) = nI 18
    · rw [if_pos c18]; obtain ⟨T, h, g⟩ := op_18 hF N0; rw [h]; exact fin T g
    rw [if_neg c18]
    by_cases c19 : (mm_M S mm_SC (nI 0).toNatClampNeg) &&& (nI 63) = nI 19
    · rw [if_pos c19]; obtain ⟨T, h, g⟩ := op_19 hF N0; rw [h]; exact fin T g
    rw [if_neg c19]
    by_cases c20 : (mm_M S mm_SC (nI 0).toNatClampNeg) &&& (nI 63) = nI 20
    · rw [if_pos c20]; obtain ⟨T, h, g⟩ := op_20 hF N0; rw [h]; exact fin T g
    rw [if_neg c20]
    by_cases c21 : (mm_M S mm_SC (nI 0).toNatClampNeg) &&& (nI 63) = nI 21
    · rw [if_pos c21]; obtain ⟨T, h, g⟩ := op_21 hF N0; rw [h]; exact fin T g
    rw [if_neg c21]
    by_cases c22 : (mm_M S mm_SC (nI 0).toNatClampNeg) &&& (nI 63) = nI 22
    · rw [if_pos c22]; obtain ⟨T, h, g⟩ := op_22 hF N0; rw [h]; exact fin T g
    rw [if_neg c22]
    by_cases c23 : (mm_M S mm_SC (nI 0).toNatClampNeg) &&& (nI 63) = nI 23
    · rw [if_pos c23]; obtain ⟨T, h, g⟩ := op_23 hF N0; rw [h]; exact fin T g
    rw [if_neg c23]
    by_cases c24 : (mm_M S mm_SC (nI 0).toNatClampNeg) &&& (nI 63) = nI 24
    · rw [if_pos c24]; obtain ⟨T, h, g⟩ := op_24 hF N0; rw [h]; exact fin T g
    rw [if_neg c24]
    by_cases c25 : (mm_M S mm_SC (nI 0).toNatClampNeg) &&& (nI 63) = nI 25
    · rw [if_pos c25]; obtain ⟨T, h, g⟩ := op_25 hF N0; rw [h]; exact fin T g
    rw [if_neg c25]
    by_cases c26 : (mm_M S mm_SC (nI 0).toNatClampNeg) &&& (nI 63) = nI 26
    · rw [if_pos c26]; obtain ⟨T, h, g⟩ := op_26 hF N0; rw [h]; exact fin T g
    rw [if_neg c26]
    by_cases c27 : (mm_M S mm_SC (nI 0).toNatClampNeg) &&& (nI 63) = nI 27
    · rw [if_pos c27]; obtain ⟨T, h, g⟩ := op_27 hF N0; rw [h]; exact fin T g
    rw [if_neg c27]
    by_cases c28 : (mm_M S mm_SC (nI 0).toNatClampNeg) &&& (nI 63) = nI 28
    · rw [if_pos c28]; obtain ⟨T, h, g⟩ := op_28 hF N0; rw [h]; exact fin T g
    rw [if_neg c28]
    by_cases c29 : (mm_M S mm_SC (nI 0).toNatClampNeg) &&& (nI 63) = nI 29
    · rw [if_pos c29]; obtain ⟨T, h, g⟩ := op_29 hF N0; rw [h]; exact fin T g
    rw [if_neg c29]
    by_cases c30 : (mm_M S mm_SC (nI 0).toNatClampNeg) &&& (nI 63) = nI 30
    · rw [if_pos c30]; obtain ⟨T, h, g⟩ := op_30 hF N0; rw [h]; exact fin T g
    rw [if_neg c30]
    by_cases c31 : (mm_M S mm_SC (nI 0).toNatClampNeg) &&& (nI 63) = nI 31
    · rw [if_pos c31]; obtain ⟨T, h, g⟩ := op_31 hF N0; rw [h]; exact fin T g
    rw [if_neg c31]
    by_cases c32 : (mm_M S mm_SC (nI 0).toNatClampNeg) &&& (nI 63) = nI 32
    · rw [if_pos c32]; obtain ⟨T, h, g⟩ := op_32 hF N0; rw [h]; exact fin T g
    rw [if_neg c32]
    by_cases c33 : (mm_M S mm_SC (nI 0).toNatClampNeg) &&& (nI 63) = nI 33
    · rw [if_pos c33]; obtain ⟨T, h, g⟩ := op_33 hF N0; rw [h]; exact fin T g
    rw [if_neg c33]
    by_cases c34 : (mm_M S mm_SC (nI 0).toNatClampNeg) &&& (nI 63) = nI 34
    · rw [if_pos c34]; obtain ⟨T, h, g⟩ := op_34 hF N0; rw [h]; exact fin T g
    rw [if_neg c34]
    exact fin S ⟨hn, by rw [z0]; decide, N0⟩
  · have e : nI L - nI 6 < nI 0 := by
      have : L = 0 ∨ L = 1 ∨ L = 2 ∨ L = 3 ∨ L = 4 ∨ L = 5 := by omega
      rcases this with rfl | rfl | rfl | rfl | rfl | rfl <;> decide
    rw [if_pos e, b225_1192]
    exact ⟨S, rfl, hn, by rw [z0]; decide⟩
