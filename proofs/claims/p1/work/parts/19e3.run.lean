/-! ===== days with nobody in the row ===== -/
section R0
variable {S : mm_S} {a d : Nat}
theorem s23_0 (hw : mm_W S) (ha : mm_dy a) (h : mm_M S a 11 = nI 0) : mm_cl (d + 1) 23 [.ref a] S = some (none, S) := by
  have e : (nI 0 ≤ nI 0 ∨ mm_M S a 13 ≤ nI 0) = True := eq_true (Or.inl (by decide))
  have e2 : (nI 1000 ≤ nI 0) = False := by decide
  simp only [b23_0, b23_2, b23_9, b23_13, b23_27, e23, wd_k hw ha, s20 hw ha, h, e, e2, hp_bd, hp_ts, if_true, if_false]
theorem s173_0 (hw : mm_W S) (h : mm_M S 92 8 = nI 0) : mm_cl (d + 1) 173 [.ref 92] S = some (none, S) := by
  have e : (nI 0 ≤ nI 0 ∨ mm_M S 92 11 ≤ nI 0) = True := eq_true (Or.inl (by decide))
  simp only [b173_0, b173_4, b173_24, e173, wf_k92 hw, s168 hw, h, e, hp_bd, hp_ts, if_true]
theorem cF (ha : mm_dy a) {j : Nat} (h1 : 9 ≤ j) (h2 : j ≤ 17) : mm_M (mm_cD S a 6) a j = mm_M S 6 j := by rw [hc_M, if_pos ⟨rfl, h1, h2⟩]
theorem s7F (hF : mm_Fr S) (ha : mm_dy a) (h : a ≠ 6) : mm_cl (d + 1) 7 [.ref a, .ref 6] S = some (none, mm_cD S a 6) := s7 hF.2.2.2 ha dy6 h (bq_F hF)
theorem s23F (hF : mm_Fr S) (ha : mm_dy a) : mm_cl (d + 1) 23 [.ref a] (mm_cD S a 6) = some (none, mm_cD S a 6) :=
  s23_0 (w_cD ha hF.2.2.2) ha (by rw [cF ha (by decide) (by decide), ff_6_11 (hF.2.2.1 6 (by decide))])
theorem s113F (hF : mm_Fr S) : mm_cl (d + 2) 113 [.ref 0] S = some (none, mm_cD S 24 6) := by
  have hw := hF.2.2.2
  have hw' := w_cD (b := 6) dy24 hw
  rw [e113, b113_0 (wf_o0 hw) (wf_s0_2 hw) (wf_s0_0 hw) (by rw [wf_g0_2 hw]; exact wd_k hw dy24), wf_g0_2 hw, wf_g0_0 hw, s7F hF dy24 (by decide), hp_bd, hp_tnc,
    b113_11 (wf_o0 hw') (wf_s0_2 hw') (by rw [wf_g0_2 hw']; exact wd_k hw' dy24), wf_g0_2 hw', s23F hF dy24, hp_bd, hp_tnc, b113_18]
theorem s20F {T : mm_S} (hw : mm_W T) (ha : mm_dy a) (h : mm_M T a 11 = nI 0) : mm_cl d 20 [.ref a] T = some (some (.int (nI 0)), T) := by
  rw [s20 hw ha, if_pos (Or.inl (by rw [h]; decide))]
theorem s114F (hF : mm_Fr S) : mm_cl (d + 2) 114 [.ref 0] S = some (some (.int (nI 0)), mm_cD S 24 6) := by
  have hw := hF.2.2.2
  have hw' := w_cD (b := 6) dy24 hw
  have h11 : mm_M (mm_cD S 24 6) 24 11 = nI 0 := by rw [cF dy24 (by decide) (by decide), ff_6_11 (hF.2.2.1 6 (by decide))]
  rw [e114, b114_0 (wf_o0 hw) (wf_s0_2 hw) (wf_s0_0 hw) (by rw [wf_g0_2 hw]; exact wd_k hw dy24), wf_g0_2 hw, wf_g0_0 hw, s7F hF dy24 (by decide), hp_bd, hp_tnc, b114_11, b114_15, if_neg (by decide),
    b114_22 (wf_o0 hw') (wf_s0_2 hw') (by rw [wf_g0_2 hw']; exact wd_k hw' dy24), wf_g0_2 hw', s20F hw' dy24 h11, hp_bd, hp_ts, b114_29, if_pos rfl, b114_63]
theorem s115F (hF : mm_Fr S) {x : Int32} : mm_cl (d + 2) 115 [.ref 0, .int x] S = some (some (.int (nI 1)), mm_uM (mm_cD S 24 6) 24 9 x) := by
  have hw := hF.2.2.2
  have hw' := w_cD (b := 6) dy24 hw
  have hw2 : mm_W (mm_uM (mm_cD S 24 6) 24 9 x) := hw'
  have h11 : mm_M (mm_uM (mm_cD S 24 6) 24 9 x) 24 11 = nI 0 := by rw [hp_MuM, if_neg (by decide), cF dy24 (by decide) (by decide), ff_6_11 (hF.2.2.1 6 (by decide))]
  rw [e115, b115_0 (wf_o0 hw) (wf_s0_2 hw) (wf_s0_0 hw) (by rw [wf_g0_2 hw]; exact wd_k hw dy24), wf_g0_2 hw, wf_g0_0 hw, s7F hF dy24 (by decide), hp_bd, hp_tnc,
    b115_11 (wf_o0 hw') (wf_s0_2 hw') (by rw [wf_g0_2 hw']; exact wd_o hw' dy24), wf_g0_2 hw', b115_21, if_neg (by decide),
    b115_28 (wf_o0 hw2) (wf_s0_2 hw2) (by rw [wf_g0_2 hw2]; exact wd_k hw2 dy24), wf_g0_2 hw2, s20F hw2 dy24 h11, hp_bd, hp_ts, b115_35, if_pos rfl, b115_57]
end R0
