section OPS
variable {S : mm_S}
theorem pm_17 (hG : mm_Gd S) : ∃ S1, mm_cl 29 183 [.ref 92] S = some (some (.int (nI 0)), S1) ∧ mm_n S1 ≤ 600000 ∧ mm_z S1 ≤ 7302250 := by
  have hw := hG.1
  have z1 := hG.2.2.2.2.2.2.1
  have z2 := hG.2.2.2.2.2.2.2
  have hw1 : mm_W (mm_uM S 92 27 (nI 0)) := hw
  have hw2 : mm_W (mm_kp (mm_uM S 92 27 (nI 0))) := hw
  have hw3 : mm_W (mm_ly (mm_kp (mm_uM S 92 27 (nI 0)))) := hw
  have h8 : mm_M (mm_kp (mm_uM S 92 27 (nI 0))) 92 8 = nI 0 := by rw [kp_M, hp_MuM]; simp +decide only [hp_MuM, ff_92_8 hG.2.1, if_true, if_false]
  have h43 : mm_M (mm_kp (mm_uM S 92 27 (nI 0))) 92 43 = nI 0 := by rw [kp_M]; simp +decide only [if_true, if_false]
  refine ⟨_, by rw [e183, b183_0, b183_2, if_neg (by decide), b183_8 (wf_o92 hw) (wf_k92 hw), s171 hw1, hp_bd, hp_tnc, b183_17 (wf_k92 hw2), s173_0 hw2 h8, hp_bd, hp_tnc, b183_21 (wf_o92 hw2) (wf_k92 hw2), s172 hw2, hp_bd, hp_tnc, h43, b183_30 (wf_o92 hw3), if_pos rfl, b183_39], ?_⟩
  simp only [hp_nuM, hp_zuM, kp_n, kp_z, ly_n, ly_z]
  omega
end OPS
