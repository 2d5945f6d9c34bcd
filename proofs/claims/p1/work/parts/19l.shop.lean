/-! ===== an empty text read ===== -/
section SHP
variable {S : mm_S} {d : Nat}
theorem s139_0 (hw : mm_W S) (h : mm_M S 92 26 ≤ mm_M S 92 36) : mm_cl d 139 [.ref 92] S = some (some (.int (-1)), S) := by
  rw [e139, b139_0 (wf_o92 hw), if_pos h, b139_23]
theorem l143 (hw : mm_W S) (h : mm_M S 92 26 ≤ mm_M S 92 36) (h113 : mm_Tb S 113) : ∀ k i : Nat, i + k = 6 → mm_ex (d + 1) 143 4 [.ref 92, .int (-1), .int (nI i)] [] S = some (some (.int (-1)), S) := by
  have w : ∀ i, i < 6 → ¬ (-1 : Int32) = mm_M S 113 (4 * i) := by
    intro i hi
    rcases tp_cases hi with rfl | rfl | rfl | rfl | rfl | rfl
    · rw [ff_113_0 h113]; decide
    · rw [ff_113_4 h113]; decide
    · rw [ff_113_8 h113]; decide
    · rw [ff_113_12 h113]; decide
    · rw [ff_113_16 h113]; decide
    · rw [ff_113_20 h113]; decide
  intro k
  induction k with
  | zero =>
    intro i hi
    have e : i = 6 := by omega
    subst e
    rw [b143_4, if_pos (by decide), b143_37, b143_39, if_pos rfl, b143_79]
  | succ k ih =>
    intro i hi
    rw [b143_4, if_neg (nI_ge (by omega) (by decide)), b143_10 (wf_k92 hw), s139_0 hw h, hp_bd, hp_ts, b143_14 (wf_o92 hw) (wf_s92_33 hw) (by rw [wf_g92_33 hw, wf_N113 hw, nI_mul]; exact hp_inb (by omega) (by omega)) (by rw [wf_g92_33 hw]; exact wf_a113 hw), wf_g92_33 hw, nI_mul, nI_clamp (by omega), if_neg (w i (by omega)), b143_29, nI_add]
    exact ih (i + 1) (by omega)
theorem s151_0 (hw : mm_W S) (h : mm_M S 92 26 = nI 0) (h113 : mm_Tb S 113) : ∃ T, mm_cl (d + 4) 151 [.ref 92] S = some (some (.int (nI 0)), T) ∧ mm_W T ∧ mm_n T = mm_n S ∧ mm_z T = mm_z S := by
  refine ⟨mm_uM (mm_uM (mm_uM S 92 36 (nI 0)) 92 37 (nI 0)) 102 6 (nI 0), ?_, hw, rfl, rfl⟩
  have hw1 : mm_W (mm_uM (mm_uM (mm_uM S 92 36 (nI 0)) 92 37 (nI 0)) 102 6 (nI 0)) := hw
  have e36 : mm_M (mm_uM (mm_uM (mm_uM S 92 36 (nI 0)) 92 37 (nI 0)) 102 6 (nI 0)) 92 36 = nI 0 := by
    rw [hp_MuM, if_neg (by decide), hp_MuM, if_neg (by decide), hp_MuM, if_pos ⟨rfl, rfl⟩]
  have e26 : mm_M (mm_uM (mm_uM (mm_uM S 92 36 (nI 0)) 92 37 (nI 0)) 102 6 (nI 0)) 92 26 = nI 0 := by
    rw [hp_MuM, if_neg (by decide), hp_MuM, if_neg (by decide), hp_MuM, if_neg (by decide), h]
  have t113 : mm_Tb (mm_uM (mm_uM (mm_uM S 92 36 (nI 0)) 92 37 (nI 0)) 102 6 (nI 0)) 113 := by
    refine mm_Tb_sm (S := S) ⟨rfl, rfl, fun j => ?_, fun _ => rfl⟩ h113
    rw [hp_MuM, if_neg (fun e => by omega), hp_MuM, if_neg (fun e => by omega), hp_MuM, if_neg (fun e => by omega)]
  have hle : mm_M (mm_uM (mm_uM (mm_uM S 92 36 (nI 0)) 92 37 (nI 0)) 102 6 (nI 0)) 92 26 ≤ mm_M (mm_uM (mm_uM (mm_uM S 92 36 (nI 0)) 92 37 (nI 0)) 102 6 (nI 0)) 92 36 := by rw [e26, e36]; decide
  rw [e151, b151_0 (wf_o92 hw) (wf_s92_19 hw) (by rw [wf_g92_19 hw]; exact wf_a102 hw) (by rw [wf_g92_19 hw, wf_N102 hw]; decide), wf_g92_19 hw, nI_clamp (n := 6) (by decide), b151_18 (wf_k92 hw1), e150, b150_0 (wf_k92 hw1), e143, b143_0, l143 hw1 hle t113 6 0 rfl, hp_bd, hp_ts, b150_4, if_pos rfl, b150_19, hp_bd, hp_ts, b151_22, if_pos rfl, b151_25 (wf_o92 hw1), e36]
theorem pm_8 (hG : mm_Gd S) : ∃ S1, mm_cl 29 152 [.ref 92] S = some (some (.int (-10)), S1) ∧ mm_n S1 ≤ 600000 ∧ mm_z S1 ≤ 7302250 := by
  have hw := hG.1
  have z1 := hG.2.2.2.2.2.2.1
  have z2 := hG.2.2.2.2.2.2.2
  obtain ⟨T, h1, h2, h3, h4⟩ := s151_0 (d := 24) hw (ff_92_26 hG.2.1) hG.2.2.2.1
  have e : (-10 : Int32) - nI 0 = -10 := by decide
  refine ⟨mm_uM T 92 26 (nI 0), ?_, by rw [hp_nuM]; omega, by rw [hp_zuM]; omega⟩
  rw [e152, b152_0 (wf_o92 hw), ff_92_17 hG.2.1, if_neg (by decide), b152_12 (wf_k92 hw), h1, hp_bd, hp_ts, b152_16 (wf_o92 h2), if_neg (by decide), b152_27, e]
theorem s213_e (hn : mm_n S ≤ 1000000) : mm_cl d 213 [.ref 1000014] S = some (some (.int (nI 1)), S) := by
  have e : ¬ (1000014 + 1 < mm_n S) := by omega
  rw [e213, b213_0 (by decide) (by simp [e]) (by decide), if_pos (by decide), b213_8]
theorem wx5 (hw : mm_W S) : mm_rk S 73 = 5 := wp_k hw _ _ (by decide) rfl (by decide)
theorem wo5 (hw : mm_W S) : mm_obj S 73 5 = true := wp_o hw _ _ _ (by decide) rfl (by decide) rfl
theorem s41_0 (hw : mm_W S) (hn : mm_n S ≤ 1000000) (h : mm_M S 73 0 ≤ mm_M S 73 2) : mm_cl (d + 1) 41 [.ref 73] S = some (some (.int (nI 0)), S) := by
  have hk : mm_rk S 1000014 = 100 := by
    rw [hn_k, if_neg (by omega), if_pos (by decide)]
  rw [e41, b41_0 (wx5 hw), e38, b38_0 (wo5 hw), if_pos h, b38_23, hp_bd, hp_ts, b41_4, e40, b40_0, b40_1, if_neg (by decide), if_neg (by decide), if_neg (by decide), if_neg (by decide), if_neg (by decide), if_neg (by decide), b40_78, hp_bd, hp_ts, b41_9 hk, s213_e hn, hp_bd, hp_ts, b41_14, if_neg i01, b41_25]
def mk_cr (S : mm_S) (a : Nat) : mm_S := mm_uM (mm_uM (mm_uM (mm_uM (mm_uM (mm_uM S a 8 (nI 0)) a 9 (nI 0)) a 0 (nI 1)) a 1 (nI 1)) a 2 (nI 1)) a 3 (nI 0)
theorem s48 (hw : mm_W S) {a : Nat} (ha : mm_sh a) : mm_cl d 48 [.ref a] S = some (none, mk_cr S a) := by
  rw [e48, b48_0 (ws_o hw ha)]
  rfl
theorem pc_8 (hF : mm_Fr S) : ∃ S1, mm_cl 29 81 [.ref 0] S = some (some (.int (-10)), S1) ∧ mm_Gd S1 := by
  have hw := hF.2.2.2
  have t0 := hF.2.2.1 0 (by decide)
  have t73 := hF.2.2.1 73 (by decide)
  have h43 : mm_sh 43 := Or.inr (Or.inl rfl)
  have hR : mm_R S 42 0 = some 43 := hw.2.2 42 0 43 rfl
  have gA : mm_Gd (mm_uR S 73 3 (some 43)) := g_uR (by decide) rfl (gF hF)
  have wA : mm_W (mm_uR S 73 3 (some 43)) := gA.1
  have gB : mm_Gd (mk_cr (mm_uR S 73 3 (some 43)) 43) := g_uM (by decide) (g_uM (by decide) (g_uM (by decide) (g_uM (by decide) (g_uM (by decide) (g_uM (by decide) gA)))))
  have wB : mm_W (mk_cr (mm_uR S 73 3 (some 43)) 43) := gB.1
  have gC : mm_Gd (mm_uM (mk_cr (mm_uR S 73 3 (some 43)) 43) 73 2 (nI 0)) := g_uM (by decide) gB
  have wC : mm_W (mm_uM (mk_cr (mm_uR S 73 3 (some 43)) 43) 73 2 (nI 0)) := gC.1
  have c2 : mm_M (mm_uM (mk_cr (mm_uR S 73 3 (some 43)) 43) 73 2 (nI 0)) 73 2 = nI 0 := by rw [hp_MuM, if_pos ⟨rfl, rfl⟩]
  have c0 : mm_M (mm_uM (mk_cr (mm_uR S 73 3 (some 43)) 43) 73 2 (nI 0)) 73 0 = nI 0 := by
    unfold mk_cr
    rw [hp_MuM, if_neg (by decide), hp_MuM, if_neg (by decide), hp_MuM, if_neg (by decide), hp_MuM, if_neg (by decide), hp_MuM, if_neg (by decide), hp_MuM, if_neg (by decide), hp_MuM, if_neg (by decide), hp_MuR, ff_73_0 t73]
  have hle : mm_M (mm_uM (mk_cr (mm_uR S 73 3 (some 43)) 43) 73 2 (nI 0)) 73 0 ≤ mm_M (mm_uM (mk_cr (mm_uR S 73 3 (some 43)) 43) 73 2 (nI 0)) 73 2 := by rw [c0, c2]; decide
  have r3 : mm_R (mm_uR S 73 3 (some 43)) 73 3 = some 43 := by rw [hp_RuR, if_pos ⟨rfl, rfl⟩]
  have e : (-10 : Int32) - nI 0 = -10 := by decide
  have h37 : mm_cl 28 37 [.ref 73, .ref 43] S = some (some (.int (nI 0)), mm_uM (mk_cr (mm_uR S 73 3 (some 43)) 43) 73 2 (nI 0)) := by
    rw [e37, b37_0 (wo5 hw) (by have := hw.1; omega), b37_6 (wo5 wA) (hp_rs r3) (by rw [hp_rg r3]; exact ws_k wA h43), hp_rg r3, s48 wA h43, hp_bd, hp_tnc, b37_12 (wo5 wB), b37_19, if_neg (by decide), b37_25 (wx5 wC), s41_0 wC (by have := gC.2.2.2.2.2.2.1; omega) hle, hp_bd, hp_ts, b37_29, if_pos rfl, b37_32 (wo5 wC), c2]
  refine ⟨mm_uM (mm_uM (mk_cr (mm_uR S 73 3 (some 43)) 43) 73 2 (nI 0)) 73 0 (nI 0), ?_, g_uM (by decide) gC⟩
  rw [e81, b81_0 (wf_o0 hw), ff_0_11 t0, if_pos (by decide), b81_12 (wf_o0 hw) (wf_s0_4 hw) (by rw [wf_g0_4 hw, ff_0_11 t0, wf_N42 hw]; decide) (by rw [wf_g0_4 hw]; exact wf_a42 hw) (by rw [wf_g0_4 hw, ff_0_11 t0]; exact hp_rs hR) (wf_s0_5 hw) (by rw [wf_g0_5 hw]; exact wx5 hw), wf_g0_4 hw, wf_g0_5 hw, ff_0_11 t0, nI_clamp (by decide), hp_rg hR, h37, hp_bd, hp_ts, b81_30 (wf_o0 wC) (wf_s0_5 wC) (by rw [wf_g0_5 wC]; exact wx5 wC), wf_g0_5 wC, e36, b36_0 (wo5 wC), hp_bd, hp_tnc, b81_38, if_neg (by decide), b81_42, e]
end SHP
