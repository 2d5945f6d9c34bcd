/-! ===== the class's rows of rows on a fresh object ===== -/
section CZ
variable {S : mm_S} {d a : Nat}
theorem s120_0 (hw : mm_W S) (h : mm_M S 6 10 = nI 0) : mm_cl d 120 [.ref 0] S = some (none, S) := by
  have e : mm_M S (mm_rg S 0 0) 10 ≤ nI 0 := by rw [wf_g0_0 hw, h]; decide
  rw [e120, b120_0, b120_4 (wf_o0 hw) (wf_s0_0 hw) (by rw [wf_g0_0 hw]; exact wd_o hw dy6), if_pos e, b120_42]
theorem s122_0 (hw : mm_W S) (h : mm_M S 6 11 = nI 0) : mm_cl d 122 [.ref 0] S = some (some (.int (nI 0)), S) := by
  rw [e122, b122_0 (wf_o0 hw) (wf_s0_0 hw) (by rw [wf_g0_0 hw]; exact wd_o hw dy6), wf_g0_0 hw, h, b122_10, if_pos (by decide), b122_37, if_neg (by decide), b122_41]
theorem s24_0 (hw : mm_W S) (ha : mm_dy a) (h : mm_M S a 10 = nI 0) : mm_cl d 24 [.ref a] S = some (some (.int (nI 0)), S) := by
  rw [e24, b24_0, b24_4 (wd_o hw ha), if_pos (by rw [h]; decide), b24_27]
theorem s126_0 {p : Int32} (hp : p = nI 0 ∨ p = nI 1) : mm_cl d 126 [.long 0, .long 1, .int p] S = some (some (.long p.toInt64), S) := by
  have e1 : ¬ lg_cmp (1 : Int64) 0 ≤ nI 0 := by decide
  have e2 : lg_cmp ((0 : Int64) - 0 / 1 * 1) 0 ≤ nI 0 := by decide
  have e3 : nI 0 < lg_cmp (1 : Int64) 0 := by decide
  rw [e126, b126_0, b126_9, if_neg (by decide), b126_16, if_neg e1, b126_23 (by decide), b126_9, if_neg (by decide), b126_16, if_pos e2, b126_44, if_pos e3, b126_55]
  rcases hp with rfl | rfl
  · rw [if_pos rfl, b126_60 (by decide)]; rfl
  · rw [if_neg i01, b126_67 (by decide)]; rfl
def mk_t1 (S : mm_S) : mm_S := mm_cpM (mm_cD S 24 6) 89 30 0 0 0
theorem t1_W (hF : mm_Fr S) : mm_W (mk_t1 S) := w_cD (b := 6) dy24 hF.2.2.2
theorem t1_M (hF : mm_Fr S) {j : Nat} (h1 : 9 ≤ j) (h2 : j ≤ 17) : mm_M (mk_t1 S) 24 j = mm_M S 6 j := by
  unfold mk_t1
  rw [hp_McpM, if_neg (fun e => by omega), cF dy24 h1 h2]
theorem t1_M6 (hF : mm_Fr S) {j : Nat} : mm_M (mk_t1 S) 6 j = mm_M S 6 j := by
  unfold mk_t1
  rw [hp_McpM, if_neg (fun e => by omega), hc_M, if_neg (fun e => by omega), if_neg (fun e => by omega)]
theorem s121F (hF : mm_Fr S) : mm_cl (d + 2) 121 [.ref 0] S = some (none, mk_t1 S) := by
  have hw := hF.2.2.2
  have hw' := w_cD (b := 6) dy24 hw
  have h11 : mm_M (mm_cD S 24 6) (mm_rg (mm_cD S 24 6) 0 0) 11 = nI 0 := by
    rw [wf_g0_0 hw', hc_M, if_neg (fun e => by omega), if_neg (fun e => by omega), ff_6_11 (hF.2.2.1 6 (by decide))]
  rw [e121, b121_0 (wf_o0 hw) (wf_s0_2 hw) (wf_s0_0 hw) (by rw [wf_g0_2 hw]; exact wd_k hw dy24), wf_g0_2 hw, wf_g0_0 hw, s7F hF dy24 (by decide), hp_bd, hp_tnc]
  rw [b121_11 (wf_o0 hw') (wf_s0_8 hw') (wf_s0_2 hw') (by rw [wf_g0_2 hw']; exact wd_o hw' dy24) (by rw [wf_g0_2 hw']; exact wd_s5 hw' dy24) (wf_s0_0 hw') (by rw [wf_g0_0 hw']; exact wd_o hw' dy6) (by rw [wf_g0_8 hw']; exact wf_a89 hw') (by rw [wf_g0_2 hw', wd_g5 hw' dy24]; exact wd_a6 hw' dy24) (by rw [h11, wf_g0_8 hw', wf_N89 hw', wf_g0_2 hw', wd_g5 hw' dy24, wd_N6 hw' dy24]; decide), h11, wf_g0_8 hw', wf_g0_2 hw', wd_g5 hw' dy24, nI_clamp (by decide)]
  rfl
theorem s119F (hF : mm_Fr S) {w : Int32} (hw0 : w = nI 0 ∨ w = nI 1) : mm_cl (d + 3) 119 [.ref 0, .int w] S = some (some (.int (nI 0)), mm_cpM (mk_t1 S) 89 90 0 0 6) := by
  have hw := hF.2.2.2
  have t6 := hF.2.2.1 6 (by decide)
  have hw' := t1_W hF
  have hw2 : mm_W (mm_cpM (mk_t1 S) 89 90 0 0 6) := hw'
  have h6 : mm_M (mm_cpM (mk_t1 S) 89 90 0 0 6) 6 11 = nI 0 := by rw [hp_McpM, if_neg (fun e => by omega), t1_M6 hF, ff_6_11 t6]
  have fin : ∀ v5 : Int32, v5 = nI 0 → mm_ex (d + 3) 119 67 [.ref 0, .int w, .int (nI 0), .int (nI 1), .int (nI 0), .int v5] [] (mk_t1 S) = some (some (.int (nI 0)), mm_cpM (mk_t1 S) 89 90 0 0 6) := by
    intro v5 hv
    subst hv
    rw [b119_67 (wf_o0 hw') (wf_s0_8 hw') (wf_s0_9 hw') (by rw [wf_g0_8 hw']; exact wf_a89 hw') (by rw [wf_g0_9 hw']; exact wf_a90 hw') (by rw [wf_g0_8 hw', wf_g0_9 hw', wf_N89 hw', wf_N90 hw']; decide) (wf_k0 hw'), wf_g0_8 hw', wf_g0_9 hw', nI_clamp (by decide), nI_clamp (by decide), s122_0 hw2 h6, hp_bd, hp_ts, b119_89, b119_11, if_neg (by decide), b119_18, if_pos rfl, b119_96]
  rw [e119, b119_0 (wf_k0 hw), s120_0 hw (ff_6_10 t6), hp_bd, hp_tnc, b119_6, b119_11, if_neg (by decide), b119_18, if_neg i01, b119_22 (wf_k0 hw), s121F hF, hp_bd, hp_tnc,
    b119_26 (wf_o0 hw') (wf_s0_2 hw') (by rw [wf_g0_2 hw']; exact wd_k hw' dy24), wf_g0_2 hw', s23_0 hw' dy24 (by rw [t1_M hF (by decide) (by decide), ff_6_11 t6]), hp_bd, hp_tnc, b119_33]
  rcases hw0 with rfl | rfl
  · rw [if_pos rfl, b119_37 (wf_o0 hw') (wf_s0_2 hw') (by rw [wf_g0_2 hw']; exact wd_o hw' dy24), if_pos rfl, wf_g0_2 hw']
    exact fin _ (by rw [t1_M hF (by decide) (by decide), ff_6_14 t6])
  · rw [if_neg i01, b119_47 (wf_o0 hw') (wf_s0_2 hw') (by rw [wf_g0_2 hw']; exact wd_k hw' dy24), wf_g0_2 hw', s24_0 hw' dy24 (by rw [t1_M hF (by decide) (by decide), ff_6_10 t6]), hp_bd, hp_ts, b119_54, if_pos rfl]
    exact fin _ rfl
theorem pc_14 (hF : mm_Fr S) {w k : Int32} : ∃ S1, mm_cl 29 87 [.ref 0, .int w, .int k] S = some (some (.int (if w = nI 0 then (if k = -1 then nI 0 else -100001) else if w = nI 1 then (if k = -1 then nI 0 else -100001) else -100001)), S1) ∧ mm_Gd S1 := by
  have hw := hF.2.2.2
  have t6 := hF.2.2.1 6 (by decide)
  have bad : mm_ex 29 87 25 [.ref 0, .int w, .int k, .null] [] S = some (some (.int (-100001)), S) := by rw [b87_25]
  have hok : w = nI 0 ∨ w = nI 1 → mm_cl 29 87 [.ref 0, .int w, .int k] S = mm_ex 29 87 9 [.ref 0, .int w, .int k, .null] [] S := by
    intro h
    rw [e87, b87_0]
    rcases h with rfl | rfl
    · rw [if_pos rfl]
    · rw [if_neg i01, b87_4, if_pos rfl]
  have h11 : mm_M S (mm_rg S 0 0) 11 = nI 0 := by rw [wf_g0_0 hw, ff_6_11 t6]
  rcases V14 w k with ⟨hv, e⟩ | ⟨hv, hk, e⟩ | ⟨hv, hk, e⟩
  · rw [e]
    have n0 : ¬ w = nI 0 := by rintro rfl; revert hv; decide
    have n1 : ¬ w = nI 1 := by rintro rfl; revert hv; decide
    exact ⟨S, by rw [e87, b87_0, if_neg n0, b87_4, if_neg n1, bad], gF hF⟩
  · rw [e, hok hv]
    refine ⟨S, ?_, gF hF⟩
    rw [b87_9]
    by_cases k1 : k < -1
    · rw [if_pos k1, bad]
    · have k2 : ¬ k < nI 0 := hk.resolve_left k1
      rw [if_neg k1, b87_14 (wf_o0 hw) (wf_s0_0 hw) (by rw [wf_g0_0 hw]; exact wd_o hw dy6), h11, if_neg k2, bad]
  · rw [e, hok hv]
    subst hk
    refine ⟨_, by rw [b87_9, if_neg (by decide), b87_14 (wf_o0 hw) (wf_s0_0 hw) (by rw [wf_g0_0 hw]; exact wd_o hw dy6), h11, if_pos (by decide), b87_28 (wf_o0 hw) (wf_s0_0 hw) (by rw [wf_g0_0 hw]; exact wd_o hw dy6), h11, if_pos (by decide), b87_42 (wf_k0 hw), s119F hF hv, hp_bd, hp_ts, b87_47, if_neg (by decide), b87_52], ?_⟩
    exact g_cpM (by decide) (g_cpM (by decide) (g_cD dy24 (gF hF)))
theorem s89F (hF : mm_Fr S) {p : Int32} (hp : p = nI 0 ∨ p = nI 1) : mm_cl (d + 3) 89 [.ref 0, .int p] S = some (some (.long p.toInt64), mk_t1 S) := by
  have hw := hF.2.2.2
  have t6 := hF.2.2.1 6 (by decide)
  have hw' := t1_W hF
  have h11 : mm_M S (mm_rg S 0 0) 11 = nI 0 := by rw [wf_g0_0 hw, ff_6_11 t6]
  have h14 : mm_M (mk_t1 S) (mm_rg (mk_t1 S) 0 2) 14 = nI 0 := by rw [wf_g0_2 hw', t1_M hF (by decide) (by decide), ff_6_14 t6]
  have e1 : (0 : Int64) + (nI 0).toInt64 = 0 := by decide
  have e2 : (0 : Int64) + 1 = 1 := by decide
  have st : mm_cl (d + 3) 89 [.ref 0, .int p] S = mm_ex (d + 3) 89 9 [.ref 0, .int p, .null, .null, .null, .null, .null, .null] [] S := by
    rw [e89, b89_0]
    rcases hp with rfl | rfl
    · rw [if_pos rfl]
    · rw [if_neg i01, b89_4, if_pos rfl]
  rw [st, b89_9 (wf_o0 hw) (wf_s0_0 hw) (by rw [wf_g0_0 hw]; exact wd_o hw dy6), h11, if_pos (by decide), b89_24 (wf_k0 hw), s120_0 hw (ff_6_10 t6), hp_bd, hp_tnc, b89_33, b89_39, if_neg (by decide), b89_46, if_neg i01, b89_51 (wf_k0 hw), s121F hF, hp_bd, hp_tnc,
    b89_55 (wf_o0 hw') (wf_s0_2 hw') (by rw [wf_g0_2 hw']; exact wd_k hw' dy24), wf_g0_2 hw', s23_0 hw' dy24 (by rw [t1_M hF (by decide) (by decide), ff_6_11 t6]), hp_bd, hp_tnc,
    b89_62 (wf_o0 hw') (wf_s0_2 hw') (by rw [wf_g0_2 hw']; exact wd_o hw' dy24) (wf_k0 hw'), h14, e1, e2, s122_0 hw' (by rw [t1_M6 hF, ff_6_11 t6]), hp_bd, hp_ts, b89_83, b89_39, if_neg (by decide), b89_46, if_pos rfl, b89_91, s126_0 hp, hp_bd, hp_ts, b89_98]
theorem pc_16 (hF : mm_Fr S) {p : Int32} : ∃ S1, mm_cl 29 89 [.ref 0, .int p] S = some (some (.long (if p = nI 0 then 0 else if p = nI 1 then 1 else -9223372036854775808)), S1) ∧ mm_Gd S1 := by
  have g1 : mm_Gd (mk_t1 S) := g_cpM (by decide) (g_cD dy24 (gF hF))
  rcases i_rg p 1 2 (by decide) rfl with ⟨q, -, r⟩ | ⟨-, -, q, r⟩ | ⟨j, hj, rfl⟩
  · rw [if_neg (r 0 (by decide)), if_neg (r 1 (by decide))]; exact ⟨S, by rw [e89, b89_0, if_neg (r 0 (by decide)), b89_4, if_neg (r 1 (by decide)), b89_20], gF hF⟩
  · rw [if_neg (r 0 (by decide)), if_neg (r 1 (by decide))]; exact ⟨S, by rw [e89, b89_0, if_neg (r 0 (by decide)), b89_4, if_neg (r 1 (by decide)), b89_20], gF hF⟩
  · rcases (by omega : j = 0 ∨ j = 1) with rfl | rfl
    · rw [if_pos rfl]; exact ⟨_, s89F (d := 26) hF (Or.inl rfl), g1⟩
    · rw [if_neg i01, if_pos rfl]; exact ⟨_, s89F (d := 26) hF (Or.inr rfl), g1⟩
end CZ
