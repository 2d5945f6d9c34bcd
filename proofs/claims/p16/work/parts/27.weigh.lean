/-! ===== weighing, turns, the day to its end, in the class ===== -/
section WG
variable {S T : mm_S} {a b d n k i c j e : Nat} {P : ab_P} {D : ab_D} {x : Int32} {r : List Nat}
/-- the measures of b in the day a -/
def cd_mw (S : mm_S) (a b : Nat) (P : ab_P) (D : ab_D) : mm_S := mm_uM (mm_uM (mm_uM (mm_uM (mm_uM (mm_uM (mm_uM S (a + 8) 0 (nI b)) (a + 8) 1 (nI (ab_ki P b))) (a + 8) 2 (nI (ab_pr D))) (a + 8) 3 (nI (ab_lo D))) (a + 8) 4 (nI (ab_row D).length)) (a + 8) 5 (nI (ab_aw D b))) (a + 8) 6 (if ab_frn P D b = true then nI 1 else nI 0)
theorem mw_fr : cd_fr a S (cd_mw S a b P D) := fr_w (fr_w (fr_w (fr_w (fr_w (fr_w (fr_w fr_rf dc_8) dc_8) dc_8) dc_8) dc_8) dc_8) dc_8
theorem mw_D (hD : cd_D S a n D) : cd_D (cd_mw S a b P D) a n D := by
  obtain ⟨h1, h2, h3, h4, h5, h6, h7, h8⟩ := hD
  have g0 : ∀ j, mm_M (cd_mw S a b P D) a j = mm_M S a j := fun j => by
    unfold cd_mw
    rw [uM_n0 (by decide), uM_n0 (by decide), uM_n0 (by decide), uM_n0 (by decide), uM_n0 (by decide), uM_n0 (by decide), uM_n0 (by decide)]
  have g : ∀ m j, m ≠ 8 → mm_M (cd_mw S a b P D) (a + m) j = mm_M S (a + m) j := fun m j hm => by
    unfold cd_mw
    rw [uM_n hm.symm, uM_n hm.symm, uM_n hm.symm, uM_n hm.symm, uM_n hm.symm, uM_n hm.symm, uM_n hm.symm]
  exact ⟨(g0 _).trans h1, fun p hp => (g 6 _ (by decide)).trans (h2 p hp), fun b hb => (g 4 _ (by decide)).trans (h3 b hb), fun b hb => (g 5 _ (by decide)).trans (h4 b hb), (g0 _).trans h5, (g0 _).trans h6, (g0 _).trans h7, (g0 _).trans h8⟩
theorem fr_A (h : cd_fr a S T) (hA : cd_A S a P D) (hD : cd_D T a (ab_kn P) D) : cd_A T a P D := ⟨fr_W h hA.1, hA.2.1, fr_P hA.2.1 hA.2.1 h hA.2.2.1, hD, hA.2.2.2.2⟩
theorem mw_me (hA : cd_A S a P D) (hb : b < ab_kn P) : cd_me (cd_mw S a b P D) (a + 8) (ab_ms P D b) := by
  obtain ⟨hw, ha, hP, hD, oP, oD⟩ := hA
  have wT : mm_W (cd_mw S a b P D) := fr_W mw_fr hw
  have k1 := oP.2.2.2.1 b hb
  have k2 := oP.1
  have k3 := oD.2.2.2.2
  have k3' := oD.2.2.2.1
  have k4 := oD.2.2.1 b hb
  have k5 := row_le oP oD
  refine ⟨wd_a8 wT ha, wd_N8 wT ha, fun l hl => ?_⟩
  unfold cd_mw
  rcases (by omega : l = 0 ∨ l = 1 ∨ l = 2 ∨ l = 3 ∨ l = 4 ∨ l = 5 ∨ l = 6) with rfl | rfl | rfl | rfl | rfl | rfl | rfl
  · exact ⟨by rw [uM_k (by decide), uM_k (by decide), uM_k (by decide), uM_k (by decide), uM_k (by decide), uM_k (by decide), uM_s]; rfl, by show b < 2 ^ 31; omega⟩
  · exact ⟨by rw [uM_k (by decide), uM_k (by decide), uM_k (by decide), uM_k (by decide), uM_k (by decide), uM_s]; rfl, by show ab_ki P b < 2 ^ 31; omega⟩
  · exact ⟨by rw [uM_k (by decide), uM_k (by decide), uM_k (by decide), uM_k (by decide), uM_s]; rfl, by show ab_pr D < 2 ^ 31; omega⟩
  · exact ⟨by rw [uM_k (by decide), uM_k (by decide), uM_k (by decide), uM_s]; rfl, by show ab_lo D < 2 ^ 31; omega⟩
  · exact ⟨by rw [uM_k (by decide), uM_k (by decide), uM_s]; rfl, by show (ab_row D).length < 2 ^ 31; omega⟩
  · exact ⟨by rw [uM_k (by decide), uM_s]; rfl, by show ab_aw D b < 2 ^ 31; omega⟩
  · refine ⟨?_, ?_⟩
    · rw [uM_s]
      show _ = nI (if ab_frn P D b = true then 1 else 0)
      split <;> rfl
    · show (if ab_frn P D b = true then 1 else 0) < 2 ^ 31
      split <;> decide
set_option maxHeartbeats 4000000 in
theorem s19 (hA : cd_A S a P D) (hb : b < ab_kn P) : mm_cl (d + 3) 19 [.ref a, .int (nI b)] S = some (none, mm_uM (mm_uM (cd_mw S a b P D) a 18 (nI (ab_val P D b))) a 19 (nI (ab_cost P D b))) := by
  have hA' := hA
  obtain ⟨hw, ha, hP, hD, oP, oD⟩ := hA
  have hb6 := Nat.lt_of_lt_of_le hb oP.1
  obtain ⟨e, he, hy⟩ := hP.2.2.2.2.1 b hb
  have hk := oP.2.2.2.1 b hb
  obtain ⟨s, hs, hs2, hs3⟩ := hP.2.2.2.2.2
  have cl : (nI b).toNatClampNeg = b := nI_clamp (by omega)
  have rgb : mm_rg S (a + 1) b = e := hp_rg he
  have rsb : (mm_R S (a + 1) b).isSome = true := hp_rs he
  have rg8 : mm_rg S a 8 = s := hp_rg hs
  have rs8 : (mm_R S a 8).isSome = true := hp_rs hs
  have oe := by_o hk.1 hy
  -- the states on the way
  have i7 : ∀ k, k < 7 → mm_inb (nI k) (mm_N S (a + 8)) = true := fun k hk => by rw [wd_N8 hw ha]; exact hp_inb hk (by omega)
  have c7 : ∀ k, k < 7 → (nI k).toNatClampNeg = k := fun k hk => nI_clamp (by omega)
  have ea8 : (e = a + 8) = False := eq_false (by have := hy.1; unfold mm_dy at ha; omega)
  have hy1 : ∀ y, 0 < y → (a = a + y) = False := fun y h => eq_false (by omega)
  have hbi : mm_inb (nI b) 6 = true := hp_inb hb6 (by omega)
  have h7i : ∀ k, k < 7 → mm_inb (nI k) 7 = true := fun k hk => hp_inb hk (by omega)
  have l11 := hD.1
  have l12 := hD.2.2.2.2.1
  have l13 := hD.2.2.2.2.2.1
  have l4 := hD.2.2.1 b hb
  have m0 : mm_M S e 0 = nI (ab_ki P b) := hy.2.2.2.1
  have m3 : mm_M S e 3 = nI (ab_wo P b) := hy.2.2.2.2.2.2
  let S1 := mm_uM S (a + 8) 0 (nI b)
  let S2 := mm_uM S1 (a + 8) 1 (nI (ab_ki P b))
  let S3 := mm_uM S2 (a + 8) 2 (nI (ab_pr D))
  let S4 := mm_uM S3 (a + 8) 3 (nI (ab_lo D))
  let S5 := mm_uM S4 (a + 8) 4 (nI (ab_row D).length)
  let S6 := mm_uM S5 (a + 8) 5 (nI (ab_aw D b))
  have f6 : cd_fr a S S6 := fr_w (fr_w (fr_w (fr_w (fr_w (fr_w fr_rf dc_8) dc_8) dc_8) dc_8) dc_8) dc_8
  have g0 : ∀ j, mm_M S6 a j = mm_M S a j := fun j => by
    show mm_M (mm_uM (mm_uM (mm_uM (mm_uM (mm_uM (mm_uM S (a + 8) 0 _) (a + 8) 1 _) (a + 8) 2 _) (a + 8) 3 _) (a + 8) 4 _) (a + 8) 5 _) a j = _
    rw [uM_n0 (by decide), uM_n0 (by decide), uM_n0 (by decide), uM_n0 (by decide), uM_n0 (by decide), uM_n0 (by decide)]
  have g : ∀ m j, m ≠ 8 → mm_M S6 (a + m) j = mm_M S (a + m) j := fun m j hm => by
    show mm_M (mm_uM (mm_uM (mm_uM (mm_uM (mm_uM (mm_uM S (a + 8) 0 _) (a + 8) 1 _) (a + 8) 2 _) (a + 8) 3 _) (a + 8) 4 _) (a + 8) 5 _) (a + m) j = _
    rw [uM_n hm.symm, uM_n hm.symm, uM_n hm.symm, uM_n hm.symm, uM_n hm.symm, uM_n hm.symm]
  have D6 : cd_D S6 a (ab_kn P) D := by
    obtain ⟨h1, h2, h3, h4, h5, h6, h7, h8⟩ := hD
    exact ⟨(g0 _).trans h1, fun p hp => (g 6 _ (by decide)).trans (h2 p hp), fun b hb => (g 4 _ (by decide)).trans (h3 b hb), fun b hb => (g 5 _ (by decide)).trans (h4 b hb), (g0 _).trans h5, (g0 _).trans h6, (g0 _).trans h7, (g0 _).trans h8⟩
  have A6 := fr_A f6 hA' D6
  have Am := fr_A (mw_fr (b := b) (P := P) (D := D)) hA' (mw_D hD)
  have wm : mm_W (cd_mw S a b P D) := Am.1
  have me := mw_me hA' hb
  have hcs : cd_cs (cd_mw S a b P D) s (ab_sh P) := by
    obtain ⟨s', hs', -, h3⟩ := Am.2.2.1.2.2.2.2.2
    rw [show mm_R (cd_mw S a b P D) a 8 = mm_R S a 8 from by rw [fr_R mw_fr], hs] at hs'
    cases hs'
    exact h3
  have k52 := s52 (d := d) (w := 0) wm hs2 me (by decide) oP.2.2.1 hcs
  have em3 : mm_M (cd_mw S a b P D) e 3 = nI (ab_wo P b) := (mw_fr.2 _ _ (dc_x (by have := hy.1; unfold mm_dy at ha; omega))).trans m3
  have go : mm_cl (d + 3) 19 [.ref a, .int (nI b)] S = mm_ex (d + 3) 19 62 [.ref a, .int (nI b)] [.int (nI b), .ref (a + 4), .int (nI 5), .ref (a + 8)] S5 := by
    simp only [b19_0, b19_18, b19_28, b19_38, b19_48, e19, hp_MuM, hp_LuL, hp_RuR, hp_McpM, hp_LcpL, hp_LuM, hp_RuM, hp_KuM, hp_NuM, hp_nuM, hp_zuM, hp_ouM, hp_auM, hp_kuM, hp_guM, hp_MuL, hp_RuL, hp_KuL, hp_NuL, hp_nuL, hp_zuL, hp_ouL, hp_auL, hp_kuL, hp_guL, hp_MuR, hp_LuR, hp_KuR, hp_NuR, hp_nuR, hp_zuR, hp_ouR, hp_auR, hp_kuR, hp_LcpM, hp_RcpM, hp_KcpM, hp_NcpM, hp_ncpM, hp_zcpM, hp_ocpM, hp_acpM, hp_kcpM, hp_gcpM, hp_McpL, hp_RcpL, hp_KcpL, hp_NcpL, hp_ncpL, hp_zcpL, hp_ocpL, hp_acpL, hp_kcpL, hp_gcpL, hp_MwM, hp_LwM, hp_RwM, hp_KwM, hp_NwM, hp_nwM, hp_zwM, hp_owM, hp_awM, hp_kwM, hp_gwM, hp_MwR, hp_LwR, hp_RwR, hp_KwR, hp_NwR, hp_nwR, hp_zwR, hp_owR, hp_awR, hp_kwR, hp_MwL, hp_LwL, hp_RwL, hp_KwL, hp_NwL, hp_nwL, hp_zwL, hp_owL, hp_awL, hp_kwL, hp_gwL, hp_w2M, hp_w2R, hp_w2L, wd_o hw ha, wd_k hw ha, wd_q hw ha, wd_g0 hw ha, wd_s0 hw ha, wd_N1 hw ha, wd_K1 hw ha, wd_a1 hw ha, wd_g1 hw ha, wd_s1 hw ha, wd_N2 hw ha, wd_a2 hw ha, wd_g2 hw ha, wd_s2 hw ha, wd_N3 hw ha, wd_a3 hw ha, wd_g3 hw ha, wd_s3 hw ha, wd_N4 hw ha, wd_a4 hw ha, wd_g4 hw ha, wd_s4 hw ha, wd_N5 hw ha, wd_a5 hw ha, wd_g5 hw ha, wd_s5 hw ha, wd_N6 hw ha, wd_a6 hw ha, wd_g6 hw ha, wd_s6 hw ha, wd_N7 hw ha, wd_a7 hw ha, wd_g7 hw ha, wd_s7 hw ha, wd_N8 hw ha, wd_a8 hw ha, List.not_mem_nil, false_implies, implies_true, nI_clamp, nI_add, Nat.reducePow, hp_bd, hp_bdi, hp_ts, hp_tn, hp_tsc, hp_tnc, Nat.reduceAdd, Nat.reduceSub, Nat.reduceMul, Nat.reduceLT, Nat.reduceLeDiff, Nat.reduceEqDiff, reduceIte, not_true_eq_false, not_false_eq_true, and_true, true_and, and_self, and_false, false_and, or_true, true_or, or_false, false_or, decide_true, decide_false, Bool.and_true, Bool.true_and, Bool.not_false, Bool.or_false, Bool.false_or, Bool.or_true, Bool.true_or, cl, rgb, rsb, oe, hbi, h7i, m0, ea8, hy1, l11, l12, l13]
    rfl
  have a48 : a + 4 ≠ a + 8 := by omega
  have m4 : mm_M S5 (a + 4) b = nI (ab_aw D b) := by
    show mm_M (mm_uM (mm_uM (mm_uM (mm_uM (mm_uM S (a + 8) 0 _) (a + 8) 1 _) (a + 8) 2 _) (a + 8) 3 _) (a + 8) 4 _) (a + 4) b = _
    rw [uM_n (by decide), uM_n (by decide), uM_n (by decide), uM_n (by decide), uM_n (by decide)]
    exact l4
  have w5 : mm_W S5 := hw
  have w6 : mm_W S6 := hw
  have r5 := wd_g0 w5 ha
  have o6 : mm_obj S6 e 0 = true := oe
  have k17 := s17 (d := d + 1) A6 hb
  rw [go, b19_62 (by rw [wd_N4 w5 ha]; exact hbi) (wd_a4 w5 ha) (wd_a8 w5 ha) (i7 5 (by decide)) (wd_o w5 ha) (wd_s7 w5 ha) (wd_k w5 ha), cl, m4, c7 5 (by decide), wd_g7 w5 ha]
  rw [show mm_cl (d + 2) 17 [.ref a, .int (nI b)] (mm_uM S5 (a + 8) 5 (nI (ab_aw D b))) = _ from k17, hp_bd, hp_tsc, b19_75]
  have h82 : (if (if ab_frn P D b = true then nI 1 else nI 0) = nI 0 then mm_ex (d + 3) 19 82 [.ref a, .int (nI b)] [.int (nI 6), .ref (a + 8)] S6 else mm_ex (d + 3) 19 78 [.ref a, .int (nI b)] [.int (nI 6), .ref (a + 8)] S6) = mm_ex (d + 3) 19 91 [.ref a, .int (nI b)] [.ref e, .ref a] (cd_mw S a b P D) := by
    unfold cd_mw
    have i0 : mm_inb (nI b) (mm_N S6 (mm_rg S6 a 0)) = true := di_0 w6 ha hb6
    have rs0 : (mm_R S6 (mm_rg S6 a 0) (nI b).toNatClampNeg).isSome = true := by rw [wd_g0 w6 ha, cl]; exact rsb
    have rge : mm_rg S6 (mm_rg S6 a 0) (nI b).toNatClampNeg = e := by rw [wd_g0 w6 ha, cl]; exact rgb
    cases hf : ab_frn P D b with
    | true => rw [if_neg (by decide), b19_78 (wd_a8 w6 ha) (i7 6 (by decide)) (wd_o w6 ha) (wd_s0 w6 ha) i0 (dx_0 w6 ha) rs0, rge, c7 6 (by decide), if_pos rfl]
    | false => rw [if_pos (by decide), b19_82 (wd_a8 w6 ha) (i7 6 (by decide)) (wd_o w6 ha) (wd_s0 w6 ha) i0 (dx_0 w6 ha) rs0, rge, c7 6 (by decide), if_neg (by decide)]
  rw [h82]
  have rg8m : mm_rg (cd_mw S a b P D) a 8 = s := rg8
  have rs8m : (mm_R (cd_mw S a b P D) a 8).isSome = true := rs8
  have om : mm_obj (cd_mw S a b P D) e 0 = true := oe
  have km : mm_rk (cd_mw S a b P D) (mm_rg (cd_mw S a b P D) a 8) = 6 := by rw [rg8m]; exact ws_k wm hs2
  rw [b19_91 om (wd_o wm ha) rs8m (wd_s7 wm ha) km, rg8m, wd_g7 wm ha, k52, hp_bd, hp_tsc, em3]
  -- the second sum
  let Sv := mm_uM (cd_mw S a b P D) a 18 (nI (ab_val P D b))
  have fv : cd_fr a (cd_mw S a b P D) Sv := fr_w fr_rf (dc_a (by decide))
  have Dv : cd_D Sv a (ab_kn P) D := by
    obtain ⟨h1, h2, h3, h4, h5, h6, h7, h8⟩ := Am.2.2.2.1
    exact ⟨(uM_k (by decide)).trans h1, fun p hp => (uM_0n (by decide)).trans (h2 p hp), fun b hb => (uM_0n (by decide)).trans (h3 b hb), fun b hb => (uM_0n (by decide)).trans (h4 b hb), (uM_k (by decide)).trans h5, (uM_k (by decide)).trans h6, (uM_k (by decide)).trans h7, (uM_k (by decide)).trans h8⟩
  have Av := fr_A fv Am Dv
  have mev : cd_me Sv (a + 8) (ab_ms P D b) := ⟨me.1, me.2.1, fun l hl => ⟨(uM_0n (by decide)).trans (me.2.2 l hl).1, (me.2.2 l hl).2⟩⟩
  have hcv : cd_cs Sv s (ab_sh P) := fr_cs (fun m hm i => fv.2 _ _ (dc_x (by unfold mm_dy at ha; unfold mm_sh at hs2; omega))) hcs
  have k52v := s52 (d := d) (w := 1) Av.1 hs2 mev (by decide) oP.2.2.1 hcv
  have hvv : nI (ab_wo P b) + nI (ab_sum (ab_ms P D b) 0 (ab_sh P) 0) = nI (ab_val P D b) := nI_add _ _
  rw [b19_106 (wd_o wm ha) (wd_o wm ha) rs8m (wd_s7 wm ha) km, rg8m, wd_g7 wm ha, hvv]
  rw [show mm_cl (d + 2) 52 [.ref s, .int (nI 1), .ref (a + 8)] (mm_uM (cd_mw S a b P D) a 18 (nI (ab_val P D b))) = _ from k52v, hp_bd, hp_tsc, b19_123 (S := Sv) (wd_o Av.1 ha)]
  rfl
end WG
