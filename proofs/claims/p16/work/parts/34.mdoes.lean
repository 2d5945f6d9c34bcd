/-! ===== what the head does, the day to its end, in the reference ===== -/
section ME
variable {S T U : mm_S} {b k n i d h w L c j : Nat} {P : ab_P} {D : ab_D} {x : Int32} {r : List Nat}
/-- what is left: L is the state with the head gone -/
def md_t1 (L : mm_S) (b : Nat) (P : ab_P) (D : ab_D) : mm_S := mm_uM (mm_uM (mm_uM (mm_uM (mm_uM (mm_uM L 92 13 (ab_tu D + nI 1)) 92 12 (ab_ti D + nI (ab_pr D))) 92 11 (nI (ab_lo D) - nI 1)) 98 b (ab_ga D b + (nI (ab_val P D b) - nI (ab_pr D)))) 92 10 (nI (min 999 (ab_pr D + ab_up P)))) 92 42 (mm_M L 92 42 ||| (nI 1 <<< (nI b &&& 31)))
def md_t2 (L : mm_S) (b : Nat) (P : ab_P) (D : ab_D) : mm_S := mm_uM (mm_uM (mm_uM (mm_uM (mm_uM L 92 13 (ab_tu D + nI 1)) 92 12 (ab_ti D + nI (ab_fe P))) 98 b (ab_ga D b - (nI (ab_cost P D b) + nI (ab_fe P)))) 92 10 (nI (if ab_down P = 0 then ab_pr D / 2 else ab_down P))) 92 43 (mm_M L 92 43 + nI 1)
def md_t3 (L : mm_S) (b n : Nat) (D : ab_D) : mm_S := mm_uM (mm_uM (mm_uM (mm_uM L 92 13 (ab_tu D + nI 1)) 100 n (nI b)) 92 8 (nI (n + 1))) 97 b (nI (ab_aw D b + 1))
theorem s169_go (hA : md_A S P D) (hr : ab_row D = b :: r) {act : Nat} (hact : act = 1 ∨ act = 2 ∨ act = 3) : ∃ U, md_q S U ∧ mm_cl (d + 5) 169 [.ref 92, .int (nI act)] S = some (none, if act = 1 then md_t1 (mm_uM (md_lv U (r.length + 1)) 92 8 (nI r.length)) b P D else if act = 2 then md_t2 (mm_uM (md_lv U (r.length + 1)) 92 8 (nI r.length)) b P D else md_t3 (mm_uM (md_lv U (r.length + 1)) 92 8 (nI r.length)) b r.length D) := by
  have hw := hA.1
  have oP := hA.2.2.2.1
  have oD := hA.2.2.2.2
  have hb : b < ab_kn P := oD.2.1 b (by rw [hr]; exact List.mem_cons_self)
  have hb6 := Nat.lt_of_lt_of_le hb oP.1
  have hlen := row_le oP oD
  rw [hr, List.length_cons] at hlen
  have hh := hA.2.2.1.2.1 0 (by rw [hr]; exact Nat.succ_pos _)
  rw [hr] at hh
  have hh : mm_M S 100 0 = nI b := hh
  obtain ⟨T, g1, g2⟩ := s156 (d := d) hA hb
  have AT := mq_A g2 hA
  obtain ⟨U, g3, g4⟩ := s157 (d := d) AT hb
  have AU := mq_A g4 AT
  have qU := mq_tr g2 g4
  refine ⟨U, qU, ?_⟩
  have wU := AU.1
  have k1 := s158_5 (d := d + 4) AU
  have k2 := s158_2 (d := d + 4) AU
  have k3 := s158_3 (d := d + 4) AU
  have h8 : mm_M U 92 8 = nI (r.length + 1) := by have := AU.2.2.1.1; rw [hr] at this; exact this
  have hl := @s169_loop U (r.length + 1) (d + 5) wU h8 hlen (by omega) (nI act) (nI b) (nI (ab_val P D b)) (nI (ab_cost P D b)) (nI (ab_fe P)) (nI (ab_up P)) (nI (ab_down P)) r.length 1 (by omega) (Nat.le_refl _)
  rw [mlv_1] at hl
  have c0 : (nI 0).toNatClampNeg = 0 := nI_clamp (by decide)
  rw [e169, b169_0 (wf_o92 hw) (wf_s92_9 hw) (by rw [wf_g92_9 hw, wf_N100 hw]; exact hp_inb (by decide) (by decide)) (by rw [wf_g92_9 hw]; exact wf_a100 hw) (wf_k92 hw), wf_g92_9 hw, c0, hh, g1, hp_bd, hp_ts, b169_12 (wf_k92 AT.1), g3, hp_bd, hp_ts, b169_18 (wf_k92 wU), k1, hp_bd, hp_ts, b169_25 (wf_k92 wU), k2, hp_bd, hp_ts, b169_32 (wf_k92 wU), k3, hp_bd, hp_ts, b169_39, hl]
  have hu := ab_up_lt oP
  have hdn := ab_down_lt oP
  have hpr := oD.2.2.2.1
  have hL := mlv_D AU.2.2.1 hr
  have wl : mm_W (md_lv U (r.length + 1)) := wU
  have h8l : mm_M (md_lv U (r.length + 1)) 92 8 = nI (r.length + 1) := (mlv_n (by decide)).trans h8
  have hs8 : nI (r.length + 1) - nI 1 = nI r.length := by rw [pk_sub (by omega)]; congr 1
  rw [b169_75 (wf_o92 wl), h8l, hs8]
  generalize hLL : mm_uM (md_lv U (r.length + 1)) 92 8 (nI r.length) = L at *
  have wL : mm_W L := by rw [← hLL]; exact wU
  obtain ⟨l8, l100, l97, l98, l10, l11, l12, l13⟩ := hL
  have l97 := l97 b hb
  have l98 := l98 b hb
  have l8 : mm_M L 92 8 = nI r.length := l8
  have l10 : mm_M L 92 10 = nI (ab_pr D) := l10
  have l11 : mm_M L 92 11 = nI (ab_lo D) := l11
  have l12 : mm_M L 92 12 = ab_ti D := l12
  have l13 : mm_M L 92 13 = ab_tu D := l13
  have l97 : mm_M L 97 b = nI (ab_aw D b) := l97
  have l98 : mm_M L 98 b = ab_ga D b := l98
  have hbc : (nI b).toNatClampNeg = b := nI_clamp (by omega)
  have hbi : mm_inb (nI b) 6 = true := hp_inb hb6 (by omega)
  have hrc : (nI r.length).toNatClampNeg = r.length := nI_clamp (by omega)
  have hri : mm_inb (nI r.length) 6 = true := hp_inb (by omega) (by omega)
  have hdiv : nI (ab_pr D) / nI 2 = nI (ab_pr D / 2) := pk_div (by omega) (by decide) (by decide)
  have hcd0 : (nI (ab_down P) = nI 0) = (ab_down P = 0) := propext (nI_eq (by omega) (by decide))
  have n13 : ¬ nI 1 = nI 3 := by decide
  have n23 : ¬ nI 2 = nI 3 := by decide
  have n21 : ¬ nI 2 = nI 1 := by decide
  rcases hact with rfl | rfl | rfl
  · rw [if_pos rfl]
    have hle : (nI (ab_pr D + ab_up P) ≤ nI 999) = (ab_pr D + ab_up P ≤ 999) := propext (nI_leI (by omega) (by decide))
    simp only [b169_87, b169_100, b169_112, b169_126, b169_133, b169_138, b169_153, b169_167, b169_178, b169_190, b169_196, b169_208, b169_221, b169_238, b169_252, b169_261, b169_268, e169, hp_MuM, hp_LuL, hp_RuR, hp_McpM, hp_LcpL, hp_LuM, hp_RuM, hp_KuM, hp_NuM, hp_nuM, hp_zuM, hp_ouM, hp_auM, hp_kuM, hp_guM, hp_MuL, hp_RuL, hp_KuL, hp_NuL, hp_nuL, hp_zuL, hp_ouL, hp_auL, hp_kuL, hp_guL, hp_MuR, hp_LuR, hp_KuR, hp_NuR, hp_nuR, hp_zuR, hp_ouR, hp_auR, hp_kuR, hp_LcpM, hp_RcpM, hp_KcpM, hp_NcpM, hp_ncpM, hp_zcpM, hp_ocpM, hp_acpM, hp_kcpM, hp_gcpM, hp_McpL, hp_RcpL, hp_KcpL, hp_NcpL, hp_ncpL, hp_zcpL, hp_ocpL, hp_acpL, hp_kcpL, hp_gcpL, hp_MwM, hp_LwM, hp_RwM, hp_KwM, hp_NwM, hp_nwM, hp_zwM, hp_owM, hp_awM, hp_kwM, hp_gwM, hp_MwR, hp_LwR, hp_RwR, hp_KwR, hp_NwR, hp_nwR, hp_zwR, hp_owR, hp_awR, hp_kwR, hp_MwL, hp_LwL, hp_RwL, hp_KwL, hp_NwL, hp_nwL, hp_zwL, hp_owL, hp_awL, hp_kwL, hp_gwL, hp_w2M, hp_w2R, hp_w2L, wf_o92 wL, wf_g92_5 wL, wf_s92_5 wL, wf_N97 wL, wf_a97 wL, wf_g92_6 wL, wf_s92_6 wL, wf_N98 wL, wf_a98 wL, wf_g92_9 wL, wf_s92_9 wL, wf_N100 wL, wf_a100 wL, List.not_mem_nil, false_implies, implies_true, nI_clamp, nI_add, Nat.reducePow, hp_bd, hp_bdi, hp_ts, hp_tn, hp_tsc, hp_tnc, Nat.reduceAdd, Nat.reduceSub, Nat.reduceMul, Nat.reduceLT, Nat.reduceLeDiff, Nat.reduceEqDiff, reduceIte, not_true_eq_false, not_false_eq_true, and_true, true_and, and_self, and_false, false_and, or_true, true_or, or_false, false_or, decide_true, decide_false, Bool.and_true, Bool.true_and, Bool.not_false, Bool.or_false, Bool.false_or, Bool.or_true, Bool.true_or, l10, l11, l12, l13, l98, hbc, hbi, n13, hle]
    unfold md_t1
    by_cases g : ab_pr D + ab_up P ≤ 999
    · rw [if_pos g, Nat.min_eq_right g]
    · rw [if_neg g, Nat.min_eq_left (by omega)]
  · rw [if_neg (by decide), if_pos rfl]
    simp only [b169_87, b169_100, b169_112, b169_126, b169_133, b169_138, b169_153, b169_167, b169_178, b169_190, b169_196, b169_208, b169_221, b169_238, b169_252, b169_261, b169_268, e169, hp_MuM, hp_LuL, hp_RuR, hp_McpM, hp_LcpL, hp_LuM, hp_RuM, hp_KuM, hp_NuM, hp_nuM, hp_zuM, hp_ouM, hp_auM, hp_kuM, hp_guM, hp_MuL, hp_RuL, hp_KuL, hp_NuL, hp_nuL, hp_zuL, hp_ouL, hp_auL, hp_kuL, hp_guL, hp_MuR, hp_LuR, hp_KuR, hp_NuR, hp_nuR, hp_zuR, hp_ouR, hp_auR, hp_kuR, hp_LcpM, hp_RcpM, hp_KcpM, hp_NcpM, hp_ncpM, hp_zcpM, hp_ocpM, hp_acpM, hp_kcpM, hp_gcpM, hp_McpL, hp_RcpL, hp_KcpL, hp_NcpL, hp_ncpL, hp_zcpL, hp_ocpL, hp_acpL, hp_kcpL, hp_gcpL, hp_MwM, hp_LwM, hp_RwM, hp_KwM, hp_NwM, hp_nwM, hp_zwM, hp_owM, hp_awM, hp_kwM, hp_gwM, hp_MwR, hp_LwR, hp_RwR, hp_KwR, hp_NwR, hp_nwR, hp_zwR, hp_owR, hp_awR, hp_kwR, hp_MwL, hp_LwL, hp_RwL, hp_KwL, hp_NwL, hp_nwL, hp_zwL, hp_owL, hp_awL, hp_kwL, hp_gwL, hp_w2M, hp_w2R, hp_w2L, wf_o92 wL, wf_g92_5 wL, wf_s92_5 wL, wf_N97 wL, wf_a97 wL, wf_g92_6 wL, wf_s92_6 wL, wf_N98 wL, wf_a98 wL, wf_g92_9 wL, wf_s92_9 wL, wf_N100 wL, wf_a100 wL, List.not_mem_nil, false_implies, implies_true, nI_clamp, nI_add, Nat.reducePow, hp_bd, hp_bdi, hp_ts, hp_tn, hp_tsc, hp_tnc, Nat.reduceAdd, Nat.reduceSub, Nat.reduceMul, Nat.reduceLT, Nat.reduceLeDiff, Nat.reduceEqDiff, reduceIte, not_true_eq_false, not_false_eq_true, and_true, true_and, and_self, and_false, false_and, or_true, true_or, or_false, false_or, decide_true, decide_false, Bool.and_true, Bool.true_and, Bool.not_false, Bool.or_false, Bool.false_or, Bool.or_true, Bool.true_or, l10, l11, l12, l13, l98, hbc, hbi, n23, n21, hcd0, hdiv]
    unfold md_t2
    rw [nI_add]
    by_cases g : ab_down P = 0
    · rw [if_pos g, if_pos g]
    · rw [if_neg g, if_neg g]
  · rw [if_neg (by decide), if_neg (by decide)]
    simp only [b169_87, b169_100, b169_112, b169_126, b169_133, b169_138, b169_153, b169_167, b169_178, b169_190, b169_196, b169_208, b169_221, b169_238, b169_252, b169_261, b169_268, e169, hp_MuM, hp_LuL, hp_RuR, hp_McpM, hp_LcpL, hp_LuM, hp_RuM, hp_KuM, hp_NuM, hp_nuM, hp_zuM, hp_ouM, hp_auM, hp_kuM, hp_guM, hp_MuL, hp_RuL, hp_KuL, hp_NuL, hp_nuL, hp_zuL, hp_ouL, hp_auL, hp_kuL, hp_guL, hp_MuR, hp_LuR, hp_KuR, hp_NuR, hp_nuR, hp_zuR, hp_ouR, hp_auR, hp_kuR, hp_LcpM, hp_RcpM, hp_KcpM, hp_NcpM, hp_ncpM, hp_zcpM, hp_ocpM, hp_acpM, hp_kcpM, hp_gcpM, hp_McpL, hp_RcpL, hp_KcpL, hp_NcpL, hp_ncpL, hp_zcpL, hp_ocpL, hp_acpL, hp_kcpL, hp_gcpL, hp_MwM, hp_LwM, hp_RwM, hp_KwM, hp_NwM, hp_nwM, hp_zwM, hp_owM, hp_awM, hp_kwM, hp_gwM, hp_MwR, hp_LwR, hp_RwR, hp_KwR, hp_NwR, hp_nwR, hp_zwR, hp_owR, hp_awR, hp_kwR, hp_MwL, hp_LwL, hp_RwL, hp_KwL, hp_NwL, hp_nwL, hp_zwL, hp_owL, hp_awL, hp_kwL, hp_gwL, hp_w2M, hp_w2R, hp_w2L, wf_o92 wL, wf_g92_5 wL, wf_s92_5 wL, wf_N97 wL, wf_a97 wL, wf_g92_6 wL, wf_s92_6 wL, wf_N98 wL, wf_a98 wL, wf_g92_9 wL, wf_s92_9 wL, wf_N100 wL, wf_a100 wL, List.not_mem_nil, false_implies, implies_true, nI_clamp, nI_add, Nat.reducePow, hp_bd, hp_bdi, hp_ts, hp_tn, hp_tsc, hp_tnc, Nat.reduceAdd, Nat.reduceSub, Nat.reduceMul, Nat.reduceLT, Nat.reduceLeDiff, Nat.reduceEqDiff, reduceIte, not_true_eq_false, not_false_eq_true, and_true, true_and, and_self, and_false, false_and, or_true, true_or, or_false, false_or, decide_true, decide_false, Bool.and_true, Bool.true_and, Bool.not_false, Bool.or_false, Bool.false_or, Bool.or_true, Bool.true_or, l8, l10, l11, l12, l13, l97, hbc, hbi, hrc, hri]
    rfl
theorem mt1_D (hD : md_D T c (r, D.2)) (hlo : 0 < ab_lo D) : md_fr T (md_t1 T b P D) ∧ md_D (md_t1 T b P D) c (ab_do P D b r 1) ∧ mm_M (md_t1 T b P D) 92 42 = mm_M T 92 42 ||| (nI 1 <<< (nI b &&& 31)) ∧ mm_M (md_t1 T b P D) 92 43 = mm_M T 92 43 := by
  obtain ⟨h1, h2, h3, h4, h5, h6, h7, h8⟩ := hD
  have f : ∀ j, j = 8 ∨ (10 ≤ j ∧ j ≤ 13) ∨ j = 42 ∨ j = 43 → md_dc 92 j := fun j h => Or.inr (Or.inr (Or.inr (Or.inr ⟨rfl, h⟩)))
  have f98 : ∀ j, md_dc 98 j := fun j => Or.inr (Or.inr (Or.inr (Or.inl rfl)))
  refine ⟨mf_w (mf_w (mf_w (mf_w (mf_w (mf_w mf_rf (f 13 (by decide))) (f 12 (by decide))) (f 11 (by decide))) (f98 _)) (f 10 (by decide))) (f 42 (by decide)), ?_, ?_, ?_⟩
  · unfold ab_do md_t1
    rw [if_pos rfl]
    refine ⟨?_, fun p hp => ?_, fun x hx => ?_, fun x hx => ?_, ?_, ?_, ?_, ?_⟩
    · simp only [hp_MuM, Nat.reduceEqDiff, false_and, and_false, if_false, true_and, and_true, if_true]; exact h1
    · simp only [hp_MuM, Nat.reduceEqDiff, false_and, if_false]; exact h2 p hp
    · simp only [hp_MuM, Nat.reduceEqDiff, false_and, if_false]; exact h3 x hx
    · simp only [hp_MuM, Nat.reduceEqDiff, false_and, if_false, true_and]
      show (if x = b then _ else _) = (if x = b then _ else _)
      by_cases e : x = b
      · rw [if_pos e, if_pos e]
      · rw [if_neg e, if_neg e]; exact h4 x hx
    · simp only [hp_MuM, Nat.reduceEqDiff, false_and, and_false, if_false, true_and, and_true, if_true]; rfl
    · simp only [hp_MuM, Nat.reduceEqDiff, false_and, and_false, if_false, true_and, and_true, if_true]; exact pk_sub hlo
    · simp only [hp_MuM, Nat.reduceEqDiff, false_and, and_false, if_false, true_and, and_true, if_true]; rfl
    · simp only [hp_MuM, Nat.reduceEqDiff, false_and, and_false, if_false, true_and, and_true, if_true]; rfl
  · unfold md_t1; simp only [hp_MuM, and_self, if_true]
  · unfold md_t1; simp only [hp_MuM, Nat.reduceEqDiff, false_and, and_false, if_false]
theorem mt2_D (hD : md_D T c (r, D.2)) : md_fr T (md_t2 T b P D) ∧ md_D (md_t2 T b P D) c (ab_do P D b r 2) ∧ mm_M (md_t2 T b P D) 92 42 = mm_M T 92 42 ∧ mm_M (md_t2 T b P D) 92 43 = mm_M T 92 43 + nI 1 := by
  obtain ⟨h1, h2, h3, h4, h5, h6, h7, h8⟩ := hD
  have f : ∀ j, j = 8 ∨ (10 ≤ j ∧ j ≤ 13) ∨ j = 42 ∨ j = 43 → md_dc 92 j := fun j h => Or.inr (Or.inr (Or.inr (Or.inr ⟨rfl, h⟩)))
  have f98 : ∀ j, md_dc 98 j := fun j => Or.inr (Or.inr (Or.inr (Or.inl rfl)))
  refine ⟨mf_w (mf_w (mf_w (mf_w (mf_w mf_rf (f 13 (by decide))) (f 12 (by decide))) (f98 _)) (f 10 (by decide))) (f 43 (by decide)), ?_, ?_, ?_⟩
  · unfold ab_do md_t2
    rw [if_neg (by decide : ¬ 2 = 1), if_pos rfl]
    refine ⟨?_, fun p hp => ?_, fun x hx => ?_, fun x hx => ?_, ?_, ?_, ?_, ?_⟩
    · simp only [hp_MuM, Nat.reduceEqDiff, false_and, and_false, if_false, true_and, and_true, if_true]; exact h1
    · simp only [hp_MuM, Nat.reduceEqDiff, false_and, if_false]; exact h2 p hp
    · simp only [hp_MuM, Nat.reduceEqDiff, false_and, if_false]; exact h3 x hx
    · simp only [hp_MuM, Nat.reduceEqDiff, false_and, if_false, true_and]
      show (if x = b then _ else _) = (if x = b then _ else _)
      by_cases e : x = b
      · rw [if_pos e, if_pos e]
      · rw [if_neg e, if_neg e]; exact h4 x hx
    · simp only [hp_MuM, Nat.reduceEqDiff, false_and, and_false, if_false, true_and, and_true, if_true]; rfl
    · simp only [hp_MuM, Nat.reduceEqDiff, false_and, and_false, if_false, true_and, and_true, if_true]; exact h6
    · simp only [hp_MuM, Nat.reduceEqDiff, false_and, and_false, if_false, true_and, and_true, if_true]; rfl
    · simp only [hp_MuM, Nat.reduceEqDiff, false_and, and_false, if_false, true_and, and_true, if_true]; rfl
  · unfold md_t2; simp only [hp_MuM, Nat.reduceEqDiff, false_and, and_false, if_false]
  · unfold md_t2; simp only [hp_MuM, and_self, if_true]
theorem mt3_D (hD : md_D T c (r, D.2)) : md_fr T (md_t3 T b r.length D) ∧ md_D (md_t3 T b r.length D) c (ab_do P D b r 3) ∧ mm_M (md_t3 T b r.length D) 92 42 = mm_M T 92 42 ∧ mm_M (md_t3 T b r.length D) 92 43 = mm_M T 92 43 := by
  obtain ⟨h1, h2, h3, h4, h5, h6, h7, h8⟩ := hD
  have f : ∀ j, j = 8 ∨ (10 ≤ j ∧ j ≤ 13) ∨ j = 42 ∨ j = 43 → md_dc 92 j := fun j h => Or.inr (Or.inr (Or.inr (Or.inr ⟨rfl, h⟩)))
  refine ⟨mf_w (mf_w (mf_w (mf_w mf_rf (f 13 (by decide))) (Or.inr (Or.inl rfl))) (f 8 (by decide))) (Or.inr (Or.inr (Or.inl rfl))), ?_, ?_, ?_⟩
  · unfold ab_do md_t3
    rw [if_neg (by decide : ¬ 3 = 1), if_neg (by decide : ¬ 3 = 2)]
    refine ⟨?_, fun p hp => ?_, fun x hx => ?_, fun x hx => ?_, ?_, ?_, ?_, ?_⟩
    · simp only [hp_MuM, Nat.reduceEqDiff, false_and, and_false, if_false, true_and, and_true, if_true]
      show _ = nI (r ++ [b]).length
      rw [List.length_append]; rfl
    · have hp : p < (r ++ [b]).length := hp
      rw [List.length_append] at hp
      simp only [hp_MuM, Nat.reduceEqDiff, false_and, if_false, true_and]
      show _ = nI ((r ++ [b]).getD p 0)
      by_cases e : p = r.length
      · rw [if_pos e, e, List.getD_eq_getElem?_getD, List.getElem?_append_right (Nat.le_refl _), Nat.sub_self]; rfl
      · have hp2 : p < r.length := by
          have : [b].length = 1 := rfl
          omega
        rw [if_neg e, List.getD_eq_getElem?_getD, List.getElem?_append_left hp2, ← List.getD_eq_getElem?_getD]
        exact h2 p hp2
    · simp only [hp_MuM, Nat.reduceEqDiff, false_and, if_false, true_and]
      show (if x = b then _ else _) = nI (if x = b then _ else _)
      by_cases e : x = b
      · rw [if_pos e, if_pos e]
      · rw [if_neg e, if_neg e]; exact h3 x hx
    · simp only [hp_MuM, Nat.reduceEqDiff, false_and, if_false]; exact h4 x hx
    · simp only [hp_MuM, Nat.reduceEqDiff, false_and, and_false, if_false, true_and, and_true, if_true]; exact h5
    · simp only [hp_MuM, Nat.reduceEqDiff, false_and, and_false, if_false, true_and, and_true, if_true]; exact h6
    · simp only [hp_MuM, Nat.reduceEqDiff, false_and, and_false, if_false, true_and, and_true, if_true]; exact h7
    · simp only [hp_MuM, Nat.reduceEqDiff, false_and, and_false, if_false, true_and, and_true, if_true]; rfl
  · unfold md_t3; simp only [hp_MuM, Nat.reduceEqDiff, false_and, and_false, if_false]
  · unfold md_t3; simp only [hp_MuM, Nat.reduceEqDiff, false_and, and_false, if_false]
theorem s169 (hA : md_A S P D) (hr : ab_row D = b :: r) {act : Nat} (hact : act = 1 ∨ act = 2 ∨ act = 3) (hlo : 0 < ab_lo D) (hm : act = 3 → ab_may P D b = true) : ∃ T, mm_cl (d + 5) 169 [.ref 92, .int (nI act)] S = some (none, T) ∧ md_fr S T ∧ md_A T P (ab_do P D b r act) ∧ mm_M T 92 42 = (if act = 1 then mm_M S 92 42 ||| (nI 1 <<< (nI b &&& 31)) else mm_M S 92 42) ∧ mm_M T 92 43 = (if act = 2 then mm_M S 92 43 + nI 1 else mm_M S 92 43) := by
  obtain ⟨U, q, h⟩ := s169_go (d := d) hA hr hact
  have AU := mq_A q hA
  have hL := mlv_D AU.2.2.1 hr
  have fL : md_fr S (mm_uM (md_lv U (r.length + 1)) 92 8 (nI r.length)) := mf_w (mf_tr (mf_q q) mlv_fr) (Or.inr (Or.inr (Or.inr (Or.inr ⟨rfl, Or.inl rfl⟩))))
  have e42 : mm_M (mm_uM (md_lv U (r.length + 1)) 92 8 (nI r.length)) 92 42 = mm_M S 92 42 := (uM_k (by decide)).trans ((mlv_n (by decide)).trans (q.2 _ _ (by decide)))
  have e43 : mm_M (mm_uM (md_lv U (r.length + 1)) 92 8 (nI r.length)) 92 43 = mm_M S 92 43 := (uM_k (by decide)).trans ((mlv_n (by decide)).trans (q.2 _ _ (by decide)))
  have ok := (ab_do_kn (act := act) hA.2.2.2.1 hA.2.2.2.2 hr (fun h1 h2 => hm (by omega))).1
  refine ⟨_, h, ?_⟩
  rcases hact with rfl | rfl | rfl
  · simp only [if_true]
    obtain ⟨k1, k2, k3, k4⟩ := mt1_D (b := b) (P := P) hL hlo
    have f := mf_tr fL k1
    exact ⟨f, ⟨mf_W f hA.1, mf_P f hA.2.1, k2, hA.2.2.2.1, ok⟩, by rw [k3, e42], by rw [k4, e43, if_neg (by decide)]⟩
  · simp only [if_true, if_neg (by decide : ¬ 2 = 1)]
    obtain ⟨k1, k2, k3, k4⟩ := mt2_D (b := b) (P := P) hL
    have f := mf_tr fL k1
    exact ⟨f, ⟨mf_W f hA.1, mf_P f hA.2.1, k2, hA.2.2.2.1, ok⟩, by rw [k3, e42], by rw [k4, e43]⟩
  · simp only [if_neg (by decide : ¬ 3 = 1), if_neg (by decide : ¬ 3 = 2)]
    obtain ⟨k1, k2, k3, k4⟩ := mt3_D (b := b) (P := P) hL
    have f := mf_tr fL k1
    exact ⟨f, ⟨mf_W f hA.1, mf_P f hA.2.1, k2, hA.2.2.2.1, ok⟩, by rw [k3, e42], by rw [k4, e43]⟩
end ME
