/-! ===== image and undo of the reference ===== -/
section IU2
variable {S T : mm_S} {G : gb_G} {d b n c j : Nat} {x y z : Int32}
def mI_5 (S : mm_S) : mm_S := mm_uM (mm_uM (mm_uM (mm_uM (mm_uM S 92 59 (nI 1)) 92 60 (mm_M S 92 0)) 92 61 (mm_M S 92 14)) 92 62 (mm_M S 92 15)) 92 63 (mm_M S 92 18)
def mI_c (S : mm_S) : mm_S := mc_1 (mc_1 (mi_s (mI_5 S) 6) 132 99 18) 135 101 12
def mI_t (S : mm_S) : mm_S := mm_uM (mm_uM (mm_uM (mm_uM (mm_uM (mI_c S) 134 0 (mm_M S 92 8)) 134 1 (mm_M S 92 10)) 134 2 (mm_M S 92 11)) 134 3 (mm_M S 92 12)) 134 4 (mm_M S 92 13)
def mU_4 (S : mm_S) : mm_S := mm_uM (mm_uM (mm_uM (mm_uM S 92 0 (mm_M S 92 60)) 92 14 (mm_M S 92 61)) 92 15 (mm_M S 92 62)) 92 18 (mm_M S 92 63)
def mU_c (S : mm_S) : mm_S := mc_1 (mc_1 (mu_s (mU_4 S) 6) 99 132 18) 101 135 12
def mU_t (S : mm_S) : mm_S := mm_uM (mm_uM (mm_uM (mm_uM (mm_uM (mU_c S) 92 8 (mm_M S 134 0)) 92 10 (mm_M S 134 1)) 92 11 (mm_M S 134 2)) 92 12 (mm_M S 134 3)) 92 13 (mm_M S 134 4)
theorem mI_fr (h : ¬ ((c = 92 ∧ 59 ≤ j ∧ j ≤ 63) ∨ (126 ≤ c ∧ c ≤ 135))) : mm_M (mI_t S) c j = mm_M S c j := by
  have h126 : (c = 126) = False := eq_false (by omega)
  have h127 : (c = 127) = False := eq_false (by omega)
  have h128 : (c = 128) = False := eq_false (by omega)
  have h129 : (c = 129) = False := eq_false (by omega)
  have h130 : (c = 130) = False := eq_false (by omega)
  have h131 : (c = 131) = False := eq_false (by omega)
  have h132 : (c = 132) = False := eq_false (by omega)
  have h133 : (c = 133) = False := eq_false (by omega)
  have h134 : (c = 134) = False := eq_false (by omega)
  have h135 : (c = 135) = False := eq_false (by omega)
  have g59 : (c = 92 ∧ j = 59) = False := eq_false (by omega)
  have g60 : (c = 92 ∧ j = 60) = False := eq_false (by omega)
  have g61 : (c = 92 ∧ j = 61) = False := eq_false (by omega)
  have g62 : (c = 92 ∧ j = 62) = False := eq_false (by omega)
  have g63 : (c = 92 ∧ j = 63) = False := eq_false (by omega)
  unfold mI_t mI_c mI_5
  simp +decide only [h126, h127, h128, h129, h130, h131, h132, h133, h134, h135, g59, g60, g61, g62, g63, hp_MuM, mc_M, mi_M, mu_M, if_true, if_false, false_and, true_and, and_true, and_false, ite_self]
theorem mU_fr (h : ¬ ((c = 92 ∧ (j = 0 ∨ j = 8 ∨ (10 ≤ j ∧ j ≤ 15) ∨ j = 18)) ∨ (93 ≤ c ∧ c ≤ 101))) : mm_M (mU_t S) c j = mm_M S c j := by
  have h93 : (c = 93) = False := eq_false (by omega)
  have h94 : (c = 94) = False := eq_false (by omega)
  have h95 : (c = 95) = False := eq_false (by omega)
  have h96 : (c = 96) = False := eq_false (by omega)
  have h97 : (c = 97) = False := eq_false (by omega)
  have h98 : (c = 98) = False := eq_false (by omega)
  have h99 : (c = 99) = False := eq_false (by omega)
  have h100 : (c = 100) = False := eq_false (by omega)
  have h101 : (c = 101) = False := eq_false (by omega)
  have g0 : (c = 92 ∧ j = 0) = False := eq_false (by omega)
  have g8 : (c = 92 ∧ j = 8) = False := eq_false (by omega)
  have g10 : (c = 92 ∧ j = 10) = False := eq_false (by omega)
  have g11 : (c = 92 ∧ j = 11) = False := eq_false (by omega)
  have g12 : (c = 92 ∧ j = 12) = False := eq_false (by omega)
  have g13 : (c = 92 ∧ j = 13) = False := eq_false (by omega)
  have g14 : (c = 92 ∧ j = 14) = False := eq_false (by omega)
  have g15 : (c = 92 ∧ j = 15) = False := eq_false (by omega)
  have g18 : (c = 92 ∧ j = 18) = False := eq_false (by omega)
  unfold mU_t mU_c mU_4
  simp +decide only [h93, h94, h95, h96, h97, h98, h99, h100, h101, g0, g8, g10, g11, g12, g13, g14, g15, g18, hp_MuM, mc_M, mi_M, mu_M, if_true, if_false, false_and, true_and, and_true, and_false, ite_self]
theorem m_25 (ok : gb_ok G) (hR : RM S G) : oM S d 196 [.ref 92] (.int (op_25 G).1) (op_25 G).2 := by
  have hw := hR.1
  have w5 : mm_W (mI_5 S) := hw
  have wc : mm_W (mI_c S) := hw
  have wt : mm_W (mI_t S) := hw
  have st : mm_cl d 196 [.ref 92] S = mm_ex d 196 39 [.ref 92, .int (nI 0)] [] (mI_5 S) := by
    unfold mI_5
    simp +decide only [e196, b196_0, b196_7, b196_15, b196_23, b196_31, hp_MuM, hp_LuL, hp_RuR, hp_McpM, hp_LcpL, hp_LuM, hp_RuM, hp_KuM, hp_NuM, hp_nuM, hp_zuM, hp_ouM, hp_auM, hp_kuM, hp_guM, hp_MuL, hp_RuL, hp_KuL, hp_NuL, hp_nuL, hp_zuL, hp_ouL, hp_auL, hp_kuL, hp_guL, hp_MuR, hp_LuR, hp_KuR, hp_NuR, hp_nuR, hp_zuR, hp_ouR, hp_auR, hp_kuR, hp_LcpM, hp_RcpM, hp_KcpM, hp_NcpM, hp_ncpM, hp_zcpM, hp_ocpM, hp_acpM, hp_kcpM, hp_gcpM, hp_McpL, hp_RcpL, hp_KcpL, hp_NcpL, hp_ncpL, hp_zcpL, hp_ocpL, hp_acpL, hp_kcpL, hp_gcpL, hp_MwM, hp_LwM, hp_RwM, hp_KwM, hp_NwM, hp_nwM, hp_zwM, hp_owM, hp_awM, hp_kwM, hp_gwM, hp_MwR, hp_LwR, hp_RwR, hp_KwR, hp_NwR, hp_nwR, hp_zwR, hp_owR, hp_awR, hp_kwR, hp_MwL, hp_LwL, hp_RwL, hp_KwL, hp_NwL, hp_nwL, hp_zwL, hp_owL, hp_awL, hp_kwL, hp_gwL, hp_w2M, hp_w2R, hp_w2L, wx_o92 hw, List.not_mem_nil, false_implies, implies_true, nI_clamp, nI_add, Nat.reducePow, hp_bd, hp_bdi, hp_ts, hp_tn, hp_tsc, hp_tnc, Nat.reduceAdd, Nat.reduceSub, Nat.reduceMul, Nat.reduceLT, Nat.reduceLeDiff, Nat.reduceEqDiff, reduceIte, not_true_eq_false, not_false_eq_true, and_true, true_and, and_self, and_false, false_and, or_true, true_or, or_false, false_or, decide_true, decide_false, Bool.and_true, Bool.true_and, Bool.not_false, Bool.or_false, Bool.false_or, Bool.or_true, Bool.true_or]
  have la := l196 (d := d) w5 6 0 rfl
  rw [mi_0] at la
  have wa : mm_W (mi_s (mI_5 S) 6) := hw
  have lb := l196_137 (d := d) wa 18 0 rfl
  rw [mc_0] at lb
  have wb : mm_W (mc_1 (mi_s (mI_5 S) 6) 132 99 18) := hw
  have lc := l196_163 (d := d) wb 12 0 rfl
  rw [mc_0] at lc
  have rc : ∀ j, ¬ (59 ≤ j ∧ j ≤ 63) → mm_M (mI_c S) 92 j = mm_M S 92 j := by
    intro j hj
    have g59 : (j = 59) = False := eq_false (by omega)
    have g60 : (j = 60) = False := eq_false (by omega)
    have g61 : (j = 61) = False := eq_false (by omega)
    have g62 : (j = 62) = False := eq_false (by omega)
    have g63 : (j = 63) = False := eq_false (by omega)
    unfold mI_c mI_5
    simp +decide only [g59, g60, g61, g62, g63, hp_MuM, mc_M, mi_M, mu_M, if_true, if_false, false_and, true_and, and_true, and_false, ite_self]
  have c8 := rc 8 (by decide)
  have c10 := rc 10 (by decide)
  have c11 := rc 11 (by decide)
  have c12 := rc 12 (by decide)
  have c13 := rc 13 (by decide)
  have c0 := (rc 0 (by decide)).trans hR.2.1.1.1
  have i5 : ∀ k, k < 5 → mm_inb (nI k) 5 = true := fun k hk => hp_inb hk (by omega)
  have run : mm_cl d 196 [.ref 92] S = some (some (.int (nI (gK G))), mI_t S) := by
    have e : mI_t S = mm_uM (mm_uM (mm_uM (mm_uM (mm_uM (mI_c S) 134 0 (mm_M S 92 8)) 134 1 (mm_M S 92 10)) 134 2 (mm_M S 92 11)) 134 3 (mm_M S 92 12)) 134 4 (mm_M S 92 13) := rfl
    rw [st, la, b196_135, lb, b196_161, lc, e]
    change mm_ex d 196 187 _ _ (mI_c S) = _
    rw [← c8, ← c10, ← c11, ← c12, ← c13]
    generalize mI_c S = C at *
    simp +decide only [b196_187, b196_203, b196_213, b196_223, b196_233, b196_238, hp_MuM, hp_LuL, hp_RuR, hp_McpM, hp_LcpL, hp_LuM, hp_RuM, hp_KuM, hp_NuM, hp_nuM, hp_zuM, hp_ouM, hp_auM, hp_kuM, hp_guM, hp_MuL, hp_RuL, hp_KuL, hp_NuL, hp_nuL, hp_zuL, hp_ouL, hp_auL, hp_kuL, hp_guL, hp_MuR, hp_LuR, hp_KuR, hp_NuR, hp_nuR, hp_zuR, hp_ouR, hp_auR, hp_kuR, hp_LcpM, hp_RcpM, hp_KcpM, hp_NcpM, hp_ncpM, hp_zcpM, hp_ocpM, hp_acpM, hp_kcpM, hp_gcpM, hp_McpL, hp_RcpL, hp_KcpL, hp_NcpL, hp_ncpL, hp_zcpL, hp_ocpL, hp_acpL, hp_kcpL, hp_gcpL, hp_MwM, hp_LwM, hp_RwM, hp_KwM, hp_NwM, hp_nwM, hp_zwM, hp_owM, hp_awM, hp_kwM, hp_gwM, hp_MwR, hp_LwR, hp_RwR, hp_KwR, hp_NwR, hp_nwR, hp_zwR, hp_owR, hp_awR, hp_kwR, hp_MwL, hp_LwL, hp_RwL, hp_KwL, hp_NwL, hp_nwL, hp_zwL, hp_owL, hp_awL, hp_kwL, hp_gwL, hp_w2M, hp_w2R, hp_w2L, wx_o92 wc, wx_k92 wc, wx_q92 wc, wx_g92_1 wc, wx_s92_1 wc, wx_N93 wc, wx_a93 wc, wx_g92_2 wc, wx_s92_2 wc, wx_N94 wc, wx_a94 wc, wx_g92_3 wc, wx_s92_3 wc, wx_N95 wc, wx_a95 wc, wx_g92_4 wc, wx_s92_4 wc, wx_N96 wc, wx_a96 wc, wx_g92_5 wc, wx_s92_5 wc, wx_N97 wc, wx_a97 wc, wx_g92_6 wc, wx_s92_6 wc, wx_N98 wc, wx_a98 wc, wx_g92_7 wc, wx_s92_7 wc, wx_N99 wc, wx_a99 wc, wx_g92_9 wc, wx_s92_9 wc, wx_N100 wc, wx_a100 wc, wx_g92_16 wc, wx_s92_16 wc, wx_N101 wc, wx_a101 wc, wx_g92_19 wc, wx_s92_19 wc, wx_N102 wc, wx_a102 wc, wx_g92_20 wc, wx_s92_20 wc, wx_N103 wc, wx_a103 wc, wx_g92_21 wc, wx_s92_21 wc, wx_N104 wc, wx_a104 wc, wx_g92_22 wc, wx_s92_22 wc, wx_N105 wc, wx_a105 wc, wx_g92_23 wc, wx_s92_23 wc, wx_N106 wc, wx_a106 wc, wx_g92_24 wc, wx_s92_24 wc, wx_N107 wc, wx_a107 wc, wx_g92_25 wc, wx_s92_25 wc, wx_N108 wc, wx_a108 wc, wx_g92_29 wc, wx_s92_29 wc, wx_N109 wc, wx_a109 wc, wx_g92_30 wc, wx_s92_30 wc, wx_N110 wc, wx_a110 wc, wx_g92_31 wc, wx_s92_31 wc, wx_N111 wc, wx_a111 wc, wx_g92_32 wc, wx_s92_32 wc, wx_N112 wc, wx_a112 wc, wx_g92_33 wc, wx_s92_33 wc, wx_N113 wc, wx_a113 wc, wx_g92_34 wc, wx_s92_34 wc, wx_N114 wc, wx_a114 wc, wx_g92_35 wc, wx_s92_35 wc, wx_N115 wc, wx_a115 wc, wx_g92_38 wc, wx_s92_38 wc, wx_N116 wc, wx_a116 wc, wx_g92_41 wc, wx_s92_41 wc, wx_N117 wc, wx_a117 wc, wx_g92_44 wc, wx_s92_44 wc, wx_N118 wc, wx_a118 wc, wx_g92_45 wc, wx_s92_45 wc, wx_N119 wc, wx_a119 wc, wx_g92_46 wc, wx_s92_46 wc, wx_N120 wc, wx_a120 wc, wx_g92_52 wc, wx_s92_52 wc, wx_N121 wc, wx_a121 wc, wx_g92_55 wc, wx_s92_55 wc, wx_N122 wc, wx_a122 wc, wx_g92_56 wc, wx_s92_56 wc, wx_N123 wc, wx_a123 wc, wx_g92_57 wc, wx_s92_57 wc, wx_N124 wc, wx_a124 wc, wx_g92_58 wc, wx_s92_58 wc, wx_N125 wc, wx_a125 wc, wx_g92_64 wc, wx_s92_64 wc, wx_N126 wc, wx_a126 wc, wx_g92_65 wc, wx_s92_65 wc, wx_N127 wc, wx_a127 wc, wx_g92_66 wc, wx_s92_66 wc, wx_N128 wc, wx_a128 wc, wx_g92_67 wc, wx_s92_67 wc, wx_N129 wc, wx_a129 wc, wx_g92_68 wc, wx_s92_68 wc, wx_N130 wc, wx_a130 wc, wx_g92_69 wc, wx_s92_69 wc, wx_N131 wc, wx_a131 wc, wx_g92_70 wc, wx_s92_70 wc, wx_N132 wc, wx_a132 wc, wx_g92_71 wc, wx_s92_71 wc, wx_N133 wc, wx_a133 wc, wx_g92_72 wc, wx_s92_72 wc, wx_N134 wc, wx_a134 wc, wx_g92_73 wc, wx_s92_73 wc, wx_N135 wc, wx_a135 wc, wx_g92_75 wc, wx_s92_75 wc, wx_N136 wc, wx_a136 wc, List.not_mem_nil, false_implies, implies_true, nI_clamp, nI_add, Nat.reducePow, hp_bd, hp_bdi, hp_ts, hp_tn, hp_tsc, hp_tnc, Nat.reduceAdd, Nat.reduceSub, Nat.reduceMul, Nat.reduceLT, Nat.reduceLeDiff, Nat.reduceEqDiff, reduceIte, not_true_eq_false, not_false_eq_true, and_true, true_and, and_self, and_false, false_and, or_true, true_or, or_false, false_or, decide_true, decide_false, Bool.and_true, Bool.true_and, Bool.not_false, Bool.or_false, Bool.false_or, Bool.or_true, Bool.true_or, i5, c0]
    rfl
  have fr : ∀ c j, ¬ ((c = 92 ∧ 59 ≤ j ∧ j ≤ 63) ∨ (126 ≤ c ∧ c ≤ 135)) → mm_M (mI_t S) c j = mm_M S c j := fun c j h => mI_fr h
  have k6 : gK G ≤ 6 := ok.1.1.1
  have r6 : (ab_row (gD G)).length ≤ 6 := row_le ok.1.1 ok.1.2.1
  have f12 : (gx_f G.1).length ≤ 12 := ok.1.2.2.2.1
  obtain ⟨-, h1, h2, h3, h4, h5, h6, h7⟩ := hR
  refine ⟨mI_t S, run, ⟨wt, mt_X k6 r6 (fun c j q => fr c j (by unfold nX at q; omega)) h1, ⟨?_, ?_⟩, mt_s (fun c j q => fr c j (by omega)) h3, mt_t (fun c j q => fr c j (by omega)) h4, mt_p (fun c j q => fr c j (by omega)) (fun j => rfl) h5, mt_r (fun c j q => fr c j (by omega)) h6, mt_c (fun c j q => fr c j (by omega)) h7⟩, ⟨fun c j hc => ⟨fr c j (by unfold gm_0 at hc; omega), rfl, rfl⟩, fun _ _ => ⟨rfl, rfl⟩, Nat.le_refl _⟩, rfl, rfl⟩
  · unfold mI_t mI_c mI_5
    simp +decide only [hp_MuM, mc_M, mi_M, mu_M, if_true, if_false, false_and, true_and, and_true, and_false]
  · obtain ⟨⟨p1, p2, p3, p4, p5⟩, ⟨d1, d2, d3, d4, d5, d6, d7, d8⟩, q1, q2, q3, q4, q5⟩ := h1
    have one : ∀ t u b, (t = 126 ∧ u = 93) ∨ (t = 127 ∧ u = 94) ∨ (t = 128 ∧ u = 95) ∨ (t = 129 ∧ u = 96) ∨ (t = 130 ∧ u = 97) ∨ (t = 131 ∧ u = 98) ∨ (t = 133 ∧ u = 100) → b < 6 → mm_M (mI_t S) t b = mm_M S u b := by
      intro t u b h hb
      unfold mI_t mI_c mI_5
      rcases h with ⟨rfl, rfl⟩ | ⟨rfl, rfl⟩ | ⟨rfl, rfl⟩ | ⟨rfl, rfl⟩ | ⟨rfl, rfl⟩ | ⟨rfl, rfl⟩ | ⟨rfl, rfl⟩ <;> simp +decide only [hb, hp_MuM, mc_M, mi_M, mu_M, if_true, if_false, false_and, true_and, and_true, and_false]
    refine ⟨?_, ?_, ?_, ?_, fun b hb => ?_, fun i hi => ?_, fun p hp => ?_, ⟨?_, ?_, ?_, ?_, ?_⟩, fun i hi => ?_⟩
    · refine Eq.trans ?_ p1; unfold mI_t mI_c mI_5; simp +decide only [hp_MuM, mc_M, mi_M, mu_M, if_true, if_false, false_and, true_and, and_true, and_false]
    · refine Eq.trans ?_ q1; unfold mI_t mI_c mI_5; simp +decide only [hp_MuM, mc_M, mi_M, mu_M, if_true, if_false, false_and, true_and, and_true, and_false]
    · refine Eq.trans ?_ q2; unfold mI_t mI_c mI_5; simp +decide only [hp_MuM, mc_M, mi_M, mu_M, if_true, if_false, false_and, true_and, and_true, and_false]
    · refine Eq.trans ?_ q4; unfold mI_t mI_c mI_5; simp +decide only [hp_MuM, mc_M, mi_M, mu_M, if_true, if_false, false_and, true_and, and_true, and_false]
    · have hb6 : b < 6 := Nat.lt_of_lt_of_le hb k6
      obtain ⟨a1, a2, a3, a4⟩ := p2 b hb
      exact ⟨(one 126 93 b (by omega) hb6).trans a1, (one 127 94 b (by omega) hb6).trans a2, (one 128 95 b (by omega) hb6).trans a3, (one 129 96 b (by omega) hb6).trans a4, (one 130 97 b (by omega) hb6).trans (d3 b hb), (one 131 98 b (by omega) hb6).trans (d4 b hb)⟩
    · refine Eq.trans ?_ (p3 i hi)
      have hi : i < 3 * gK G := hi
      have h18 : i < 18 := by omega
      unfold mI_t mI_c mI_5; simp +decide only [h18, hp_MuM, mc_M, mi_M, mu_M, if_true, if_false, false_and, true_and, and_true, and_false, ite_self]
    · have hp : p < (ab_row (gD G)).length := hp
      exact (one 133 100 p (by omega) (by omega)).trans (d2 p hp)
    · refine Eq.trans ?_ d1; unfold mI_t mI_c mI_5; simp +decide only [hp_MuM, mc_M, mi_M, mu_M, if_true, if_false, false_and, true_and, and_true, and_false]
    · refine Eq.trans ?_ d5; unfold mI_t mI_c mI_5; simp +decide only [hp_MuM, mc_M, mi_M, mu_M, if_true, if_false, false_and, true_and, and_true, and_false]
    · refine Eq.trans ?_ d6; unfold mI_t mI_c mI_5; simp +decide only [hp_MuM, mc_M, mi_M, mu_M, if_true, if_false, false_and, true_and, and_true, and_false]
    · refine Eq.trans ?_ d7; unfold mI_t mI_c mI_5; simp +decide only [hp_MuM, mc_M, mi_M, mu_M, if_true, if_false, false_and, true_and, and_true, and_false]
    · refine Eq.trans ?_ d8; unfold mI_t mI_c mI_5; simp +decide only [hp_MuM, mc_M, mi_M, mu_M, if_true, if_false, false_and, true_and, and_true, and_false]
    · refine Eq.trans ?_ (q3 i hi)
      have hi : i < (gx_f G.1).length := hi
      have h18 : i < 12 := by omega
      unfold mI_t mI_c mI_5; simp +decide only [h18, hp_MuM, mc_M, mi_M, mu_M, if_true, if_false, false_and, true_and, and_true, and_false, ite_self]
theorem m_26 (ok : gb_ok G) (hR : RM S G) : oM S d 197 [.ref 92] (.int (op_26 G).1) (op_26 G).2 := by
  have hw := hR.1
  have hi := hR.2.2.1
  cases e : gb_i G with
  | none =>
    have eo : op_26 G = (-3, G) := by unfold op_26; rw [e]
    rw [e] at hi
    have hi : mm_M S 92 59 = nI 0 := hi
    rw [eo]
    refine oM_id hR ?_
    rw [e197, b197_0 (wx_o92 hw), hi, if_pos rfl, b197_7]
  | some Y =>
    have eo : op_26 G = (nI (ab_kn (gx_P Y)), Y, G.2) := by unfold op_26; rw [e]
    have okY := ok.2.1 Y e
    rw [e] at hi
    obtain ⟨hi1, y1, y2, y3, y4, y5, y6, y7, ⟨z0, z1, z2, z3, z4⟩, y8⟩ := hi
    have w4 : mm_W (mU_4 S) := hw
    have wc : mm_W (mU_c S) := hw
    have wt : mm_W (mU_t S) := hw
    have st : mm_cl d 197 [.ref 92] S = mm_ex d 197 44 [.ref 92, .int (nI 0)] [] (mU_4 S) := by
      unfold mU_4
      simp +decide only [e197, b197_0, b197_10, b197_20, b197_28, b197_36, hp_MuM, hp_LuL, hp_RuR, hp_McpM, hp_LcpL, hp_LuM, hp_RuM, hp_KuM, hp_NuM, hp_nuM, hp_zuM, hp_ouM, hp_auM, hp_kuM, hp_guM, hp_MuL, hp_RuL, hp_KuL, hp_NuL, hp_nuL, hp_zuL, hp_ouL, hp_auL, hp_kuL, hp_guL, hp_MuR, hp_LuR, hp_KuR, hp_NuR, hp_nuR, hp_zuR, hp_ouR, hp_auR, hp_kuR, hp_LcpM, hp_RcpM, hp_KcpM, hp_NcpM, hp_ncpM, hp_zcpM, hp_ocpM, hp_acpM, hp_kcpM, hp_gcpM, hp_McpL, hp_RcpL, hp_KcpL, hp_NcpL, hp_ncpL, hp_zcpL, hp_ocpL, hp_acpL, hp_kcpL, hp_gcpL, hp_MwM, hp_LwM, hp_RwM, hp_KwM, hp_NwM, hp_nwM, hp_zwM, hp_owM, hp_awM, hp_kwM, hp_gwM, hp_MwR, hp_LwR, hp_RwR, hp_KwR, hp_NwR, hp_nwR, hp_zwR, hp_owR, hp_awR, hp_kwR, hp_MwL, hp_LwL, hp_RwL, hp_KwL, hp_NwL, hp_nwL, hp_zwL, hp_owL, hp_awL, hp_kwL, hp_gwL, hp_w2M, hp_w2R, hp_w2L, wx_o92 hw, List.not_mem_nil, false_implies, implies_true, nI_clamp, nI_add, Nat.reducePow, hp_bd, hp_bdi, hp_ts, hp_tn, hp_tsc, hp_tnc, Nat.reduceAdd, Nat.reduceSub, Nat.reduceMul, Nat.reduceLT, Nat.reduceLeDiff, Nat.reduceEqDiff, reduceIte, not_true_eq_false, not_false_eq_true, and_true, true_and, and_self, and_false, false_and, or_true, true_or, or_false, false_or, decide_true, decide_false, Bool.and_true, Bool.true_and, Bool.not_false, Bool.or_false, Bool.false_or, Bool.or_true, Bool.true_or, hi1, i01]
    have la := l197 (d := d) w4 6 0 rfl
    rw [mu_0] at la
    have wa : mm_W (mu_s (mU_4 S) 6) := hw
    have lb := l197_142 (d := d) wa 18 0 rfl
    rw [mc_0] at lb
    have wb : mm_W (mc_1 (mu_s (mU_4 S) 6) 99 132 18) := hw
    have lc := l197_168 (d := d) wb 12 0 rfl
    rw [mc_0] at lc
    have rc : ∀ j, mm_M (mU_c S) 134 j = mm_M S 134 j := by
      intro j
      unfold mU_c mU_4
      simp +decide only [hp_MuM, mc_M, mi_M, mu_M, if_true, if_false, false_and, true_and, and_true, and_false, ite_self]
    have c0 := rc 0
    have c1 := rc 1
    have c2 := rc 2
    have c3 := rc 3
    have c4 := rc 4
    have cK : mm_M (mU_c S) 92 0 = nI (ab_kn (gx_P Y)) := by
      refine Eq.trans ?_ y1
      unfold mU_c mU_4
      simp +decide only [hp_MuM, mc_M, mi_M, mu_M, if_true, if_false, false_and, true_and, and_true, and_false, ite_self]
    have i5 : ∀ k, k < 5 → mm_inb (nI k) 5 = true := fun k hk => hp_inb hk (by omega)
    have run : mm_cl d 197 [.ref 92] S = some (some (.int (nI (ab_kn (gx_P Y)))), mU_t S) := by
      have e : mU_t S = mm_uM (mm_uM (mm_uM (mm_uM (mm_uM (mU_c S) 92 8 (mm_M S 134 0)) 92 10 (mm_M S 134 1)) 92 11 (mm_M S 134 2)) 92 12 (mm_M S 134 3)) 92 13 (mm_M S 134 4) := rfl
      rw [st, la, b197_140, lb, b197_166, lc, e]
      change mm_ex d 197 192 _ _ (mU_c S) = _
      rw [← c0, ← c1, ← c2, ← c3, ← c4]
      generalize mU_c S = C at *
      simp +decide only [b197_192, b197_208, b197_218, b197_228, b197_238, b197_243, hp_MuM, hp_LuL, hp_RuR, hp_McpM, hp_LcpL, hp_LuM, hp_RuM, hp_KuM, hp_NuM, hp_nuM, hp_zuM, hp_ouM, hp_auM, hp_kuM, hp_guM, hp_MuL, hp_RuL, hp_KuL, hp_NuL, hp_nuL, hp_zuL, hp_ouL, hp_auL, hp_kuL, hp_guL, hp_MuR, hp_LuR, hp_KuR, hp_NuR, hp_nuR, hp_zuR, hp_ouR, hp_auR, hp_kuR, hp_LcpM, hp_RcpM, hp_KcpM, hp_NcpM, hp_ncpM, hp_zcpM, hp_ocpM, hp_acpM, hp_kcpM, hp_gcpM, hp_McpL, hp_RcpL, hp_KcpL, hp_NcpL, hp_ncpL, hp_zcpL, hp_ocpL, hp_acpL, hp_kcpL, hp_gcpL, hp_MwM, hp_LwM, hp_RwM, hp_KwM, hp_NwM, hp_nwM, hp_zwM, hp_owM, hp_awM, hp_kwM, hp_gwM, hp_MwR, hp_LwR, hp_RwR, hp_KwR, hp_NwR, hp_nwR, hp_zwR, hp_owR, hp_awR, hp_kwR, hp_MwL, hp_LwL, hp_RwL, hp_KwL, hp_NwL, hp_nwL, hp_zwL, hp_owL, hp_awL, hp_kwL, hp_gwL, hp_w2M, hp_w2R, hp_w2L, wx_o92 wc, wx_k92 wc, wx_q92 wc, wx_g92_1 wc, wx_s92_1 wc, wx_N93 wc, wx_a93 wc, wx_g92_2 wc, wx_s92_2 wc, wx_N94 wc, wx_a94 wc, wx_g92_3 wc, wx_s92_3 wc, wx_N95 wc, wx_a95 wc, wx_g92_4 wc, wx_s92_4 wc, wx_N96 wc, wx_a96 wc, wx_g92_5 wc, wx_s92_5 wc, wx_N97 wc, wx_a97 wc, wx_g92_6 wc, wx_s92_6 wc, wx_N98 wc, wx_a98 wc, wx_g92_7 wc, wx_s92_7 wc, wx_N99 wc, wx_a99 wc, wx_g92_9 wc, wx_s92_9 wc, wx_N100 wc, wx_a100 wc, wx_g92_16 wc, wx_s92_16 wc, wx_N101 wc, wx_a101 wc, wx_g92_19 wc, wx_s92_19 wc, wx_N102 wc, wx_a102 wc, wx_g92_20 wc, wx_s92_20 wc, wx_N103 wc, wx_a103 wc, wx_g92_21 wc, wx_s92_21 wc, wx_N104 wc, wx_a104 wc, wx_g92_22 wc, wx_s92_22 wc, wx_N105 wc, wx_a105 wc, wx_g92_23 wc, wx_s92_23 wc, wx_N106 wc, wx_a106 wc, wx_g92_24 wc, wx_s92_24 wc, wx_N107 wc, wx_a107 wc, wx_g92_25 wc, wx_s92_25 wc, wx_N108 wc, wx_a108 wc, wx_g92_29 wc, wx_s92_29 wc, wx_N109 wc, wx_a109 wc, wx_g92_30 wc, wx_s92_30 wc, wx_N110 wc, wx_a110 wc, wx_g92_31 wc, wx_s92_31 wc, wx_N111 wc, wx_a111 wc, wx_g92_32 wc, wx_s92_32 wc, wx_N112 wc, wx_a112 wc, wx_g92_33 wc, wx_s92_33 wc, wx_N113 wc, wx_a113 wc, wx_g92_34 wc, wx_s92_34 wc, wx_N114 wc, wx_a114 wc, wx_g92_35 wc, wx_s92_35 wc, wx_N115 wc, wx_a115 wc, wx_g92_38 wc, wx_s92_38 wc, wx_N116 wc, wx_a116 wc, wx_g92_41 wc, wx_s92_41 wc, wx_N117 wc, wx_a117 wc, wx_g92_44 wc, wx_s92_44 wc, wx_N118 wc, wx_a118 wc, wx_g92_45 wc, wx_s92_45 wc, wx_N119 wc, wx_a119 wc, wx_g92_46 wc, wx_s92_46 wc, wx_N120 wc, wx_a120 wc, wx_g92_52 wc, wx_s92_52 wc, wx_N121 wc, wx_a121 wc, wx_g92_55 wc, wx_s92_55 wc, wx_N122 wc, wx_a122 wc, wx_g92_56 wc, wx_s92_56 wc, wx_N123 wc, wx_a123 wc, wx_g92_57 wc, wx_s92_57 wc, wx_N124 wc, wx_a124 wc, wx_g92_58 wc, wx_s92_58 wc, wx_N125 wc, wx_a125 wc, wx_g92_64 wc, wx_s92_64 wc, wx_N126 wc, wx_a126 wc, wx_g92_65 wc, wx_s92_65 wc, wx_N127 wc, wx_a127 wc, wx_g92_66 wc, wx_s92_66 wc, wx_N128 wc, wx_a128 wc, wx_g92_67 wc, wx_s92_67 wc, wx_N129 wc, wx_a129 wc, wx_g92_68 wc, wx_s92_68 wc, wx_N130 wc, wx_a130 wc, wx_g92_69 wc, wx_s92_69 wc, wx_N131 wc, wx_a131 wc, wx_g92_70 wc, wx_s92_70 wc, wx_N132 wc, wx_a132 wc, wx_g92_71 wc, wx_s92_71 wc, wx_N133 wc, wx_a133 wc, wx_g92_72 wc, wx_s92_72 wc, wx_N134 wc, wx_a134 wc, wx_g92_73 wc, wx_s92_73 wc, wx_N135 wc, wx_a135 wc, wx_g92_75 wc, wx_s92_75 wc, wx_N136 wc, wx_a136 wc, List.not_mem_nil, false_implies, implies_true, nI_clamp, nI_add, Nat.reducePow, hp_bd, hp_bdi, hp_ts, hp_tn, hp_tsc, hp_tnc, Nat.reduceAdd, Nat.reduceSub, Nat.reduceMul, Nat.reduceLT, Nat.reduceLeDiff, Nat.reduceEqDiff, reduceIte, not_true_eq_false, not_false_eq_true, and_true, true_and, and_self, and_false, false_and, or_true, true_or, or_false, false_or, decide_true, decide_false, Bool.and_true, Bool.true_and, Bool.not_false, Bool.or_false, Bool.false_or, Bool.or_true, Bool.true_or, i5, cK]
    have fr : ∀ c j, ¬ ((c = 92 ∧ (j = 0 ∨ j = 8 ∨ (10 ≤ j ∧ j ≤ 15) ∨ j = 18)) ∨ (93 ≤ c ∧ c ≤ 101)) → mm_M (mU_t S) c j = mm_M S c j := fun c j h => mU_fr h
    have f : sf_f gm_now S (mU_t S) := ⟨fun c j hc => ⟨fr c j (by unfold gm_now at hc; omega), rfl, rfl⟩, fun _ _ => ⟨rfl, rfl⟩, Nat.le_refl _⟩
    have k6 : ab_kn (gx_P Y) ≤ 6 := okY.1.1
    have r6 : (ab_row (gx_D Y)).length ≤ 6 := row_le okY.1 okY.2.1
    have f12 : (gx_f Y).length ≤ 12 := okY.2.2.2.1
    have one : ∀ t u b, (t = 126 ∧ u = 93) ∨ (t = 127 ∧ u = 94) ∨ (t = 128 ∧ u = 95) ∨ (t = 129 ∧ u = 96) ∨ (t = 130 ∧ u = 97) ∨ (t = 131 ∧ u = 98) ∨ (t = 133 ∧ u = 100) → b < 6 → mm_M (mU_t S) u b = mm_M S t b := by
      intro t u b h hb
      unfold mU_t mU_c mU_4
      rcases h with ⟨rfl, rfl⟩ | ⟨rfl, rfl⟩ | ⟨rfl, rfl⟩ | ⟨rfl, rfl⟩ | ⟨rfl, rfl⟩ | ⟨rfl, rfl⟩ | ⟨rfl, rfl⟩ <;> simp +decide only [hb, hp_MuM, mc_M, mi_M, mu_M, if_true, if_false, false_and, true_and, and_true, and_false]
    have h18 : mm_M (mU_t S) 92 18 = gm_ho (gx_h Y) := by
      refine Eq.trans ?_ y4; unfold mU_t mU_c mU_4; simp +decide only [hp_MuM, mc_M, mi_M, mu_M, if_true, if_false, false_and, true_and, and_true, and_false, ite_self]
    have h27 : mm_M (mU_t S) 92 27 = -1 := (fr 92 27 (by omega)).trans hR.2.1.2.2.2.2.2.2
    have sh : md_sh (mU_t S) (gx_h Y) (ab_sh (gx_P Y)) := by
      have hS := hR.2.2.2.1
      have ho := okY.2.2.2.2.2.1
      cases hh : gx_h Y with
      | none =>
        rw [hh] at ho h18
        exact ⟨h18, ho⟩
      | some h =>
        rw [hh] at ho h18
        obtain ⟨ho1, ho2⟩ := ho
        have hs := hS.2 h ho1
        have hl6 := ok.2.2.1
        refine ⟨by omega, h18, ?_, ?_⟩
        · rw [ho2]; exact (fr _ _ (by omega)).trans hs.1
        · rw [ho2]; exact mf_cl (fun c i a b => fr c i (by omega)) hs.2
    rw [eo]
    refine oM_X hR run f wt ⟨⟨?_, fun b hb => ?_, fun i hi => ?_, ⟨_, sh⟩, Or.inl ⟨h27, okY.2.2.2.2.2.2⟩⟩, ⟨?_, fun p hp => ?_, fun b hb => ?_, fun b hb => ?_, ?_, ?_, ?_, ?_⟩, ?_, ?_, fun i hi => ?_, h18, h27⟩ rfl rfl
    · refine Eq.trans ?_ y1; unfold mU_t mU_c mU_4; simp +decide only [hp_MuM, mc_M, mi_M, mu_M, if_true, if_false, false_and, true_and, and_true, and_false, ite_self]
    · have hb6 : b < 6 := Nat.lt_of_lt_of_le hb k6
      obtain ⟨a1, a2, a3, a4, a5, a6⟩ := y5 b hb
      exact ⟨(one 126 93 b (by omega) hb6).trans a1, (one 127 94 b (by omega) hb6).trans a2, (one 128 95 b (by omega) hb6).trans a3, (one 129 96 b (by omega) hb6).trans a4⟩
    · refine Eq.trans ?_ (y6 i hi)
      have h18 : i < 18 := by omega
      unfold mU_t mU_c mU_4; simp +decide only [h18, hp_MuM, mc_M, mi_M, mu_M, if_true, if_false, false_and, true_and, and_true, and_false, ite_self]
    · refine Eq.trans ?_ z0; unfold mU_t mU_c mU_4; simp +decide only [hp_MuM, mc_M, mi_M, mu_M, if_true, if_false, false_and, true_and, and_true, and_false]
    · exact (one 133 100 p (by omega) (by omega)).trans (y7 p hp)
    · have hb6 : b < 6 := Nat.lt_of_lt_of_le hb k6
      exact (one 130 97 b (by omega) hb6).trans (y5 b hb).2.2.2.2.1
    · have hb6 : b < 6 := Nat.lt_of_lt_of_le hb k6
      exact (one 131 98 b (by omega) hb6).trans (y5 b hb).2.2.2.2.2
    · refine Eq.trans ?_ z1; unfold mU_t mU_c mU_4; simp +decide only [hp_MuM, mc_M, mi_M, mu_M, if_true, if_false, false_and, true_and, and_true, and_false]
    · refine Eq.trans ?_ z2; unfold mU_t mU_c mU_4; simp +decide only [hp_MuM, mc_M, mi_M, mu_M, if_true, if_false, false_and, true_and, and_true, and_false]
    · refine Eq.trans ?_ z3; unfold mU_t mU_c mU_4; simp +decide only [hp_MuM, mc_M, mi_M, mu_M, if_true, if_false, false_and, true_and, and_true, and_false]
    · refine Eq.trans ?_ z4; unfold mU_t mU_c mU_4; simp +decide only [hp_MuM, mc_M, mi_M, mu_M, if_true, if_false, false_and, true_and, and_true, and_false]
    · refine Eq.trans ?_ y2; unfold mU_t mU_c mU_4; simp +decide only [hp_MuM, mc_M, mi_M, mu_M, if_true, if_false, false_and, true_and, and_true, and_false, ite_self]
    · refine Eq.trans ?_ y3; unfold mU_t mU_c mU_4; simp +decide only [hp_MuM, mc_M, mi_M, mu_M, if_true, if_false, false_and, true_and, and_true, and_false, ite_self]
    · refine Eq.trans ?_ (y8 i hi)
      have h12 : i < 12 := by omega
      unfold mU_t mU_c mU_4; simp +decide only [h12, hp_MuM, mc_M, mi_M, mu_M, if_true, if_false, false_and, true_and, and_true, and_false, ite_self]
end IU2
