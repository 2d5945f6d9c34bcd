/-! ===== days: copies ===== -/
theorem st_ext {S T : mm_S} (h1 : ∀ c j, mm_M S c j = mm_M T c j) (h2 : ∀ c j, mm_L S c j = mm_L T c j) (h3 : ∀ c j, mm_R S c j = mm_R T c j) (h4 : ∀ c, mm_K S c = mm_K T c) (h5 : ∀ c, mm_N S c = mm_N T c) (h6 : mm_n S = mm_n T) (h7 : mm_z S = mm_z T) : S = T := by
  obtain ⟨a1, a2, a3, a4, a5, a6, a7⟩ := S
  obtain ⟨b1, b2, b3, b4, b5, b6, b7⟩ := T
  have e1 : a1 = b1 := funext fun c => funext fun j => h1 c j
  have e2 : a2 = b2 := funext fun c => funext fun j => h2 c j
  have e3 : a3 = b3 := funext fun c => funext fun j => h3 c j
  have e4 : a4 = b4 := funext fun c => h4 c
  have e5 : a5 = b5 := funext fun c => h5 c
  have e6 : a6 = b6 := h6
  have e7 : a7 = b7 := h7
  subst e1 e2 e3 e4 e5 e6 e7
  rfl
/-- what a copy of the day b into the day a leaves -/
def mm_cR (S : mm_S) (a b i : Nat) : mm_S := mm_wR S (fun c j => if c = a + 1 ∧ j < i then mm_R S (b + 1) j else mm_R S c j)
def mm_cD (S : mm_S) (a b : Nat) : mm_S := mm_wM (mm_wR S (fun c j => if c = a ∧ j = 8 then mm_R S b 8 else if c = a + 1 ∧ j < 6 then mm_R S (b + 1) j else mm_R S c j)) (fun c j => if c = a ∧ 9 ≤ j ∧ j ≤ 17 then mm_M S b j else if a + 2 ≤ c ∧ c ≤ a + 7 ∧ j < mm_N S c then mm_M S (b + (c - a)) j else mm_M S c j)
/-- the BUYERS of a day are BUYERS, its SHOP is a SHOP -/
def mm_bq (S : mm_S) (b : Nat) : Prop := (∀ i, i < 6 → ∀ e, mm_R S (b + 1) i = some e → mm_obj S e 0 = true) ∧ ∃ s, mm_sh s ∧ mm_R S b 8 = some s
section DAY
variable {d : Nat} {S : mm_S} {a b : Nat}
theorem s7_loop (hw : mm_W S) (ha : mm_dy a) (hb : mm_dy b) (hab : a ≠ b) (hq : mm_bq S b) : ∀ k i : Nat, i + k = 6 → mm_ex d 7 2 [.ref a, .ref b, .int (nI i)] [] (mm_cR S a b i) = mm_ex d 7 26 [.ref a, .ref b, .int (nI 6)] [] (mm_cR S a b 6) := by
  have hne : b + 1 ≠ a + 1 := by omega
  intro k
  induction k with
  | zero =>
    intro i hi
    have e : i = 6 := by omega
    subst e
    rw [b7_2, if_pos (by decide)]
  | succ k ih =>
    intro i hi
    have hi6 : i < 6 := by omega
    have hw' : mm_W (mm_cR S a b i) := by
      refine ⟨hw.1, hw.2.1, fun c k v e => ?_⟩
      have h1 : ¬ (c = a + 1 ∧ k < i) := by
        rintro ⟨rfl, -⟩
        rcases ha with rfl | rfl | rfl | rfl <;> cases e
      show (if c = a + 1 ∧ k < i then _ else mm_R S c k) = _
      rw [if_neg h1]
      exact hw.2.2 c k v e
    have hr : mm_R (mm_cR S a b i) (b + 1) i = mm_R S (b + 1) i := if_neg (fun h => hne h.1)
    rw [b7_2, if_neg (nI_ge hi6 (by decide)), b7_8 (wd_o hw' ha) (wd_s0 hw' ha) (wd_o hw' hb) (wd_s0 hw' hb)
      (by rw [wd_g0 hw' hb, wd_N1 hw' hb]; exact hp_inb hi6 (by omega)) (by rw [wd_g0 hw' hb]; exact wd_a1 hw' hb) (by rw [wd_g0 hw' ha]; exact wd_a1 hw' ha)
      (by rw [wd_g0 hw' ha, wd_N1 hw' ha]; exact hp_inb hi6 (by omega))
      (by
        rw [wd_g0 hw' hb, wd_g0 hw' ha, wd_K1 hw' ha, nI_clamp (by omega), if_pos rfl, hr]
        exact hq.1 i hi6), wd_g0 hw' hb, wd_g0 hw' ha, nI_clamp (by omega), hr, nI_add]
    rw [← ih (i + 1) (by omega)]
    congr 1
    refine st_ext (fun _ _ => rfl) (fun _ _ => rfl) (fun c j => ?_) (fun _ => rfl) (fun _ => rfl) rfl rfl
    rw [hp_RuR]
    show (if c = a + 1 ∧ j = i then mm_R S (b + 1) i else if c = a + 1 ∧ j < i then _ else _) = if c = a + 1 ∧ j < i + 1 then _ else _
    by_cases h1 : c = a + 1
    · by_cases h2 : j = i
      · subst h2; rw [if_pos ⟨h1, rfl⟩, if_pos ⟨h1, by omega⟩]
      · by_cases h3 : j < i
        · rw [if_neg (fun h => h2 h.2), if_pos ⟨h1, h3⟩, if_pos ⟨h1, by omega⟩]
        · rw [if_neg (fun h => h2 h.2), if_neg (fun h => h3 h.2), if_neg (fun h => by omega)]
    · rw [if_neg (fun h => h1 h.1), if_neg (fun h => h1 h.1), if_neg (fun h => h1 h.1)]
set_option maxRecDepth 20000 in
theorem s7 (hw : mm_W S) (ha : mm_dy a) (hb : mm_dy b) (hab : a ≠ b) (hq : mm_bq S b) : mm_cl (d + 1) 7 [.ref a, .ref b] S = some (none, mm_cD S a b) := by
  obtain ⟨s, hs, hS⟩ := hq.2
  have h0 : mm_cR S a b 0 = S := st_ext (fun _ _ => rfl) (fun _ _ => rfl) (fun c j => if_neg (fun h => absurd h.2 (Nat.not_lt_zero j))) (fun _ => rfl) (fun _ => rfl) rfl rfl
  have hl := s7_loop (d := d + 1) hw ha hb hab hq 6 0 rfl
  rw [h0] at hl
  rw [e7, b7_0, hl]
  have hw' : mm_W (mm_cR S a b 6) := by
    refine ⟨hw.1, hw.2.1, fun c k v e => ?_⟩
    have h1 : ¬ (c = a + 1 ∧ k < 6) := by
      rintro ⟨rfl, -⟩
      rcases ha with rfl | rfl | rfl | rfl <;> cases e
    show (if c = a + 1 ∧ k < 6 then _ else mm_R S c k) = _
    rw [if_neg h1]
    exact hw.2.2 c k v e
  have hS' : mm_R (mm_cR S a b 6) b 8 = some s := (if_neg (fun h => by omega)).trans hS
  have hS1 := hp_rs hS'
  have hS2 := hp_rg hS'
  have hsn : s < mm_n (mm_cR S a b 6) := by
    have := hw'.1
    rcases hs with rfl | rfl | rfl | rfl | rfl | rfl | rfl <;> omega
  have hcp6 : mm_cpOk (nI 0) (nI 0) (nI 6) 6 6 = true := by decide
  have hcp12 : mm_cpOk (nI 0) (nI 0) (nI 12) 12 12 = true := by decide
  have hcp18 : mm_cpOk (nI 0) (nI 0) (nI 18) 18 18 = true := by decide
  simp only [b7_26, b7_53, b7_68, b7_83, b7_98, b7_113, b7_126, b7_134, b7_142, b7_150, b7_158, b7_166, b7_174, b7_182, b7_190, e7, hp_MuM, hp_LuL, hp_RuR, hp_McpM, hp_LcpL, hp_LuM, hp_RuM, hp_KuM, hp_NuM, hp_nuM, hp_zuM, hp_ouM, hp_auM, hp_kuM, hp_guM, hp_MuL, hp_RuL, hp_KuL, hp_NuL, hp_nuL, hp_zuL, hp_ouL, hp_auL, hp_kuL, hp_guL, hp_MuR, hp_LuR, hp_KuR, hp_NuR, hp_nuR, hp_zuR, hp_ouR, hp_auR, hp_kuR, hp_LcpM, hp_RcpM, hp_KcpM, hp_NcpM, hp_ncpM, hp_zcpM, hp_ocpM, hp_acpM, hp_kcpM, hp_gcpM, hp_McpL, hp_RcpL, hp_KcpL, hp_NcpL, hp_ncpL, hp_zcpL, hp_ocpL, hp_acpL, hp_kcpL, hp_gcpL, hp_MwM, hp_LwM, hp_RwM, hp_KwM, hp_NwM, hp_nwM, hp_zwM, hp_owM, hp_awM, hp_kwM, hp_gwM, hp_MwR, hp_LwR, hp_RwR, hp_KwR, hp_NwR, hp_nwR, hp_zwR, hp_owR, hp_awR, hp_kwR, hp_MwL, hp_LwL, hp_RwL, hp_KwL, hp_NwL, hp_nwL, hp_zwL, hp_owL, hp_awL, hp_kwL, hp_gwL, hp_w2M, hp_w2R, hp_w2L, wd_o hw' ha, wd_k hw' ha, wd_q hw' ha, wd_g0 hw' ha, wd_s0 hw' ha, wd_N1 hw' ha, wd_K1 hw' ha, wd_a1 hw' ha, wd_g1 hw' ha, wd_s1 hw' ha, wd_N2 hw' ha, wd_a2 hw' ha, wd_g2 hw' ha, wd_s2 hw' ha, wd_N3 hw' ha, wd_a3 hw' ha, wd_g3 hw' ha, wd_s3 hw' ha, wd_N4 hw' ha, wd_a4 hw' ha, wd_g4 hw' ha, wd_s4 hw' ha, wd_N5 hw' ha, wd_a5 hw' ha, wd_g5 hw' ha, wd_s5 hw' ha, wd_N6 hw' ha, wd_a6 hw' ha, wd_g6 hw' ha, wd_s6 hw' ha, wd_N7 hw' ha, wd_a7 hw' ha, wd_g7 hw' ha, wd_s7 hw' ha, wd_N8 hw' ha, wd_a8 hw' ha, wd_o hw' hb, wd_k hw' hb, wd_q hw' hb, wd_g0 hw' hb, wd_s0 hw' hb, wd_N1 hw' hb, wd_K1 hw' hb, wd_a1 hw' hb, wd_g1 hw' hb, wd_s1 hw' hb, wd_N2 hw' hb, wd_a2 hw' hb, wd_g2 hw' hb, wd_s2 hw' hb, wd_N3 hw' hb, wd_a3 hw' hb, wd_g3 hw' hb, wd_s3 hw' hb, wd_N4 hw' hb, wd_a4 hw' hb, wd_g4 hw' hb, wd_s4 hw' hb, wd_N5 hw' hb, wd_a5 hw' hb, wd_g5 hw' hb, wd_s5 hw' hb, wd_N6 hw' hb, wd_a6 hw' hb, wd_g6 hw' hb, wd_s6 hw' hb, wd_N7 hw' hb, wd_a7 hw' hb, wd_g7 hw' hb, wd_s7 hw' hb, wd_N8 hw' hb, wd_a8 hw' hb, hcp6, hcp12, hcp18, nI_clamp, Nat.reducePow, Nat.reduceLT]
  rw [b7_113]
  any_goals (simp only [hp_MuM, hp_LuL, hp_RuR, hp_McpM, hp_LcpL, hp_LuM, hp_RuM, hp_KuM, hp_NuM, hp_nuM, hp_zuM, hp_ouM, hp_auM, hp_kuM, hp_guM, hp_MuL, hp_RuL, hp_KuL, hp_NuL, hp_nuL, hp_zuL, hp_ouL, hp_auL, hp_kuL, hp_guL, hp_MuR, hp_LuR, hp_KuR, hp_NuR, hp_nuR, hp_zuR, hp_ouR, hp_auR, hp_kuR, hp_LcpM, hp_RcpM, hp_KcpM, hp_NcpM, hp_ncpM, hp_zcpM, hp_ocpM, hp_acpM, hp_kcpM, hp_gcpM, hp_McpL, hp_RcpL, hp_KcpL, hp_NcpL, hp_ncpL, hp_zcpL, hp_ocpL, hp_acpL, hp_kcpL, hp_gcpL, hp_MwM, hp_LwM, hp_RwM, hp_KwM, hp_NwM, hp_nwM, hp_zwM, hp_owM, hp_awM, hp_kwM, hp_gwM, hp_MwR, hp_LwR, hp_RwR, hp_KwR, hp_NwR, hp_nwR, hp_zwR, hp_owR, hp_awR, hp_kwR, hp_MwL, hp_LwL, hp_RwL, hp_KwL, hp_NwL, hp_nwL, hp_zwL, hp_owL, hp_awL, hp_kwL, hp_gwL, hp_w2M, hp_w2R, hp_w2L, wd_o hw' ha, wd_k hw' ha, wd_q hw' ha, wd_g0 hw' ha, wd_s0 hw' ha, wd_N1 hw' ha, wd_K1 hw' ha, wd_a1 hw' ha, wd_g1 hw' ha, wd_s1 hw' ha, wd_N2 hw' ha, wd_a2 hw' ha, wd_g2 hw' ha, wd_s2 hw' ha, wd_N3 hw' ha, wd_a3 hw' ha, wd_g3 hw' ha, wd_s3 hw' ha, wd_N4 hw' ha, wd_a4 hw' ha, wd_g4 hw' ha, wd_s4 hw' ha, wd_N5 hw' ha, wd_a5 hw' ha, wd_g5 hw' ha, wd_s5 hw' ha, wd_N6 hw' ha, wd_a6 hw' ha, wd_g6 hw' ha, wd_s6 hw' ha, wd_N7 hw' ha, wd_a7 hw' ha, wd_g7 hw' ha, wd_s7 hw' ha, wd_N8 hw' ha, wd_a8 hw' ha, wd_o hw' hb, wd_k hw' hb, wd_q hw' hb, wd_g0 hw' hb, wd_s0 hw' hb, wd_N1 hw' hb, wd_K1 hw' hb, wd_a1 hw' hb, wd_g1 hw' hb, wd_s1 hw' hb, wd_N2 hw' hb, wd_a2 hw' hb, wd_g2 hw' hb, wd_s2 hw' hb, wd_N3 hw' hb, wd_a3 hw' hb, wd_g3 hw' hb, wd_s3 hw' hb, wd_N4 hw' hb, wd_a4 hw' hb, wd_g4 hw' hb, wd_s4 hw' hb, wd_N5 hw' hb, wd_a5 hw' hb, wd_g5 hw' hb, wd_s5 hw' hb, wd_N6 hw' hb, wd_a6 hw' hb, wd_g6 hw' hb, wd_s6 hw' hb, wd_N7 hw' hb, wd_a7 hw' hb, wd_g7 hw' hb, wd_s7 hw' hb, wd_N8 hw' hb, wd_a8 hw' hb, hS1, hS2, hsn, hcp6, hcp12, hcp18]; done)
  simp only [b7_26, b7_53, b7_68, b7_83, b7_98, b7_113, b7_126, b7_134, b7_142, b7_150, b7_158, b7_166, b7_174, b7_182, b7_190, e7, hp_MuM, hp_LuL, hp_RuR, hp_McpM, hp_LcpL, hp_LuM, hp_RuM, hp_KuM, hp_NuM, hp_nuM, hp_zuM, hp_ouM, hp_auM, hp_kuM, hp_guM, hp_MuL, hp_RuL, hp_KuL, hp_NuL, hp_nuL, hp_zuL, hp_ouL, hp_auL, hp_kuL, hp_guL, hp_MuR, hp_LuR, hp_KuR, hp_NuR, hp_nuR, hp_zuR, hp_ouR, hp_auR, hp_kuR, hp_LcpM, hp_RcpM, hp_KcpM, hp_NcpM, hp_ncpM, hp_zcpM, hp_ocpM, hp_acpM, hp_kcpM, hp_gcpM, hp_McpL, hp_RcpL, hp_KcpL, hp_NcpL, hp_ncpL, hp_zcpL, hp_ocpL, hp_acpL, hp_kcpL, hp_gcpL, hp_MwM, hp_LwM, hp_RwM, hp_KwM, hp_NwM, hp_nwM, hp_zwM, hp_owM, hp_awM, hp_kwM, hp_gwM, hp_MwR, hp_LwR, hp_RwR, hp_KwR, hp_NwR, hp_nwR, hp_zwR, hp_owR, hp_awR, hp_kwR, hp_MwL, hp_LwL, hp_RwL, hp_KwL, hp_NwL, hp_nwL, hp_zwL, hp_owL, hp_awL, hp_kwL, hp_gwL, hp_w2M, hp_w2R, hp_w2L, wd_o hw' ha, wd_k hw' ha, wd_q hw' ha, wd_g0 hw' ha, wd_s0 hw' ha, wd_N1 hw' ha, wd_K1 hw' ha, wd_a1 hw' ha, wd_g1 hw' ha, wd_s1 hw' ha, wd_N2 hw' ha, wd_a2 hw' ha, wd_g2 hw' ha, wd_s2 hw' ha, wd_N3 hw' ha, wd_a3 hw' ha, wd_g3 hw' ha, wd_s3 hw' ha, wd_N4 hw' ha, wd_a4 hw' ha, wd_g4 hw' ha, wd_s4 hw' ha, wd_N5 hw' ha, wd_a5 hw' ha, wd_g5 hw' ha, wd_s5 hw' ha, wd_N6 hw' ha, wd_a6 hw' ha, wd_g6 hw' ha, wd_s6 hw' ha, wd_N7 hw' ha, wd_a7 hw' ha, wd_g7 hw' ha, wd_s7 hw' ha, wd_N8 hw' ha, wd_a8 hw' ha, wd_o hw' hb, wd_k hw' hb, wd_q hw' hb, wd_g0 hw' hb, wd_s0 hw' hb, wd_N1 hw' hb, wd_K1 hw' hb, wd_a1 hw' hb, wd_g1 hw' hb, wd_s1 hw' hb, wd_N2 hw' hb, wd_a2 hw' hb, wd_g2 hw' hb, wd_s2 hw' hb, wd_N3 hw' hb, wd_a3 hw' hb, wd_g3 hw' hb, wd_s3 hw' hb, wd_N4 hw' hb, wd_a4 hw' hb, wd_g4 hw' hb, wd_s4 hw' hb, wd_N5 hw' hb, wd_a5 hw' hb, wd_g5 hw' hb, wd_s5 hw' hb, wd_N6 hw' hb, wd_a6 hw' hb, wd_g6 hw' hb, wd_s6 hw' hb, wd_N7 hw' hb, wd_a7 hw' hb, wd_g7 hw' hb, wd_s7 hw' hb, wd_N8 hw' hb, wd_a8 hw' hb, hS1, hS2, hsn, hcp6, hcp12, hcp18, nI_clamp, Nat.reducePow, Nat.reduceLT]
  congr 2
  refine st_ext (fun c j => ?_) (fun _ _ => rfl) (fun c j => ?_) (fun _ => rfl) (fun _ => rfl) rfl rfl
  · have hN : ∀ i, 2 ≤ i → i ≤ 7 → mm_N S (a + i) = if i = 3 then 18 else if i = 7 then 12 else 6 := by
      intro i h1 h2
      have e : i = 2 ∨ i = 3 ∨ i = 4 ∨ i = 5 ∨ i = 6 ∨ i = 7 := by omega
      rcases e with rfl | rfl | rfl | rfl | rfl | rfl
      · exact wd_N2 hw ha
      · exact wd_N3 hw ha
      · exact wd_N4 hw ha
      · exact wd_N5 hw ha
      · exact wd_N6 hw ha
      · exact wd_N7 hw ha
    have hba : ∀ x y, x ≤ 8 → y ≤ 8 → (b + x = a + y) = False := fun x y hx hy => eq_false (by unfold mm_dy at ha hb; omega)
    have hb0 : ∀ y, y ≤ 8 → (b = a + y) = False := fun y hy => eq_false (by unfold mm_dy at ha hb; omega)
    have ha0 : ∀ x, x ≤ 8 → (b + x = a) = False := fun x hx => eq_false (by unfold mm_dy at ha hb; omega)
    have hb1 : (b = a) = False := eq_false (fun h => hab h.symm)
    have hR : ∀ c j, mm_M (mm_cR S a b 6) c j = mm_M S c j := fun _ _ => rfl
    show _ = (if c = a ∧ 9 ≤ j ∧ j ≤ 17 then mm_M S b j else if a + 2 ≤ c ∧ c ≤ a + 7 ∧ j < mm_N S c then mm_M S (b + (c - a)) j else mm_M S c j)
    simp +decide only [hp_MuM, hp_LuL, hp_RuR, hp_McpM, hp_LcpL, hp_LuM, hp_RuM, hp_KuM, hp_NuM, hp_nuM, hp_zuM, hp_ouM, hp_auM, hp_kuM, hp_guM, hp_MuL, hp_RuL, hp_KuL, hp_NuL, hp_nuL, hp_zuL, hp_ouL, hp_auL, hp_kuL, hp_guL, hp_MuR, hp_LuR, hp_KuR, hp_NuR, hp_nuR, hp_zuR, hp_ouR, hp_auR, hp_kuR, hp_LcpM, hp_RcpM, hp_KcpM, hp_NcpM, hp_ncpM, hp_zcpM, hp_ocpM, hp_acpM, hp_kcpM, hp_gcpM, hp_McpL, hp_RcpL, hp_KcpL, hp_NcpL, hp_ncpL, hp_zcpL, hp_ocpL, hp_acpL, hp_kcpL, hp_gcpL, hp_MwM, hp_LwM, hp_RwM, hp_KwM, hp_NwM, hp_nwM, hp_zwM, hp_owM, hp_awM, hp_kwM, hp_gwM, hp_MwR, hp_LwR, hp_RwR, hp_KwR, hp_NwR, hp_nwR, hp_zwR, hp_owR, hp_awR, hp_kwR, hp_MwL, hp_LwL, hp_RwL, hp_KwL, hp_NwL, hp_nwL, hp_zwL, hp_owL, hp_awL, hp_kwL, hp_gwL, hp_w2M, hp_w2R, hp_w2L, hba, hb0, ha0, hb1, hR, Nat.reduceEqDiff, Nat.reduceLeDiff, false_and, if_false, Nat.zero_add, Nat.sub_zero, Nat.zero_le, true_and]
    have hs0 : ∀ y, 0 < y → (a + y = a) = False := fun y hy => eq_false (by omega)
    have hs1 : ∀ y, 0 < y → (a = a + y) = False := fun y hy => eq_false (by omega)
    have hs2 : ∀ x, (a + x ≤ a + 7) = (x ≤ 7) := fun x => propext (by omega)
    have hs3 : ∀ x, (a + 2 ≤ a + x) = (2 ≤ x) := fun x => propext (by omega)
    have hs4 : (a + 2 ≤ a) = False := eq_false (by omega)
    rcases (by omega : c = a ∨ c = a + 2 ∨ c = a + 3 ∨ c = a + 4 ∨ c = a + 5 ∨ c = a + 6 ∨ c = a + 7 ∨ (c ≠ a ∧ ¬ (a + 2 ≤ c ∧ c ≤ a + 7))) with h | h | h | h | h | h | h | h
    · subst h
      by_cases h2 : 9 ≤ j ∧ j ≤ 17
      · rw [if_pos (⟨rfl, h2⟩ : c = c ∧ 9 ≤ j ∧ j ≤ 17)]
        rcases (by omega : j = 9 ∨ j = 10 ∨ j = 11 ∨ j = 12 ∨ j = 13 ∨ j = 14 ∨ j = 15 ∨ j = 16 ∨ j = 17) with rfl | rfl | rfl | rfl | rfl | rfl | rfl | rfl | rfl <;> simp +decide only [true_and, if_true, if_false]
      · have h3 : ∀ k, 9 ≤ k → k ≤ 17 → (j = k) = False := fun k a b => eq_false (by omega)
        simp +decide only [h2, h3, hs1, hs4, and_false, false_and, if_false, Nat.reduceLeDiff, Nat.reduceLT, true_and]
    rotate_right 1
    · have h3 : ∀ x, 2 ≤ x → x ≤ 7 → (c = a + x) = False := fun x h1 h2 => eq_false (by omega)
      have h4 : (a + 2 ≤ c ∧ c ≤ a + 7 ∧ j < mm_N S c) = False := eq_false (by omega)
      simp +decide only [h.1, h3, h4, false_and, if_false, Nat.reduceLeDiff]
    all_goals (subst h; simp +decide only [hN, hs0, hs1, hs2, hs3, Nat.reduceEqDiff, false_and, true_and, if_false, if_true, Nat.add_sub_cancel_left, Nat.reduceLeDiff, Nat.reduceLT])
  · show _ = (if c = a ∧ j = 8 then mm_R S b 8 else if c = a + 1 ∧ j < 6 then mm_R S (b + 1) j else mm_R S c j)
    have hR : ∀ c j, mm_R (mm_cR S a b 6) c j = if c = a + 1 ∧ j < 6 then mm_R S (b + 1) j else mm_R S c j := fun _ _ => rfl
    simp only [hp_MuM, hp_LuL, hp_RuR, hp_McpM, hp_LcpL, hp_LuM, hp_RuM, hp_KuM, hp_NuM, hp_nuM, hp_zuM, hp_ouM, hp_auM, hp_kuM, hp_guM, hp_MuL, hp_RuL, hp_KuL, hp_NuL, hp_nuL, hp_zuL, hp_ouL, hp_auL, hp_kuL, hp_guL, hp_MuR, hp_LuR, hp_KuR, hp_NuR, hp_nuR, hp_zuR, hp_ouR, hp_auR, hp_kuR, hp_LcpM, hp_RcpM, hp_KcpM, hp_NcpM, hp_ncpM, hp_zcpM, hp_ocpM, hp_acpM, hp_kcpM, hp_gcpM, hp_McpL, hp_RcpL, hp_KcpL, hp_NcpL, hp_ncpL, hp_zcpL, hp_ocpL, hp_acpL, hp_kcpL, hp_gcpL, hp_MwM, hp_LwM, hp_RwM, hp_KwM, hp_NwM, hp_nwM, hp_zwM, hp_owM, hp_awM, hp_kwM, hp_gwM, hp_MwR, hp_LwR, hp_RwR, hp_KwR, hp_NwR, hp_nwR, hp_zwR, hp_owR, hp_awR, hp_kwR, hp_MwL, hp_LwL, hp_RwL, hp_KwL, hp_NwL, hp_nwL, hp_zwL, hp_owL, hp_awL, hp_kwL, hp_gwL, hp_w2M, hp_w2R, hp_w2L, hR, hS]
end DAY
