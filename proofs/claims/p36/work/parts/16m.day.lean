section
/-! ===== days: copies ===== -/
theorem st_ext {S T : mm_S} (h1 : ∀ c j, mm_M S c j = mm_M T c j) (h2 : ∀ c j, mm_L S c j = mm_L T c j) (h3 : ∀ c j, mm_R S c j = mm_R T c j) (h4 : ∀ c, mm_K S c = mm_K T c) (h5 : ∀ c, mm_N S c = mm_N T c) (h6 : mm_n S = mm_n T) (h7 : mm_z S = mm_z T) : S = T := by
  obtain ⟨a1, a2, a3, a4, a5, a6, a7⟩ := S
  obtain ⟨b1, b2, b3, b4, b5, b6, b7⟩ := T
  have e1 : a1 = b1 := funext fun c => funext fun j => h1 c j
  have e2 : a2 = b2 := funext fun c => funext fun j => h2 c j
  have e3 : a3 = b3 := funext fun c => funext fun j => h3 c j
  have e4 : a4 = b4 := funext fun c => h4 c
  have e5 : a5 = b5 := funext fun c => h5 c
  have e6 : a6 = b6 := h6
  have e7 : a7 = b7 := h7
  subst e1 e2 e3 e4 e5 e6 e7
  rfl
/-- what a copy of the day b into the day a leaves -/
def mm_cR (S : mm_S) (a b i : Nat) : mm_S := mm_wR S (fun c j => if c = a + 1 ∧ j < i then mm_R S (b + 1) j else mm_R S c j)
def mm_cD (S : mm_S) (a b : Nat) : mm_S := mm_wM (mm_wR S (fun c j => if c = a ∧ j = 8 then mm_R S b 8 else if c = a + 1 ∧ j < 6 then mm_R S (b + 1) j else mm_R S c j)) (fun c j => if c = a ∧ 9 ≤ j ∧ j ≤ 17 then mm_M S b j else if a + 2 ≤ c ∧ c ≤ a + 7 ∧ j < mm_N S c then mm_M S (b + (c - a)) j else mm_M S c j)
/-- the BUYERS of a day are BUYERS, its SHOP is a SHOP -/
def mm_bq (S : mm_S) (b : Nat) : Prop := (∀ i, i < 6 → ∀ e, mm_R S (b + 1) i = some e → mm_obj S e 0 = true) ∧ ∃ s, mm_sh s ∧ mm_R S b 8 = some s
section DAY
variable {d : Nat} {S : mm_S} {a b : Nat}
theorem s7_loop (hw : mm_W S) (ha : mm_dy a) (hb : mm_dy b) (hab : a ≠ b) (hq : mm_bq S b) : ∀ k i : Nat, i + k = 6 → mm_ex d 7 2 [.ref a, .ref b, .int (nI i)] [] (mm_cR S a b i) = mm_ex d 7 26 [.ref a, .ref b, .int (nI 6)] [] (mm_cR S a b 6) := by
  have hne : b + 1 ≠ a + 1 := by omega
  intro k
  induction k with
  | zero =>
    intro i hi
    have e : i = 6 := by omega
    subst e
    rw [b7_2, if_pos (by decide)]
  | succ k ih =>
    intro i hi
    have hi6 : i < 6 := by omega
    have hw' : mm_W (mm_cR S a b i) := by
      refine ⟨hw.1, hw.2.1, fun c k v e => ?_⟩
      have h1 : ¬ (c = a + 1 ∧ k < i) := by
        rintro ⟨rfl, -⟩
        rcases ha with rfl | rfl | rfl | rfl <;> cases e
      show (if c = a + 1 ∧ k < i then _ else mm_R S c k) = _
      rw [if_neg h1]
      exact hw.2.2 c k v e
    have hr : mm_R (mm_cR S a b i) (b + 1) i = mm_R S (b + 1) i := if_neg (fun h => hne h.1)
    rw [b7_2, if_neg (nI_ge hi6 (by decide)), b7_8 (wd_o hw' ha) (wd_s0 hw' ha) (wd_o hw' hb) (wd_s0 hw' hb)
      (by rw [wd_g0 hw' hb, wd_N1 hw' hb]; exact hp_inb hi6 (by omega)) (by rw [wd_g0 hw' hb]; exact wd_a1 hw' hb) (by rw [wd_g0 hw' ha]; exact wd_a1 hw' ha)
      (by rw [wd_g0 hw' ha, wd_N1 hw' ha]; exact hp_inb hi6 (by omega))
      (by
        rw [wd_g0 hw' hb, wd_g0 hw' ha, wd_K1 hw' ha, nI_clamp (by omega), if_pos rfl, hr]
        exact hq.1 i hi6), wd_g0 hw' hb, wd_g0 hw' ha, nI_clamp (by omega), hr, nI_add]
    rw [← ih (i + 1) (by omega)]
    congr 1
    refine st_ext (fun _ _ => rfl) (fun _ _ => rfl) (fun c j => ?_) (fun _ => rfl) (fun _ => rfl) rfl rfl
    rw [hp_RuR]
    show (if c = a + 1 ∧ j = i then mm_R S (b + 1) i else if c = a + 1 ∧ j < i then _ else _) = if c = a + 1 ∧ j < i + 1 then _ else _
    by_cases h1 : c = a + 1
    · by_cases h2 : j = i
      · subst h2; rw [if_pos ⟨h1, rfl⟩, if_pos ⟨h1, by omega⟩]
      · by_cases h3 : j < i
        · rw [if_neg (fun h => h2 h.2), if_pos ⟨h1, h3⟩, if_pos ⟨h1, by omega⟩]
        · rw [if_neg (fun h => h2 h.2), if_neg (fun h => h3 h.2), if_neg (fun h => by omega)]
    · rw [if_neg (fun h => h1 h.1), if_neg (fun h => h1 h.1), if_neg (fun h => h1 h.1)]
set_option maxRecDepth 20000 in
theorem s7 (hw : mm_W S) (ha : mm_dy a) (hb : mm_dy b) (hab : a ≠ b) (hq : mm_bq S b) : mm_cl (d + 1) 7 [.ref a, .ref b] S = some (none, mm_cD S a b) := by
  obtain ⟨s, hs, hS⟩ := hq.2
  have h0 : mm_cR S a b 0 = S := st_ext (fun _ _ => rfl) (fun _ _ => rfl) (fun c j => if_neg (fun h => absurd h.2 (Nat.not_lt_zero j))) (fun _ => rfl) (fun _ => rfl) rfl rfl
  have hl := s7_loop (d := d + 1) hw ha hb hab hq 6 0 rfl
  rw [h0] at hl
  rw [e7, b7_0, hl]
  have hw' : mm_W (mm_cR S a b 6) := by
    refine ⟨hw.1, hw.2.1, fun c k v e => ?_⟩
    have h1 : ¬ (c = a + 1 ∧ k < 6) := by
      rintro ⟨rfl, -⟩
      rcases ha with rfl | rfl | rfl | rfl <;> cases e
    show (if c = a + 1 ∧ k < 6 then _ else mm_R S c k) = _
    rw [if_neg h1]
    exact hw.2.2 c k v e
  have hS' : mm_R (mm_cR S a b 6) b 8 = some s := (if_neg (fun h => by omega)).trans hS
  have hS1 := hp_rs hS'
  have hS2 := hp_rg hS'
  have hsn : s < mm_n (mm_cR S a b 6) := by
    have := hw'.1
    rcases hs with rfl | rfl | rfl | rfl | rfl | rfl | rfl <;> omega
  have hcp6 : mm_cpOk (nI 0) (nI 0) (nI 6) 6 6 = true := by decide
  have hcp12 : mm_cpOk (nI 0) (nI 0) (nI 12) 12 12 = true := by decide
  have hcp18 : mm_cpOk (nI 0) (nI 0) (nI 18) 18 18 = true := by decide
  simp only [b7_26, b7_53, b7_68, b7_83, b7_98, b7_113, b7_126, b7_134, b7_142, b7_150, b7_158, b7_166, b7_174, b7_182, b7_190, e7, hp_MuM, hp_LuL, hp_RuR, hp_McpM, hp_LcpL, hp_LuM, hp_RuM, hp_KuM, hp_NuM, hp_nuM, hp_zuM, hp_ouM, hp_auM, hp_kuM, hp_guM, hp_MuL, hp_RuL, hp_KuL, hp_NuL, hp_nuL, hp_zuL, hp_ouL, hp_auL, hp_kuL, hp_guL, hp_MuR, hp_LuR, hp_KuR, hp_NuR, hp_nuR, hp_zuR, hp_ouR, hp_auR, hp_kuR, hp_LcpM, hp_RcpM, hp_KcpM, hp_NcpM, hp_ncpM, hp_zcpM, hp_ocpM, hp_acpM, hp_kcpM, hp_gcpM, hp_McpL, hp_RcpL, hp_KcpL, hp_NcpL, hp_ncpL, hp_zcpL, hp_ocpL, hp_acpL, hp_kcpL, hp_gcpL, hp_MwM, hp_LwM, hp_RwM, hp_KwM, hp_NwM, hp_nwM, hp_zwM, hp_owM, hp_awM, hp_kwM, hp_gwM, hp_MwR, hp_LwR, hp_RwR, hp_KwR, hp_NwR, hp_nwR, hp_zwR, hp_owR, hp_awR, hp_kwR, hp_MwL, hp_LwL, hp_RwL, hp_KwL, hp_NwL, hp_nwL, hp_zwL, hp_owL, hp_awL, hp_kwL, hp_gwL, hp_w2M, hp_w2R, hp_w2L, wd_o hw' ha, wd_k hw' ha, wd_q hw' ha, wd_g0 hw' ha, wd_s0 hw' ha, wd_N1 hw' ha, wd_K1 hw' ha, wd_a1 hw' ha, wd_g1 hw' ha, wd_s1 hw' ha, wd_N2 hw' ha, wd_a2 hw' ha, wd_g2 hw' ha, wd_s2 hw' ha, wd_N3 hw' ha, wd_a3 hw' ha, wd_g3 hw' ha, wd_s3 hw' ha, wd_N4 hw' ha, wd_a4 hw' ha, wd_g4 hw' ha, wd_s4 hw' ha, wd_N5 hw' ha, wd_a5 hw' ha, wd_g5 hw' ha, wd_s5 hw' ha, wd_N6 hw' ha, wd_a6 hw' ha, wd_g6 hw' ha, wd_s6 hw' ha, wd_N7 hw' ha, wd_a7 hw' ha, wd_g7 hw' ha, wd_s7 hw' ha, wd_N8 hw' ha, wd_a8 hw' ha, wd_o hw' hb, wd_k hw' hb, wd_q hw' hb, wd_g0 hw' hb, wd_s0 hw' hb, wd_N1 hw' hb, wd_K1 hw' hb, wd_a1 hw' hb, wd_g1 hw' hb, wd_s1 hw' hb, wd_N2 hw' hb, wd_a2 hw' hb, wd_g2 hw' hb, wd_s2 hw' hb, wd_N3 hw' hb, wd_a3 hw' hb, wd_g3 hw' hb, wd_s3 hw' hb, wd_N4 hw' hb, wd_a4 hw' hb, wd_g4 hw' hb, wd_s4 hw' hb, wd_N5 hw' hb, wd_a5 hw' hb, wd_g5 hw' hb, wd_s5 hw' hb, wd_N6 hw' hb, wd_a6 hw' hb, wd_g6 hw' hb, wd_s6 hw' hb, wd_N7 hw' hb, wd_a7 hw' hb, wd_g7 hw' hb, wd_s7 hw' hb, wd_N8 hw' hb, wd_a8 hw' hb, hcp6, hcp12, hcp18, nI_clamp, Nat.reducePow, Nat.reduceLT]
  rw [b7_113]
  any_goals (simp only [hp_MuM, hp_LuL, hp_RuR, hp_McpM, hp_LcpL, hp_LuM, hp_RuM, hp_KuM, hp_NuM, hp_nuM, hp_zuM, hp_ouM, hp_auM, hp_kuM, hp_guM, hp_MuL, hp_RuL, hp_KuL, hp_NuL, hp_nuL, hp_zuL, hp_ouL, hp_auL, hp_kuL, hp_guL, hp_MuR, hp_LuR, hp_KuR, hp_NuR, hp_nuR, hp_zuR, hp_ouR, hp_auR, hp_kuR, hp_LcpM, hp_RcpM, hp_KcpM, hp_NcpM, hp_ncpM, hp_zcpM, hp_ocpM, hp_acpM, hp_kcpM, hp_gcpM, hp_McpL, hp_RcpL, hp_KcpL, hp_NcpL, hp_ncpL, hp_zcpL, hp_ocpL, hp_acpL, hp_kcpL, hp_gcpL, hp_MwM, hp_LwM, hp_RwM, hp_KwM, hp_NwM, hp_nwM, hp_zwM, hp_owM, hp_awM, hp_kwM, hp_gwM, hp_MwR, hp_LwR, hp_RwR, hp_KwR, hp_NwR, hp_nwR, hp_zwR, hp_owR, hp_awR, hp_kwR, hp_MwL, hp_LwL, hp_RwL, hp_KwL, hp_NwL, hp_nwL, hp_zwL, hp_owL, hp_awL, hp_kwL, hp_gwL, hp_w2M, hp_w2R, hp_w2L, wd_o hw' ha, wd_k hw' ha, wd_q hw' ha, wd_g0 hw' ha, wd_s0 hw' ha, wd_N1 hw' ha, wd_K1 hw' ha, wd_a1 hw' ha, wd_g1 hw' ha, wd_s1 hw' ha, wd_N2 hw' ha, wd_a2 hw' ha, wd_g2 hw' ha, wd_s2 hw' ha, wd_N3 hw' ha, wd_a3 hw' ha, wd_g3 hw' ha, wd_s3 hw' ha, wd_N4 hw' ha, wd_a4 hw' ha, wd_g4 hw' ha, wd_s4 hw' ha, wd_N5 hw' ha, wd_a5 hw' ha, wd_g5 hw' ha, wd_s5 hw' ha, wd_N6 hw' ha, wd_a6 hw' ha, wd_g6 hw' ha, wd_s6 hw' ha, wd_N7 hw' ha, wd_a7 hw' ha, wd_g7 hw' ha, wd_s7 hw' ha, wd_N8 hw' ha, wd_a8 hw' ha, wd_o hw' hb, wd_k hw' hb, wd_q hw' hb, wd_g0 hw' hb, wd_s0 hw' hb, wd_N1 hw' hb, wd_K1 hw' hb, wd_a1 hw' hb, wd_g1 hw' hb, wd_s1 hw' hb, wd_N2 hw' hb, wd_a2 hw' hb, wd_g2 hw' hb, wd_s2 hw' hb, wd_N3 hw' hb, wd_a3 hw' hb, wd_g3 hw' hb, wd_s3 hw' hb, wd_N4 hw' hb, wd_a4 hw' hb, wd_g4 hw' hb, wd_s4 hw' hb, wd_N5 hw' hb, wd_a5 hw' hb, wd_g5 hw' hb, wd_s5 hw' hb, wd_N6 hw' hb, wd_a6 hw' hb, wd_g6 hw' hb, wd_s6 hw' hb, wd_N7 hw' hb, wd_a7 hw' hb, wd_g7 hw' hb, wd_s7 hw' hb, wd_N8 hw' hb, wd_a8 hw' hb, hS1, hS2, hsn, hcp6, hcp12, hcp18]; done)
  simp only [b7_26, b7_53, b7_68, b7_83, b7_98, b7_113, b7_126, b7_134, b7_142, b7_150, b7_158, b7_166, b7_174, b7_182, b7_190, e7, hp_MuM, hp_LuL, hp_RuR, hp_McpM, hp_LcpL, hp_LuM, hp_RuM, hp_KuM, hp_NuM, hp_nuM, hp_zuM, hp_ouM, hp_auM, hp_kuM, hp_guM, hp_MuL, hp_RuL, hp_KuL, hp_NuL, hp_nuL, hp_zuL, hp_ouL, hp_auL, hp_kuL, hp_guL, hp_MuR, hp_LuR, hp_KuR, hp_NuR, hp_nuR, hp_zuR, hp_ouR, hp_auR, hp_kuR, hp_LcpM, hp_RcpM, hp_KcpM, hp_NcpM, hp_ncpM, hp_zcpM, hp_ocpM, hp_acpM, hp_kcpM, hp_gcpM, hp_McpL, hp_RcpL, hp_KcpL, hp_NcpL, hp_ncpL, hp_zcpL, hp_ocpL, hp_acpL, hp_kcpL, hp_gcpL, hp_MwM, hp_LwM, hp_RwM, hp_KwM, hp_NwM, hp_nwM, hp_zwM, hp_owM, hp_awM, hp_kwM, hp_gwM, hp_MwR, hp_LwR, hp_RwR, hp_KwR, hp_NwR, hp_nwR, hp_zwR, hp_owR, hp_awR, hp_kwR, hp_MwL, hp_LwL, hp_RwL, hp_KwL, hp_NwL, hp_nwL, hp_zwL, hp_owL, hp_awL, hp_kwL, hp_gwL, hp_w2M, hp_w2R, hp_w2L, wd_o hw' ha, wd_k hw' ha, wd_q hw' ha, wd_g0 hw' ha, wd_s0 hw' ha, wd_N1 hw' ha, wd_K1 hw' ha, wd_a1 hw' ha, wd_g1 hw' ha, wd_s1 hw' ha, wd_N2 hw' ha, wd_a2 hw' ha, wd_g2 hw' ha, wd_s2 hw' ha, wd_N3 hw' ha, wd_a3 hw' ha, wd_g3 hw' ha, wd_s3 hw' ha, wd_N4 hw' ha, wd_a4 hw' ha, wd_g4 hw' ha, wd_s4 hw' ha, wd_N5 hw' ha, wd_a5 hw' ha, wd_g5 hw' ha, wd_s5 hw' ha, wd_N6 hw' ha, wd_a6 hw' ha, wd_g6 hw' ha, wd_s6 hw' ha, wd_N7 hw' ha, wd_a7 hw' ha, wd_g7 hw' ha, wd_s7 hw' ha, wd_N8 hw' ha, wd_a8 hw' ha, wd_o hw' hb, wd_k hw' hb, wd_q hw' hb, wd_g0 hw' hb, wd_s0 hw' hb, wd_N1 hw' hb, wd_K1 hw' hb, wd_a1 hw' hb, wd_g1 hw' hb, wd_s1 hw' hb, wd_N2 hw' hb, wd_a2 hw' hb, wd_g2 hw' hb, wd_s2 hw' hb, wd_N3 hw' hb, wd_a3 hw' hb, wd_g3 hw' hb, wd_s3 hw' hb, wd_N4 hw' hb, wd_a4 hw' hb, wd_g4 hw' hb, wd_s4 hw' hb, wd_N5 hw' hb, wd_a5 hw' hb, wd_g5 hw' hb, wd_s5 hw' hb, wd_N6 hw' hb, wd_a6 hw' hb, wd_g6 hw' hb, wd_s6 hw' hb, wd_N7 hw' hb, wd_a7 hw' hb, wd_g7 hw' hb, wd_s7 hw' hb, wd_N8 hw' hb, wd_a8 hw' hb, hS1, hS2, hsn, hcp6, hcp12, hcp18, nI_clamp, Nat.reducePow, Nat.reduceLT]
  congr 2
  refine st_ext (fun c j => ?_) (fun _ _ => rfl) (fun c j => ?_) (fun _ => rfl) (fun _ => rfl) rfl rfl
  · have hN : ∀ i, 2 ≤ i → i ≤ 7 → mm_N S (a + i) = if i = 3 then 18 else if i = 7 then 12 else 6 := by
      intro i h1 h2
      have e : i = 2 ∨ i = 3 ∨ i = 4 ∨ i = 5 ∨ i = 6 ∨ i = 7 := by omega
      rcases e with rfl | rfl | rfl | rfl | rfl | rfl
      · exact wd_N2 hw ha
      · exact wd_N3 hw ha
      · exact wd_N4 hw ha
      · exact wd_N5 hw ha
      · exact wd_N6 hw ha
      · exact wd_N7 hw ha
    have hba : ∀ x y, x ≤ 8 → y ≤ 8 → (b + x = a + y) = False := fun x y hx hy => eq_false (by unfold mm_dy at ha hb; omega)
    have hb0 : ∀ y, y ≤ 8 → (b = a + y) = False := fun y hy => eq_false (by unfold mm_dy at ha hb; omega)
    have ha0 : ∀ x, x ≤ 8 → (b + x = a) = False := fun x hx => eq_false (by unfold mm_dy at ha hb; omega)
    have hb1 : (b = a) = False := eq_false (fun h => hab h.symm)
    have hR : ∀ c j, mm_M (mm_cR S a b 6) c j = mm_M S c j := fun _ _ => rfl
    show _ = (if c = a ∧ 9 ≤ j ∧ j ≤ 17 then mm_M S b j else if a + 2 ≤ c ∧ c ≤ a + 7 ∧ j < mm_N S c then mm_M S (b + (c - a)) j else mm_M S c j)
    simp +decide only [hp_MuM, hp_LuL, hp_RuR, hp_McpM, hp_LcpL, hp_LuM, hp_RuM, hp_KuM, hp_NuM, hp_nuM, hp_zuM, hp_ouM, hp_auM, hp_kuM, hp_guM, hp_MuL, hp_RuL, hp_KuL, hp_NuL, hp_nuL, hp_zuL, hp_ouL, hp_auL, hp_kuL, hp_guL, hp_MuR, hp_LuR, hp_KuR, hp_NuR, hp_nuR, hp_zuR, hp_ouR, hp_auR, hp_kuR, hp_LcpM, hp_RcpM, hp_KcpM, hp_NcpM, hp_ncpM, hp_zcpM, hp_ocpM, hp_acpM, hp_kcpM, hp_gcpM, hp_McpL, hp_RcpL, hp_KcpL, hp_NcpL, hp_ncpL, hp_zcpL, hp_ocpL, hp_acpL, hp_kcpL, hp_gcpL, hp_MwM, hp_LwM, hp_RwM, hp_KwM, hp_NwM, hp_nwM, hp_zwM, hp_owM, hp_awM, hp_kwM, hp_gwM, hp_MwR, hp_LwR, hp_RwR, hp_KwR, hp_NwR, hp_nwR, hp_zwR, hp_owR, hp_awR, hp_kwR, hp_MwL, hp_LwL, hp_RwL, hp_KwL, hp_NwL, hp_nwL, hp_zwL, hp_owL, hp_awL, hp_kwL, hp_gwL, hp_w2M, hp_w2R, hp_w2L, hba, hb0, ha0, hb1, hR, Nat.reduceEqDiff, Nat.reduceLeDiff, false_and, if_false, Nat.zero_add, Nat.sub_zero, Nat.zero_le, true_and]
    have hs0 : ∀ y, 0 < y → (a + y = a) = False := fun y hy => eq_false (by omega)
    have hs1 : ∀ y, 0 < y → (a = a + y) = False := fun y hy => eq_false (by omega)
    have hs2 : ∀ x, (a + x ≤ a + 7) = (x ≤ 7) := fun x => propext (by omega)
    have hs3 : ∀ x, (a + 2 ≤ a + x) = (2 ≤ x) := fun x => propext (by omega)
    have hs4 : (a + 2 ≤ a) = False := eq_false (by omega)
    rcases (by omega : c = a ∨ c = a + 2 ∨ c = a + 3 ∨ c = a + 4 ∨ c = a + 5 ∨ c = a + 6 ∨ c = a + 7 ∨ (c ≠ a ∧ ¬ (a + 2 ≤ c ∧ c ≤ a + 7))) with h | h | h | h | h | h | h | h
    · subst h
      by_cases h2 : 9 ≤ j ∧ j ≤ 17
      · rw [if_pos (⟨rfl, h2⟩ : c = c ∧ 9 ≤ j ∧ j ≤ 17)]
        rcases (by omega : j = 9 ∨ j = 10 ∨ j = 11 ∨ j = 12 ∨ j = 13 ∨ j = 14 ∨ j = 15 ∨ j = 16 ∨ j = 17) with rfl | rfl | rfl | rfl | rfl | rfl | rfl | rfl | rfl <;> simp +decide only [true_and, if_true, if_false]
      · have h3 : ∀ k, 9 ≤ k → k ≤ 17 → (j = k) = False := fun k a b => eq_false (by omega)
        simp +decide only [h2, h3, hs1, hs4, and_false, false_and, if_false, Nat.reduceLeDiff, Nat.reduceLT, true_and]
    rotate_right 1
    · have h3 : ∀ x, 2 ≤ x → x ≤ 7 → (c = a + x) = False := fun x h1 h2 => eq_false (by omega)
      have h4 : (a + 2 ≤ c ∧ c ≤ a + 7 ∧ j < mm_N S c) = False := eq_false (by omega)
      simp +decide only [h.1, h3, h4, false_and, if_false, Nat.reduceLeDiff]
    all_goals (subst h; simp +decide only [hN, hs0, hs1, hs2, hs3, Nat.reduceEqDiff, false_and, true_and, if_false, if_true, Nat.add_sub_cancel_left, Nat.reduceLeDiff, Nat.reduceLT])
  · show _ = (if c = a ∧ j = 8 then mm_R S b 8 else if c = a + 1 ∧ j < 6 then mm_R S (b + 1) j else mm_R S c j)
    have hR : ∀ c j, mm_R (mm_cR S a b 6) c j = if c = a + 1 ∧ j < 6 then mm_R S (b + 1) j else mm_R S c j := fun _ _ => rfl
    simp only [hp_MuM, hp_LuL, hp_RuR, hp_McpM, hp_LcpL, hp_LuM, hp_RuM, hp_KuM, hp_NuM, hp_nuM, hp_zuM, hp_ouM, hp_auM, hp_kuM, hp_guM, hp_MuL, hp_RuL, hp_KuL, hp_NuL, hp_nuL, hp_zuL, hp_ouL, hp_auL, hp_kuL, hp_guL, hp_MuR, hp_LuR, hp_KuR, hp_NuR, hp_nuR, hp_zuR, hp_ouR, hp_auR, hp_kuR, hp_LcpM, hp_RcpM, hp_KcpM, hp_NcpM, hp_ncpM, hp_zcpM, hp_ocpM, hp_acpM, hp_kcpM, hp_gcpM, hp_McpL, hp_RcpL, hp_KcpL, hp_NcpL, hp_ncpL, hp_zcpL, hp_ocpL, hp_acpL, hp_kcpL, hp_gcpL, hp_MwM, hp_LwM, hp_RwM, hp_KwM, hp_NwM, hp_nwM, hp_zwM, hp_owM, hp_awM, hp_kwM, hp_gwM, hp_MwR, hp_LwR, hp_RwR, hp_KwR, hp_NwR, hp_nwR, hp_zwR, hp_owR, hp_awR, hp_kwR, hp_MwL, hp_LwL, hp_RwL, hp_KwL, hp_NwL, hp_nwL, hp_zwL, hp_owL, hp_awL, hp_kwL, hp_gwL, hp_w2M, hp_w2R, hp_w2L, hR, hS]
end DAY
end
section
/-! ===== three rows copied at once; keeps and lays ===== -/
def mm_c3 (S : mm_S) (a1 b1 a2 b2 a3 b3 i : Nat) : mm_S := mm_wM S (fun c j => if j < i then (if c = a3 then mm_M S b3 j else if c = a2 then mm_M S b2 j else if c = a1 then mm_M S b1 j else mm_M S c j) else mm_M S c j)
section C3
variable {S : mm_S} {a1 b1 a2 b2 a3 b3 i c j f d : Nat}
theorem hq_M : mm_M (mm_c3 S a1 b1 a2 b2 a3 b3 i) c j = if j < i then (if c = a3 then mm_M S b3 j else if c = a2 then mm_M S b2 j else if c = a1 then mm_M S b1 j else mm_M S c j) else mm_M S c j := id rfl
theorem hq_L : mm_L (mm_c3 S a1 b1 a2 b2 a3 b3 i) = mm_L S := id rfl
theorem hq_R : mm_R (mm_c3 S a1 b1 a2 b2 a3 b3 i) = mm_R S := id rfl
theorem hq_K : mm_K (mm_c3 S a1 b1 a2 b2 a3 b3 i) = mm_K S := id rfl
theorem hq_N : mm_N (mm_c3 S a1 b1 a2 b2 a3 b3 i) = mm_N S := id rfl
theorem hq_n : mm_n (mm_c3 S a1 b1 a2 b2 a3 b3 i) = mm_n S := id rfl
theorem hq_z : mm_z (mm_c3 S a1 b1 a2 b2 a3 b3 i) = mm_z S := id rfl
theorem hq_o : mm_obj (mm_c3 S a1 b1 a2 b2 a3 b3 i) c f = mm_obj S c f := id rfl
theorem hq_a : mm_arr (mm_c3 S a1 b1 a2 b2 a3 b3 i) c f = mm_arr S c f := id rfl
theorem hq_k : mm_rk (mm_c3 S a1 b1 a2 b2 a3 b3 i) c = mm_rk S c := id rfl
theorem hq_g : mm_rg (mm_c3 S a1 b1 a2 b2 a3 b3 i) c j = mm_rg S c j := id rfl
theorem hq_W : mm_W (mm_c3 S a1 b1 a2 b2 a3 b3 i) = mm_W S := id rfl
theorem c3_0 : mm_c3 S a1 b1 a2 b2 a3 b3 0 = S := st_ext (fun c j => by rw [hq_M, if_neg (Nat.not_lt_zero j)]) (fun _ _ => rfl) (fun _ _ => rfl) (fun _ => rfl) (fun _ => rfl) rfl rfl
theorem c3_step : mm_uM (mm_uM (mm_uM (mm_c3 S a1 b1 a2 b2 a3 b3 i) a1 i (mm_M S b1 i)) a2 i (mm_M S b2 i)) a3 i (mm_M S b3 i) = mm_c3 S a1 b1 a2 b2 a3 b3 (i + 1) := by
  refine st_ext (fun c j => ?_) (fun _ _ => rfl) (fun _ _ => rfl) (fun _ => rfl) (fun _ => rfl) rfl rfl
  rw [hp_MuM, hp_MuM, hp_MuM, hq_M, hq_M]
  by_cases h : j = i
  · subst h
    rw [if_pos (Nat.lt_succ_self j), if_neg (Nat.lt_irrefl j)]
    simp only [and_true]
  · have e : (j < i + 1) = (j < i) := propext (by omega)
    simp only [h, and_false, if_false, e]
theorem l171 (hw : mm_W S) : ∀ k i : Nat, i + k = 6 → mm_ex d 171 2 [.ref 92, .int (nI i)] [] (mm_c3 S 118 100 119 97 120 98 i) = mm_ex d 171 50 [.ref 92, .int (nI 6)] [] (mm_c3 S 118 100 119 97 120 98 6) := by
  intro k
  induction k with
  | zero =>
    intro i hi
    have e : i = 6 := by omega
    subst e
    rw [b171_2, if_pos (by decide)]
  | succ k ih =>
    intro i hi
    have hi6 : i < 6 := by omega
    have hib := hp_inb hi6 (by omega)
    have hcl := nI_clamp (n := i) (by omega)
    rw [b171_2, if_neg (nI_ge hi6 (by decide)), ← ih (i + 1) (by omega), ← c3_step]
    simp +decide only [b171_8, b171_30, b171_42, e171, hp_MuM, hp_LuL, hp_RuR, hp_McpM, hp_LcpL, hp_LuM, hp_RuM, hp_KuM, hp_NuM, hp_nuM, hp_zuM, hp_ouM, hp_auM, hp_kuM, hp_guM, hp_MuL, hp_RuL, hp_KuL, hp_NuL, hp_nuL, hp_zuL, hp_ouL, hp_auL, hp_kuL, hp_guL, hp_MuR, hp_LuR, hp_KuR, hp_NuR, hp_nuR, hp_zuR, hp_ouR, hp_auR, hp_kuR, hp_LcpM, hp_RcpM, hp_KcpM, hp_NcpM, hp_ncpM, hp_zcpM, hp_ocpM, hp_acpM, hp_kcpM, hp_gcpM, hp_McpL, hp_RcpL, hp_KcpL, hp_NcpL, hp_ncpL, hp_zcpL, hp_ocpL, hp_acpL, hp_kcpL, hp_gcpL, hp_MwM, hp_LwM, hp_RwM, hp_KwM, hp_NwM, hp_nwM, hp_zwM, hp_owM, hp_awM, hp_kwM, hp_gwM, hp_MwR, hp_LwR, hp_RwR, hp_KwR, hp_NwR, hp_nwR, hp_zwR, hp_owR, hp_awR, hp_kwR, hp_MwL, hp_LwL, hp_RwL, hp_KwL, hp_NwL, hp_nwL, hp_zwL, hp_owL, hp_awL, hp_kwL, hp_gwL, hp_w2M, hp_w2R, hp_w2L, wf_o0 hw, wf_k0 hw, wf_q0 hw, wf_g0_0 hw, wf_s0_0 hw, wf_g0_1 hw, wf_s0_1 hw, wf_g0_2 hw, wf_s0_2 hw, wf_g0_3 hw, wf_s0_3 hw, wf_g0_4 hw, wf_s0_4 hw, wf_N42 hw, wf_a42 hw, wf_g0_5 hw, wf_s0_5 hw, wf_g0_6 hw, wf_s0_6 hw, wf_N75 hw, wf_a75 hw, wf_g0_7 hw, wf_s0_7 hw, wf_N88 hw, wf_a88 hw, wf_g0_8 hw, wf_s0_8 hw, wf_N89 hw, wf_a89 hw, wf_g0_9 hw, wf_s0_9 hw, wf_N90 hw, wf_a90 hw, wf_g0_10 hw, wf_s0_10 hw, wf_N91 hw, wf_a91 hw, wf_o73 hw, wf_k73 hw, wf_q73 hw, wf_g73_1 hw, wf_s73_1 hw, wf_N74 hw, wf_a74 hw, wf_o92 hw, wf_k92 hw, wf_q92 hw, wf_g92_1 hw, wf_s92_1 hw, wf_N93 hw, wf_a93 hw, wf_g92_2 hw, wf_s92_2 hw, wf_N94 hw, wf_a94 hw, wf_g92_3 hw, wf_s92_3 hw, wf_N95 hw, wf_a95 hw, wf_g92_4 hw, wf_s92_4 hw, wf_N96 hw, wf_a96 hw, wf_g92_5 hw, wf_s92_5 hw, wf_N97 hw, wf_a97 hw, wf_g92_6 hw, wf_s92_6 hw, wf_N98 hw, wf_a98 hw, wf_g92_7 hw, wf_s92_7 hw, wf_N99 hw, wf_a99 hw, wf_g92_9 hw, wf_s92_9 hw, wf_N100 hw, wf_a100 hw, wf_g92_16 hw, wf_s92_16 hw, wf_N101 hw, wf_a101 hw, wf_g92_19 hw, wf_s92_19 hw, wf_N102 hw, wf_a102 hw, wf_g92_20 hw, wf_s92_20 hw, wf_N103 hw, wf_a103 hw, wf_g92_21 hw, wf_s92_21 hw, wf_N104 hw, wf_a104 hw, wf_g92_22 hw, wf_s92_22 hw, wf_N105 hw, wf_a105 hw, wf_g92_23 hw, wf_s92_23 hw, wf_N106 hw, wf_a106 hw, wf_g92_24 hw, wf_s92_24 hw, wf_N107 hw, wf_a107 hw, wf_g92_25 hw, wf_s92_25 hw, wf_N108 hw, wf_a108 hw, wf_g92_29 hw, wf_s92_29 hw, wf_N109 hw, wf_a109 hw, wf_g92_30 hw, wf_s92_30 hw, wf_N110 hw, wf_a110 hw, wf_g92_31 hw, wf_s92_31 hw, wf_N111 hw, wf_a111 hw, wf_g92_32 hw, wf_s92_32 hw, wf_N112 hw, wf_a112 hw, wf_g92_33 hw, wf_s92_33 hw, wf_N113 hw, wf_a113 hw, wf_g92_34 hw, wf_s92_34 hw, wf_N114 hw, wf_a114 hw, wf_g92_35 hw, wf_s92_35 hw, wf_N115 hw, wf_a115 hw, wf_g92_38 hw, wf_s92_38 hw, wf_N116 hw, wf_a116 hw, wf_g92_41 hw, wf_s92_41 hw, wf_N117 hw, wf_a117 hw, wf_g92_44 hw, wf_s92_44 hw, wf_N118 hw, wf_a118 hw, wf_g92_45 hw, wf_s92_45 hw, wf_N119 hw, wf_a119 hw, wf_g92_46 hw, wf_s92_46 hw, wf_N120 hw, wf_a120 hw, wf_g92_52 hw, wf_s92_52 hw, wf_N121 hw, wf_a121 hw, wf_g92_55 hw, wf_s92_55 hw, wf_N122 hw, wf_a122 hw, wf_g92_56 hw, wf_s92_56 hw, wf_N123 hw, wf_a123 hw, wf_g92_57 hw, wf_s92_57 hw, wf_N124 hw, wf_a124 hw, wf_g92_58 hw, wf_s92_58 hw, wf_N125 hw, wf_a125 hw, wf_g92_64 hw, wf_s92_64 hw, wf_N126 hw, wf_a126 hw, wf_g92_65 hw, wf_s92_65 hw, wf_N127 hw, wf_a127 hw, wf_g92_66 hw, wf_s92_66 hw, wf_N128 hw, wf_a128 hw, wf_g92_67 hw, wf_s92_67 hw, wf_N129 hw, wf_a129 hw, wf_g92_68 hw, wf_s92_68 hw, wf_N130 hw, wf_a130 hw, wf_g92_69 hw, wf_s92_69 hw, wf_N131 hw, wf_a131 hw, wf_g92_70 hw, wf_s92_70 hw, wf_N132 hw, wf_a132 hw, wf_g92_71 hw, wf_s92_71 hw, wf_N133 hw, wf_a133 hw, wf_g92_72 hw, wf_s92_72 hw, wf_N134 hw, wf_a134 hw, wf_g92_73 hw, wf_s92_73 hw, wf_N135 hw, wf_a135 hw, wf_g92_75 hw, wf_s92_75 hw, wf_N136 hw, wf_a136 hw, hq_M, hq_R, hq_N, hq_o, hq_a, hq_g, hib, hcl, List.not_mem_nil, false_implies, implies_true, nI_clamp, nI_add, Nat.reducePow, hp_bd, hp_bdi, hp_ts, hp_tn, hp_tsc, hp_tnc, Nat.reduceAdd, Nat.reduceSub, Nat.reduceMul, Nat.reduceLT, Nat.reduceLeDiff, Nat.reduceEqDiff, reduceIte, not_true_eq_false, not_false_eq_true, and_true, true_and, and_self, and_false, false_and, or_true, true_or, or_false, false_or, decide_true, decide_false, Bool.and_true, Bool.true_and, Bool.not_false, Bool.or_false, Bool.false_or, Bool.or_true, Bool.true_or, Nat.lt_irrefl, if_false]
theorem l172 (hw : mm_W S) : ∀ k i : Nat, i + k = 6 → mm_ex d 172 2 [.ref 92, .int (nI i)] [] (mm_c3 S 100 118 97 119 98 120 i) = mm_ex d 172 50 [.ref 92, .int (nI 6)] [] (mm_c3 S 100 118 97 119 98 120 6) := by
  intro k
  induction k with
  | zero =>
    intro i hi
    have e : i = 6 := by omega
    subst e
    rw [b172_2, if_pos (by decide)]
  | succ k ih =>
    intro i hi
    have hi6 : i < 6 := by omega
    have hib := hp_inb hi6 (by omega)
    have hcl := nI_clamp (n := i) (by omega)
    rw [b172_2, if_neg (nI_ge hi6 (by decide)), ← ih (i + 1) (by omega), ← c3_step]
    simp +decide only [b172_8, b172_30, b172_42, e172, hp_MuM, hp_LuL, hp_RuR, hp_McpM, hp_LcpL, hp_LuM, hp_RuM, hp_KuM, hp_NuM, hp_nuM, hp_zuM, hp_ouM, hp_auM, hp_kuM, hp_guM, hp_MuL, hp_RuL, hp_KuL, hp_NuL, hp_nuL, hp_zuL, hp_ouL, hp_auL, hp_kuL, hp_guL, hp_MuR, hp_LuR, hp_KuR, hp_NuR, hp_nuR, hp_zuR, hp_ouR, hp_auR, hp_kuR, hp_LcpM, hp_RcpM, hp_KcpM, hp_NcpM, hp_ncpM, hp_zcpM, hp_ocpM, hp_acpM, hp_kcpM, hp_gcpM, hp_McpL, hp_RcpL, hp_KcpL, hp_NcpL, hp_ncpL, hp_zcpL, hp_ocpL, hp_acpL, hp_kcpL, hp_gcpL, hp_MwM, hp_LwM, hp_RwM, hp_KwM, hp_NwM, hp_nwM, hp_zwM, hp_owM, hp_awM, hp_kwM, hp_gwM, hp_MwR, hp_LwR, hp_RwR, hp_KwR, hp_NwR, hp_nwR, hp_zwR, hp_owR, hp_awR, hp_kwR, hp_MwL, hp_LwL, hp_RwL, hp_KwL, hp_NwL, hp_nwL, hp_zwL, hp_owL, hp_awL, hp_kwL, hp_gwL, hp_w2M, hp_w2R, hp_w2L, wf_o0 hw, wf_k0 hw, wf_q0 hw, wf_g0_0 hw, wf_s0_0 hw, wf_g0_1 hw, wf_s0_1 hw, wf_g0_2 hw, wf_s0_2 hw, wf_g0_3 hw, wf_s0_3 hw, wf_g0_4 hw, wf_s0_4 hw, wf_N42 hw, wf_a42 hw, wf_g0_5 hw, wf_s0_5 hw, wf_g0_6 hw, wf_s0_6 hw, wf_N75 hw, wf_a75 hw, wf_g0_7 hw, wf_s0_7 hw, wf_N88 hw, wf_a88 hw, wf_g0_8 hw, wf_s0_8 hw, wf_N89 hw, wf_a89 hw, wf_g0_9 hw, wf_s0_9 hw, wf_N90 hw, wf_a90 hw, wf_g0_10 hw, wf_s0_10 hw, wf_N91 hw, wf_a91 hw, wf_o73 hw, wf_k73 hw, wf_q73 hw, wf_g73_1 hw, wf_s73_1 hw, wf_N74 hw, wf_a74 hw, wf_o92 hw, wf_k92 hw, wf_q92 hw, wf_g92_1 hw, wf_s92_1 hw, wf_N93 hw, wf_a93 hw, wf_g92_2 hw, wf_s92_2 hw, wf_N94 hw, wf_a94 hw, wf_g92_3 hw, wf_s92_3 hw, wf_N95 hw, wf_a95 hw, wf_g92_4 hw, wf_s92_4 hw, wf_N96 hw, wf_a96 hw, wf_g92_5 hw, wf_s92_5 hw, wf_N97 hw, wf_a97 hw, wf_g92_6 hw, wf_s92_6 hw, wf_N98 hw, wf_a98 hw, wf_g92_7 hw, wf_s92_7 hw, wf_N99 hw, wf_a99 hw, wf_g92_9 hw, wf_s92_9 hw, wf_N100 hw, wf_a100 hw, wf_g92_16 hw, wf_s92_16 hw, wf_N101 hw, wf_a101 hw, wf_g92_19 hw, wf_s92_19 hw, wf_N102 hw, wf_a102 hw, wf_g92_20 hw, wf_s92_20 hw, wf_N103 hw, wf_a103 hw, wf_g92_21 hw, wf_s92_21 hw, wf_N104 hw, wf_a104 hw, wf_g92_22 hw, wf_s92_22 hw, wf_N105 hw, wf_a105 hw, wf_g92_23 hw, wf_s92_23 hw, wf_N106 hw, wf_a106 hw, wf_g92_24 hw, wf_s92_24 hw, wf_N107 hw, wf_a107 hw, wf_g92_25 hw, wf_s92_25 hw, wf_N108 hw, wf_a108 hw, wf_g92_29 hw, wf_s92_29 hw, wf_N109 hw, wf_a109 hw, wf_g92_30 hw, wf_s92_30 hw, wf_N110 hw, wf_a110 hw, wf_g92_31 hw, wf_s92_31 hw, wf_N111 hw, wf_a111 hw, wf_g92_32 hw, wf_s92_32 hw, wf_N112 hw, wf_a112 hw, wf_g92_33 hw, wf_s92_33 hw, wf_N113 hw, wf_a113 hw, wf_g92_34 hw, wf_s92_34 hw, wf_N114 hw, wf_a114 hw, wf_g92_35 hw, wf_s92_35 hw, wf_N115 hw, wf_a115 hw, wf_g92_38 hw, wf_s92_38 hw, wf_N116 hw, wf_a116 hw, wf_g92_41 hw, wf_s92_41 hw, wf_N117 hw, wf_a117 hw, wf_g92_44 hw, wf_s92_44 hw, wf_N118 hw, wf_a118 hw, wf_g92_45 hw, wf_s92_45 hw, wf_N119 hw, wf_a119 hw, wf_g92_46 hw, wf_s92_46 hw, wf_N120 hw, wf_a120 hw, wf_g92_52 hw, wf_s92_52 hw, wf_N121 hw, wf_a121 hw, wf_g92_55 hw, wf_s92_55 hw, wf_N122 hw, wf_a122 hw, wf_g92_56 hw, wf_s92_56 hw, wf_N123 hw, wf_a123 hw, wf_g92_57 hw, wf_s92_57 hw, wf_N124 hw, wf_a124 hw, wf_g92_58 hw, wf_s92_58 hw, wf_N125 hw, wf_a125 hw, wf_g92_64 hw, wf_s92_64 hw, wf_N126 hw, wf_a126 hw, wf_g92_65 hw, wf_s92_65 hw, wf_N127 hw, wf_a127 hw, wf_g92_66 hw, wf_s92_66 hw, wf_N128 hw, wf_a128 hw, wf_g92_67 hw, wf_s92_67 hw, wf_N129 hw, wf_a129 hw, wf_g92_68 hw, wf_s92_68 hw, wf_N130 hw, wf_a130 hw, wf_g92_69 hw, wf_s92_69 hw, wf_N131 hw, wf_a131 hw, wf_g92_70 hw, wf_s92_70 hw, wf_N132 hw, wf_a132 hw, wf_g92_71 hw, wf_s92_71 hw, wf_N133 hw, wf_a133 hw, wf_g92_72 hw, wf_s92_72 hw, wf_N134 hw, wf_a134 hw, wf_g92_73 hw, wf_s92_73 hw, wf_N135 hw, wf_a135 hw, wf_g92_75 hw, wf_s92_75 hw, wf_N136 hw, wf_a136 hw, hq_M, hq_R, hq_N, hq_o, hq_a, hq_g, hib, hcl, List.not_mem_nil, false_implies, implies_true, nI_clamp, nI_add, Nat.reducePow, hp_bd, hp_bdi, hp_ts, hp_tn, hp_tsc, hp_tnc, Nat.reduceAdd, Nat.reduceSub, Nat.reduceMul, Nat.reduceLT, Nat.reduceLeDiff, Nat.reduceEqDiff, reduceIte, not_true_eq_false, not_false_eq_true, and_true, true_and, and_self, and_false, false_and, or_true, true_or, or_false, false_or, decide_true, decide_false, Bool.and_true, Bool.true_and, Bool.not_false, Bool.or_false, Bool.false_or, Bool.or_true, Bool.true_or, Nat.lt_irrefl, if_false]
end C3
def mm_kp (S : mm_S) : mm_S := mm_uM (mm_uM (mm_uM (mm_uM (mm_uM (mm_uM (mm_uM (mm_c3 S 118 100 119 97 120 98 6) 92 47 (mm_M S 92 8)) 92 48 (mm_M S 92 10)) 92 49 (mm_M S 92 11)) 92 50 (mm_M S 92 12)) 92 51 (mm_M S 92 13)) 92 42 (nI 0)) 92 43 (nI 0)
def mm_ly (S : mm_S) : mm_S := mm_uM (mm_uM (mm_uM (mm_uM (mm_uM (mm_c3 S 100 118 97 119 98 120 6) 92 8 (mm_M S 92 47)) 92 10 (mm_M S 92 48)) 92 11 (mm_M S 92 49)) 92 12 (mm_M S 92 50)) 92 13 (mm_M S 92 51)
section KL
variable {S : mm_S} {c j f d : Nat}
theorem s171 (hw : mm_W S) : mm_cl d 171 [.ref 92] S = some (none, mm_kp S) := by
  have hl := l171 (d := d) hw 6 0 rfl
  rw [c3_0] at hl
  rw [e171, b171_0, hl]
  simp +decide only [b171_50, b171_60, b171_68, b171_76, b171_84, e171, hp_MuM, hp_LuL, hp_RuR, hp_McpM, hp_LcpL, hp_LuM, hp_RuM, hp_KuM, hp_NuM, hp_nuM, hp_zuM, hp_ouM, hp_auM, hp_kuM, hp_guM, hp_MuL, hp_RuL, hp_KuL, hp_NuL, hp_nuL, hp_zuL, hp_ouL, hp_auL, hp_kuL, hp_guL, hp_MuR, hp_LuR, hp_KuR, hp_NuR, hp_nuR, hp_zuR, hp_ouR, hp_auR, hp_kuR, hp_LcpM, hp_RcpM, hp_KcpM, hp_NcpM, hp_ncpM, hp_zcpM, hp_ocpM, hp_acpM, hp_kcpM, hp_gcpM, hp_McpL, hp_RcpL, hp_KcpL, hp_NcpL, hp_ncpL, hp_zcpL, hp_ocpL, hp_acpL, hp_kcpL, hp_gcpL, hp_MwM, hp_LwM, hp_RwM, hp_KwM, hp_NwM, hp_nwM, hp_zwM, hp_owM, hp_awM, hp_kwM, hp_gwM, hp_MwR, hp_LwR, hp_RwR, hp_KwR, hp_NwR, hp_nwR, hp_zwR, hp_owR, hp_awR, hp_kwR, hp_MwL, hp_LwL, hp_RwL, hp_KwL, hp_NwL, hp_nwL, hp_zwL, hp_owL, hp_awL, hp_kwL, hp_gwL, hp_w2M, hp_w2R, hp_w2L, wf_o0 hw, wf_k0 hw, wf_q0 hw, wf_g0_0 hw, wf_s0_0 hw, wf_g0_1 hw, wf_s0_1 hw, wf_g0_2 hw, wf_s0_2 hw, wf_g0_3 hw, wf_s0_3 hw, wf_g0_4 hw, wf_s0_4 hw, wf_N42 hw, wf_a42 hw, wf_g0_5 hw, wf_s0_5 hw, wf_g0_6 hw, wf_s0_6 hw, wf_N75 hw, wf_a75 hw, wf_g0_7 hw, wf_s0_7 hw, wf_N88 hw, wf_a88 hw, wf_g0_8 hw, wf_s0_8 hw, wf_N89 hw, wf_a89 hw, wf_g0_9 hw, wf_s0_9 hw, wf_N90 hw, wf_a90 hw, wf_g0_10 hw, wf_s0_10 hw, wf_N91 hw, wf_a91 hw, wf_o73 hw, wf_k73 hw, wf_q73 hw, wf_g73_1 hw, wf_s73_1 hw, wf_N74 hw, wf_a74 hw, wf_o92 hw, wf_k92 hw, wf_q92 hw, wf_g92_1 hw, wf_s92_1 hw, wf_N93 hw, wf_a93 hw, wf_g92_2 hw, wf_s92_2 hw, wf_N94 hw, wf_a94 hw, wf_g92_3 hw, wf_s92_3 hw, wf_N95 hw, wf_a95 hw, wf_g92_4 hw, wf_s92_4 hw, wf_N96 hw, wf_a96 hw, wf_g92_5 hw, wf_s92_5 hw, wf_N97 hw, wf_a97 hw, wf_g92_6 hw, wf_s92_6 hw, wf_N98 hw, wf_a98 hw, wf_g92_7 hw, wf_s92_7 hw, wf_N99 hw, wf_a99 hw, wf_g92_9 hw, wf_s92_9 hw, wf_N100 hw, wf_a100 hw, wf_g92_16 hw, wf_s92_16 hw, wf_N101 hw, wf_a101 hw, wf_g92_19 hw, wf_s92_19 hw, wf_N102 hw, wf_a102 hw, wf_g92_20 hw, wf_s92_20 hw, wf_N103 hw, wf_a103 hw, wf_g92_21 hw, wf_s92_21 hw, wf_N104 hw, wf_a104 hw, wf_g92_22 hw, wf_s92_22 hw, wf_N105 hw, wf_a105 hw, wf_g92_23 hw, wf_s92_23 hw, wf_N106 hw, wf_a106 hw, wf_g92_24 hw, wf_s92_24 hw, wf_N107 hw, wf_a107 hw, wf_g92_25 hw, wf_s92_25 hw, wf_N108 hw, wf_a108 hw, wf_g92_29 hw, wf_s92_29 hw, wf_N109 hw, wf_a109 hw, wf_g92_30 hw, wf_s92_30 hw, wf_N110 hw, wf_a110 hw, wf_g92_31 hw, wf_s92_31 hw, wf_N111 hw, wf_a111 hw, wf_g92_32 hw, wf_s92_32 hw, wf_N112 hw, wf_a112 hw, wf_g92_33 hw, wf_s92_33 hw, wf_N113 hw, wf_a113 hw, wf_g92_34 hw, wf_s92_34 hw, wf_N114 hw, wf_a114 hw, wf_g92_35 hw, wf_s92_35 hw, wf_N115 hw, wf_a115 hw, wf_g92_38 hw, wf_s92_38 hw, wf_N116 hw, wf_a116 hw, wf_g92_41 hw, wf_s92_41 hw, wf_N117 hw, wf_a117 hw, wf_g92_44 hw, wf_s92_44 hw, wf_N118 hw, wf_a118 hw, wf_g92_45 hw, wf_s92_45 hw, wf_N119 hw, wf_a119 hw, wf_g92_46 hw, wf_s92_46 hw, wf_N120 hw, wf_a120 hw, wf_g92_52 hw, wf_s92_52 hw, wf_N121 hw, wf_a121 hw, wf_g92_55 hw, wf_s92_55 hw, wf_N122 hw, wf_a122 hw, wf_g92_56 hw, wf_s92_56 hw, wf_N123 hw, wf_a123 hw, wf_g92_57 hw, wf_s92_57 hw, wf_N124 hw, wf_a124 hw, wf_g92_58 hw, wf_s92_58 hw, wf_N125 hw, wf_a125 hw, wf_g92_64 hw, wf_s92_64 hw, wf_N126 hw, wf_a126 hw, wf_g92_65 hw, wf_s92_65 hw, wf_N127 hw, wf_a127 hw, wf_g92_66 hw, wf_s92_66 hw, wf_N128 hw, wf_a128 hw, wf_g92_67 hw, wf_s92_67 hw, wf_N129 hw, wf_a129 hw, wf_g92_68 hw, wf_s92_68 hw, wf_N130 hw, wf_a130 hw, wf_g92_69 hw, wf_s92_69 hw, wf_N131 hw, wf_a131 hw, wf_g92_70 hw, wf_s92_70 hw, wf_N132 hw, wf_a132 hw, wf_g92_71 hw, wf_s92_71 hw, wf_N133 hw, wf_a133 hw, wf_g92_72 hw, wf_s92_72 hw, wf_N134 hw, wf_a134 hw, wf_g92_73 hw, wf_s92_73 hw, wf_N135 hw, wf_a135 hw, wf_g92_75 hw, wf_s92_75 hw, wf_N136 hw, wf_a136 hw, hq_M, hq_R, hq_N, hq_o, hq_a, hq_g, List.not_mem_nil, false_implies, implies_true, nI_clamp, nI_add, Nat.reducePow, hp_bd, hp_bdi, hp_ts, hp_tn, hp_tsc, hp_tnc, Nat.reduceAdd, Nat.reduceSub, Nat.reduceMul, Nat.reduceLT, Nat.reduceLeDiff, Nat.reduceEqDiff, reduceIte, not_true_eq_false, not_false_eq_true, and_true, true_and, and_self, and_false, false_and, or_true, true_or, or_false, false_or, decide_true, decide_false, Bool.and_true, Bool.true_and, Bool.not_false, Bool.or_false, Bool.false_or, Bool.or_true, Bool.true_or]
  rfl
theorem s172 (hw : mm_W S) : mm_cl d 172 [.ref 92] S = some (none, mm_ly S) := by
  have hl := l172 (d := d) hw 6 0 rfl
  rw [c3_0] at hl
  rw [e172, b172_0, hl]
  simp +decide only [b172_50, b172_60, b172_68, b172_76, b172_84, e172, hp_MuM, hp_LuL, hp_RuR, hp_McpM, hp_LcpL, hp_LuM, hp_RuM, hp_KuM, hp_NuM, hp_nuM, hp_zuM, hp_ouM, hp_auM, hp_kuM, hp_guM, hp_MuL, hp_RuL, hp_KuL, hp_NuL, hp_nuL, hp_zuL, hp_ouL, hp_auL, hp_kuL, hp_guL, hp_MuR, hp_LuR, hp_KuR, hp_NuR, hp_nuR, hp_zuR, hp_ouR, hp_auR, hp_kuR, hp_LcpM, hp_RcpM, hp_KcpM, hp_NcpM, hp_ncpM, hp_zcpM, hp_ocpM, hp_acpM, hp_kcpM, hp_gcpM, hp_McpL, hp_RcpL, hp_KcpL, hp_NcpL, hp_ncpL, hp_zcpL, hp_ocpL, hp_acpL, hp_kcpL, hp_gcpL, hp_MwM, hp_LwM, hp_RwM, hp_KwM, hp_NwM, hp_nwM, hp_zwM, hp_owM, hp_awM, hp_kwM, hp_gwM, hp_MwR, hp_LwR, hp_RwR, hp_KwR, hp_NwR, hp_nwR, hp_zwR, hp_owR, hp_awR, hp_kwR, hp_MwL, hp_LwL, hp_RwL, hp_KwL, hp_NwL, hp_nwL, hp_zwL, hp_owL, hp_awL, hp_kwL, hp_gwL, hp_w2M, hp_w2R, hp_w2L, wf_o0 hw, wf_k0 hw, wf_q0 hw, wf_g0_0 hw, wf_s0_0 hw, wf_g0_1 hw, wf_s0_1 hw, wf_g0_2 hw, wf_s0_2 hw, wf_g0_3 hw, wf_s0_3 hw, wf_g0_4 hw, wf_s0_4 hw, wf_N42 hw, wf_a42 hw, wf_g0_5 hw, wf_s0_5 hw, wf_g0_6 hw, wf_s0_6 hw, wf_N75 hw, wf_a75 hw, wf_g0_7 hw, wf_s0_7 hw, wf_N88 hw, wf_a88 hw, wf_g0_8 hw, wf_s0_8 hw, wf_N89 hw, wf_a89 hw, wf_g0_9 hw, wf_s0_9 hw, wf_N90 hw, wf_a90 hw, wf_g0_10 hw, wf_s0_10 hw, wf_N91 hw, wf_a91 hw, wf_o73 hw, wf_k73 hw, wf_q73 hw, wf_g73_1 hw, wf_s73_1 hw, wf_N74 hw, wf_a74 hw, wf_o92 hw, wf_k92 hw, wf_q92 hw, wf_g92_1 hw, wf_s92_1 hw, wf_N93 hw, wf_a93 hw, wf_g92_2 hw, wf_s92_2 hw, wf_N94 hw, wf_a94 hw, wf_g92_3 hw, wf_s92_3 hw, wf_N95 hw, wf_a95 hw, wf_g92_4 hw, wf_s92_4 hw, wf_N96 hw, wf_a96 hw, wf_g92_5 hw, wf_s92_5 hw, wf_N97 hw, wf_a97 hw, wf_g92_6 hw, wf_s92_6 hw, wf_N98 hw, wf_a98 hw, wf_g92_7 hw, wf_s92_7 hw, wf_N99 hw, wf_a99 hw, wf_g92_9 hw, wf_s92_9 hw, wf_N100 hw, wf_a100 hw, wf_g92_16 hw, wf_s92_16 hw, wf_N101 hw, wf_a101 hw, wf_g92_19 hw, wf_s92_19 hw, wf_N102 hw, wf_a102 hw, wf_g92_20 hw, wf_s92_20 hw, wf_N103 hw, wf_a103 hw, wf_g92_21 hw, wf_s92_21 hw, wf_N104 hw, wf_a104 hw, wf_g92_22 hw, wf_s92_22 hw, wf_N105 hw, wf_a105 hw, wf_g92_23 hw, wf_s92_23 hw, wf_N106 hw, wf_a106 hw, wf_g92_24 hw, wf_s92_24 hw, wf_N107 hw, wf_a107 hw, wf_g92_25 hw, wf_s92_25 hw, wf_N108 hw, wf_a108 hw, wf_g92_29 hw, wf_s92_29 hw, wf_N109 hw, wf_a109 hw, wf_g92_30 hw, wf_s92_30 hw, wf_N110 hw, wf_a110 hw, wf_g92_31 hw, wf_s92_31 hw, wf_N111 hw, wf_a111 hw, wf_g92_32 hw, wf_s92_32 hw, wf_N112 hw, wf_a112 hw, wf_g92_33 hw, wf_s92_33 hw, wf_N113 hw, wf_a113 hw, wf_g92_34 hw, wf_s92_34 hw, wf_N114 hw, wf_a114 hw, wf_g92_35 hw, wf_s92_35 hw, wf_N115 hw, wf_a115 hw, wf_g92_38 hw, wf_s92_38 hw, wf_N116 hw, wf_a116 hw, wf_g92_41 hw, wf_s92_41 hw, wf_N117 hw, wf_a117 hw, wf_g92_44 hw, wf_s92_44 hw, wf_N118 hw, wf_a118 hw, wf_g92_45 hw, wf_s92_45 hw, wf_N119 hw, wf_a119 hw, wf_g92_46 hw, wf_s92_46 hw, wf_N120 hw, wf_a120 hw, wf_g92_52 hw, wf_s92_52 hw, wf_N121 hw, wf_a121 hw, wf_g92_55 hw, wf_s92_55 hw, wf_N122 hw, wf_a122 hw, wf_g92_56 hw, wf_s92_56 hw, wf_N123 hw, wf_a123 hw, wf_g92_57 hw, wf_s92_57 hw, wf_N124 hw, wf_a124 hw, wf_g92_58 hw, wf_s92_58 hw, wf_N125 hw, wf_a125 hw, wf_g92_64 hw, wf_s92_64 hw, wf_N126 hw, wf_a126 hw, wf_g92_65 hw, wf_s92_65 hw, wf_N127 hw, wf_a127 hw, wf_g92_66 hw, wf_s92_66 hw, wf_N128 hw, wf_a128 hw, wf_g92_67 hw, wf_s92_67 hw, wf_N129 hw, wf_a129 hw, wf_g92_68 hw, wf_s92_68 hw, wf_N130 hw, wf_a130 hw, wf_g92_69 hw, wf_s92_69 hw, wf_N131 hw, wf_a131 hw, wf_g92_70 hw, wf_s92_70 hw, wf_N132 hw, wf_a132 hw, wf_g92_71 hw, wf_s92_71 hw, wf_N133 hw, wf_a133 hw, wf_g92_72 hw, wf_s92_72 hw, wf_N134 hw, wf_a134 hw, wf_g92_73 hw, wf_s92_73 hw, wf_N135 hw, wf_a135 hw, wf_g92_75 hw, wf_s92_75 hw, wf_N136 hw, wf_a136 hw, hq_M, hq_R, hq_N, hq_o, hq_a, hq_g, List.not_mem_nil, false_implies, implies_true, nI_clamp, nI_add, Nat.reducePow, hp_bd, hp_bdi, hp_ts, hp_tn, hp_tsc, hp_tnc, Nat.reduceAdd, Nat.reduceSub, Nat.reduceMul, Nat.reduceLT, Nat.reduceLeDiff, Nat.reduceEqDiff, reduceIte, not_true_eq_false, not_false_eq_true, and_true, true_and, and_self, and_false, false_and, or_true, true_or, or_false, false_or, decide_true, decide_false, Bool.and_true, Bool.true_and, Bool.not_false, Bool.or_false, Bool.false_or, Bool.or_true, Bool.true_or]
  rfl
theorem kp_M : mm_M (mm_kp S) c j = if c = 92 then (if j = 43 then nI 0 else if j = 42 then nI 0 else if j = 51 then mm_M S 92 13 else if j = 50 then mm_M S 92 12 else if j = 49 then mm_M S 92 11 else if j = 48 then mm_M S 92 10 else if j = 47 then mm_M S 92 8 else mm_M S 92 j) else if j < 6 ∧ c = 120 then mm_M S 98 j else if j < 6 ∧ c = 119 then mm_M S 97 j else if j < 6 ∧ c = 118 then mm_M S 100 j else mm_M S c j := by
  unfold mm_kp
  rw [hp_MuM, hp_MuM, hp_MuM, hp_MuM, hp_MuM, hp_MuM, hp_MuM, hq_M]
  by_cases h : c = 92
  · subst h
    simp +decide only [true_and, if_true, if_false, ite_self]
  · by_cases h2 : j < 6 <;> simp only [h, h2, false_and, true_and, if_true, if_false]
theorem ly_M : mm_M (mm_ly S) c j = if c = 92 then (if j = 13 then mm_M S 92 51 else if j = 12 then mm_M S 92 50 else if j = 11 then mm_M S 92 49 else if j = 10 then mm_M S 92 48 else if j = 8 then mm_M S 92 47 else mm_M S 92 j) else if j < 6 ∧ c = 98 then mm_M S 120 j else if j < 6 ∧ c = 97 then mm_M S 119 j else if j < 6 ∧ c = 100 then mm_M S 118 j else mm_M S c j := by
  unfold mm_ly
  rw [hp_MuM, hp_MuM, hp_MuM, hp_MuM, hp_MuM, hq_M]
  by_cases h : c = 92
  · subst h
    simp +decide only [true_and, if_true, if_false, ite_self]
  · by_cases h2 : j < 6 <;> simp only [h, h2, false_and, true_and, if_true, if_false]
theorem kp_L : mm_L (mm_kp S) = mm_L S := id rfl
theorem kp_R : mm_R (mm_kp S) = mm_R S := id rfl
theorem kp_K : mm_K (mm_kp S) = mm_K S := id rfl
theorem kp_N : mm_N (mm_kp S) = mm_N S := id rfl
theorem kp_n : mm_n (mm_kp S) = mm_n S := id rfl
theorem kp_z : mm_z (mm_kp S) = mm_z S := id rfl
theorem kp_o : mm_obj (mm_kp S) c f = mm_obj S c f := id rfl
theorem kp_a : mm_arr (mm_kp S) c f = mm_arr S c f := id rfl
theorem kp_k : mm_rk (mm_kp S) c = mm_rk S c := id rfl
theorem kp_g : mm_rg (mm_kp S) c j = mm_rg S c j := id rfl
theorem kp_W : mm_W (mm_kp S) = mm_W S := id rfl
theorem ly_L : mm_L (mm_ly S) = mm_L S := id rfl
theorem ly_R : mm_R (mm_ly S) = mm_R S := id rfl
theorem ly_K : mm_K (mm_ly S) = mm_K S := id rfl
theorem ly_N : mm_N (mm_ly S) = mm_N S := id rfl
theorem ly_n : mm_n (mm_ly S) = mm_n S := id rfl
theorem ly_z : mm_z (mm_ly S) = mm_z S := id rfl
theorem ly_o : mm_obj (mm_ly S) c f = mm_obj S c f := id rfl
theorem ly_a : mm_arr (mm_ly S) c f = mm_arr S c f := id rfl
theorem ly_k : mm_rk (mm_ly S) c = mm_rk S c := id rfl
theorem ly_g : mm_rg (mm_ly S) c j = mm_rg S c j := id rfl
theorem ly_W : mm_W (mm_ly S) = mm_W S := id rfl
end KL
end
section
/-! ===== a stretch of longs laid to 0 ===== -/
def mm_zL (S : mm_S) (a b n : Nat) : mm_S := mm_wL S (fun c j => if c = a ∧ b ≤ j ∧ j < b + n then 0 else mm_L S c j)
theorem nI_mul (a b : Nat) : nI a * nI b = nI (a * b) := (Int32.ofNat_mul a b).symm
section ZL
variable {S : mm_S} {a b n c j f d : Nat}
theorem hz_L : mm_L (mm_zL S a b n) c j = if c = a ∧ b ≤ j ∧ j < b + n then 0 else mm_L S c j := id rfl
theorem hz_M : mm_M (mm_zL S a b n) = mm_M S := id rfl
theorem hz_R : mm_R (mm_zL S a b n) = mm_R S := id rfl
theorem hz_K : mm_K (mm_zL S a b n) = mm_K S := id rfl
theorem hz_N : mm_N (mm_zL S a b n) = mm_N S := id rfl
theorem hz_n : mm_n (mm_zL S a b n) = mm_n S := id rfl
theorem hz_z : mm_z (mm_zL S a b n) = mm_z S := id rfl
theorem hz_o : mm_obj (mm_zL S a b n) c f = mm_obj S c f := id rfl
theorem hz_a : mm_arr (mm_zL S a b n) c f = mm_arr S c f := id rfl
theorem hz_k : mm_rk (mm_zL S a b n) c = mm_rk S c := id rfl
theorem hz_g : mm_rg (mm_zL S a b n) c j = mm_rg S c j := id rfl
theorem hz_W : mm_W (mm_zL S a b n) = mm_W S := id rfl
theorem zL_0 : mm_zL S a b 0 = S := st_ext (fun _ _ => rfl) (fun c j => by rw [hz_L, if_neg (fun h => by omega)]) (fun _ _ => rfl) (fun _ => rfl) (fun _ => rfl) rfl rfl
theorem zL_s : mm_uL (mm_zL S a b n) a (b + n) 0 = mm_zL S a b (n + 1) := by
  refine st_ext (fun _ _ => rfl) (fun c j => ?_) (fun _ _ => rfl) (fun _ => rfl) (fun _ => rfl) rfl rfl
  rw [hp_LuL, hz_L, hz_L]
  by_cases h : c = a
  · by_cases h1 : j = b + n
    · rw [if_pos ⟨h, h1⟩, if_pos ⟨h, by omega, by omega⟩]
    · rw [if_neg (fun e => h1 e.2)]
      by_cases h2 : b ≤ j ∧ j < b + n
      · rw [if_pos ⟨h, h2⟩, if_pos ⟨h, h2.1, by omega⟩]
      · rw [if_neg (fun e => h2 e.2), if_neg (fun e => by omega)]
  · rw [if_neg (fun e => h e.1), if_neg (fun e => h e.1), if_neg (fun e => h e.1)]
theorem l60 {t : Nat} {x1 x2 : Int32} (ho : mm_obj S t 8 = true) (hs : (mm_R S t 0).isSome = true) (hg : mm_rg S t 0 = a) (ha : mm_arr S a 14 = true) (hN : mm_N S a = 60) : ∀ k i : Nat, i + k = 60 → mm_ex d 60 12 [.ref t, .int x1, .int x2, .int (nI i)] [] (mm_zL S a 0 i) = some (none, mm_zL S a 0 60) := by
  intro k
  induction k with
  | zero =>
    intro i hi
    have e : i = 60 := by omega
    subst e
    rw [b60_12, if_pos (by decide), b60_31]
  | succ k ih =>
    intro i hi
    rw [b60_12, if_neg (nI_ge (by omega) (by decide)), b60_18 (S := mm_zL S a 0 i) ho hs (by rw [hz_g, hg]; exact ha) (by rw [hz_g, hg, hz_N, hN]; exact hp_inb (by omega) (by omega)), hz_g, hg, nI_clamp (by omega), nI_add, ← ih (i + 1) (by omega), ← zL_s, Nat.zero_add]
theorem s60 {t : Nat} {x1 x2 : Int32} (ho : mm_obj S t 8 = true) (hs : (mm_R S t 0).isSome = true) (hg : mm_rg S t 0 = a) (ha : mm_arr S a 14 = true) (hN : mm_N S a = 60) : mm_cl d 60 [.ref t, .int x1, .int x2] S = some (none, mm_zL (mm_uM (mm_uM S t 1 x1) t 2 x2) a 0 60) := by
  have h := l60 (S := mm_uM (mm_uM S t 1 x1) t 2 x2) (d := d) (x1 := x1) (x2 := x2) ho hs hg ha hN 60 0 rfl
  rw [zL_0] at h
  rw [e60, b60_0 ho, h]
theorem l207 (hw : mm_W S) {t : Nat} (ht : t < 6) {x2 x3 : Int32} : ∀ k i : Nat, i + k = 60 → mm_ex d 207 68 [.ref 92, .int (nI t), .int x2, .int x3, .int (nI i)] [] (mm_zL S 112 (60 * t) i) = some (some (.int (nI 1)), mm_zL S 112 (60 * t) 60) := by
  intro k
  induction k with
  | zero =>
    intro i hi
    have e : i = 60 := by omega
    subst e
    rw [b207_68, if_pos (by decide), b207_94]
  | succ k ih =>
    intro i hi
    have hw' : mm_W (mm_zL S 112 (60 * t) i) := hw
    rw [b207_68, if_neg (nI_ge (by omega) (by decide)), b207_75 (wf_o92 hw') (wf_s92_32 hw') (by rw [wf_g92_32 hw']; exact wf_a112 hw') (by rw [nI_mul, nI_add, wf_g92_32 hw', wf_N112 hw']; exact hp_inb (by omega) (by omega)), wf_g92_32 hw', nI_mul, nI_add i 1, nI_add (60 * t) i, nI_clamp (by omega), ← ih (i + 1) (by omega), ← zL_s]
end ZL
end
section
/-! ===== the class's tapes by their number ===== -/
section TP
variable {S : mm_S} {t d : Nat}
theorem tp_cases (ht : t < 6) : t = 0 ∨ t = 1 ∨ t = 2 ∨ t = 3 ∨ t = 4 ∨ t = 5 := by omega
theorem tp_R (hw : mm_W S) (ht : t < 6) : mm_R S 75 t = some (76 + 2 * t) := by
  rcases tp_cases ht with rfl | rfl | rfl | rfl | rfl | rfl <;> exact hw.2.2 _ _ _ rfl
theorem tp_g (hw : mm_W S) (ht : t < 6) : mm_rg S 75 t = 76 + 2 * t := hp_rg (tp_R hw ht)
theorem tp_s (hw : mm_W S) (ht : t < 6) : (mm_R S 75 t).isSome = true := hp_rs (tp_R hw ht)
theorem tp_o (hw : mm_W S) (ht : t < 6) : mm_obj S (76 + 2 * t) 8 = true := by
  rcases tp_cases ht with rfl | rfl | rfl | rfl | rfl | rfl <;> exact wp_o hw _ _ _ (by decide) rfl (by decide) rfl
theorem tp_k (hw : mm_W S) (ht : t < 6) : mm_rk S (76 + 2 * t) = 8 := by
  rcases tp_cases ht with rfl | rfl | rfl | rfl | rfl | rfl <;> exact wp_k hw _ _ (by decide) rfl (by decide)
theorem tp_g0 (hw : mm_W S) (ht : t < 6) : mm_rg S (76 + 2 * t) 0 = 77 + 2 * t := by
  rcases tp_cases ht with rfl | rfl | rfl | rfl | rfl | rfl <;> exact wp_g hw _ _ _ rfl
theorem tp_s0 (hw : mm_W S) (ht : t < 6) : (mm_R S (76 + 2 * t) 0).isSome = true := by
  rcases tp_cases ht with rfl | rfl | rfl | rfl | rfl | rfl <;> exact wp_s hw _ _ _ rfl
theorem tp_a (hw : mm_W S) (ht : t < 6) : mm_arr S (77 + 2 * t) 14 = true := by
  rcases tp_cases ht with rfl | rfl | rfl | rfl | rfl | rfl <;> exact wp_a hw _ _ (by decide) rfl
theorem tp_N (hw : mm_W S) (ht : t < 6) : mm_N S (77 + 2 * t) = 60 := by
  rcases tp_cases ht with rfl | rfl | rfl | rfl | rfl | rfl <;> exact wp_N hw _ _ (by decide) rfl
theorem tp_n (ht : t < 6) : t < 2 ^ 31 := by omega
theorem tp_in (ht : t < 6) : mm_inb (nI t) 6 = true := hp_inb ht (by omega)
def mm_be (S : mm_S) (t : Nat) (s n : Int32) : mm_S := mm_zL (mm_uM (mm_uM S (76 + 2 * t) 1 s) (76 + 2 * t) 2 n) (77 + 2 * t) 0 60
theorem s60t (hw : mm_W S) (ht : t < 6) {s n : Int32} : mm_cl d 60 [.ref (76 + 2 * t), .int s, .int n] S = some (none, mm_be S t s n) :=
  s60 (tp_o hw ht) (tp_s0 hw ht) (tp_g0 hw ht) (tp_a hw ht) (tp_N hw ht)
end TP
end
section
/-! ===== a new BUYER ===== -/
def mk_ck (j : Nat) : Nat := ([0, 4, 10, 2, 7, 3, 9] : List Nat).getD j 0
def mk_in (S : mm_S) (a : Nat) (x1 x2 x3 x4 : Int32) : mm_S := mm_uM (mm_uM (mm_uM (mm_uM S a 0 x1) a 1 x2) a 2 x3) a 3 x4
def mk_nb (S : mm_S) (j : Nat) (x1 x2 x3 : Int32) : mm_S := mk_in (mm_nw S (mk_ck j) 4) (mm_n S) (nI j) x1 x2 x3
section NB
variable {S : mm_S} {a d : Nat} {x1 x2 x3 x4 : Int32}
theorem q_o {f : Nat} (ho : mm_obj S a f = true) : (decide (a < mm_n S) && decide (mm_K S a < 13)) = true := by
  rw [hn_o] at ho
  simp only [Bool.and_eq_true] at ho ⊢
  exact ho.1
theorem si_0 (ho : mm_obj S a 0 = true) : mm_cl (d + 1) 0 [.ref a, .int x1, .int x2, .int x3, .int x4] S = some (none, mk_in S a x1 x2 x3 x4) := by
  rw [e0, b0_0 ho]; rfl
theorem si_25 (ho : mm_obj S a 0 = true) : mm_cl (d + 2) 25 [.ref a, .int x1, .int x2, .int x3, .int x4] S = some (none, mk_in S a x1 x2 x3 x4) := by
  rw [e25, b25_0 (q_o ho), si_0 ho, hp_bd, hp_tnc, b25_9]
theorem si_31 (ho : mm_obj S a 0 = true) : mm_cl (d + 2) 31 [.ref a, .int x1, .int x2, .int x3, .int x4] S = some (none, mk_in S a x1 x2 x3 x4) := by
  rw [e31, b31_0 (q_o ho), si_0 ho, hp_bd, hp_tnc, b31_9]
theorem si_69 (ho : mm_obj S a 0 = true) : mm_cl (d + 2) 69 [.ref a, .int x1, .int x2, .int x3, .int x4] S = some (none, mk_in S a x1 x2 x3 x4) := by
  rw [e69, b69_0 (q_o ho), si_0 ho, hp_bd, hp_tnc, b69_9]
theorem si_28 (ho : mm_obj S a 0 = true) : mm_cl (d + 3) 28 [.ref a, .int x1, .int x2, .int x3, .int x4] S = some (none, mk_in S a x1 x2 x3 x4) := by
  rw [e28, b28_0 (q_o ho), si_69 ho, hp_bd, hp_tnc, b28_9]
theorem si_55 (ho : mm_obj S a 0 = true) : mm_cl (d + 3) 55 [.ref a, .int x1, .int x2, .int x3, .int x4] S = some (none, mk_in S a x1 x2 x3 x4) := by
  rw [e55, b55_0 (q_o ho), si_31 ho, hp_bd, hp_tnc, b55_9]
theorem si_65 (ho : mm_obj S a 0 = true) : mm_cl (d + 3) 65 [.ref a, .int x1, .int x2, .int x3, .int x4] S = some (none, mk_in S a x1 x2 x3 x4) := by
  rw [e65, b65_0 (q_o ho), si_25 ho, hp_bd, hp_tnc, b65_9]
theorem nw_o {k : Nat} (hk : k < 13) (hf : mm_fam 0 k = true) : mm_obj (mm_nw S k 4) (mm_n S) 0 = true := by
  rw [hn_o, hn_n, hn_K, if_pos rfl, hf]
  simp [hk]
theorem s111 (hn : mm_n S < 1000000) {j : Nat} (hj : j ≤ 6) : mm_cl (d + 4) 111 [.int (nI j), .int x1, .int x2, .int x3] S = some (some (.ref (mm_n S)), mk_nb S j x1 x2 x3) := by
  have h0 : decide (mm_n S < 1000000) = true := by simp [hn]
  have n0 : mm_NF 0 = 4 := rfl
  have n2 : mm_NF 2 = 4 := rfl
  have n3 : mm_NF 3 = 4 := rfl
  have n4 : mm_NF 4 = 4 := rfl
  have n7 : mm_NF 7 = 4 := rfl
  have n9 : mm_NF 9 = 4 := rfl
  have n10 : mm_NF 10 = 4 := rfl
  rw [e111, b111_0, b111_1]
  rcases (by omega : j = 0 ∨ j = 1 ∨ j = 2 ∨ j = 3 ∨ j = 4 ∨ j = 5 ∨ j = 6) with rfl | rfl | rfl | rfl | rfl | rfl | rfl
  · rw [if_neg (by decide), if_neg (by decide), if_neg (by decide), if_neg (by decide), if_neg (by decide), if_neg (by decide), b111_112 h0, n0, b111_115 (q_o (nw_o (by decide) rfl)), si_0 (nw_o (by decide) rfl), hp_bd, hp_tnc, b111_123]; rfl
  · rw [if_pos rfl, b111_40 h0, n4, b111_43 (q_o (nw_o (by decide) rfl)), si_31 (nw_o (by decide) rfl), hp_bd, hp_tnc, b111_51]; rfl
  · rw [if_neg (by decide), if_pos rfl, b111_52 h0, n10, b111_55 (q_o (nw_o (by decide) rfl)), si_69 (nw_o (by decide) rfl), hp_bd, hp_tnc, b111_63]; rfl
  · rw [if_neg (by decide), if_neg (by decide), if_pos rfl, b111_64 h0, n2, b111_67 (q_o (nw_o (by decide) rfl)), si_25 (nw_o (by decide) rfl), hp_bd, hp_tnc, b111_75]; rfl
  · rw [if_neg (by decide), if_neg (by decide), if_neg (by decide), if_pos rfl, b111_76 h0, n7, b111_79 (q_o (nw_o (by decide) rfl)), si_55 (nw_o (by decide) rfl), hp_bd, hp_tnc, b111_87]; rfl
  · rw [if_neg (by decide), if_neg (by decide), if_neg (by decide), if_neg (by decide), if_pos rfl, b111_88 h0, n3, b111_91 (q_o (nw_o (by decide) rfl)), si_28 (nw_o (by decide) rfl), hp_bd, hp_tnc, b111_99]; rfl
  · rw [if_neg (by decide), if_neg (by decide), if_neg (by decide), if_neg (by decide), if_neg (by decide), if_pos rfl, b111_100 h0, n9, b111_103 (q_o (nw_o (by decide) rfl)), si_65 (nw_o (by decide) rfl), hp_bd, hp_tnc, b111_111]; rfl
/-- a BUYER comes to a day -/
def mk_we (S : mm_S) (a b kn st : Nat) : mm_S := mm_uM (mm_uM (mm_uM (mm_uM (mm_uM (mm_uM (mm_uM (mm_uM (mm_uM (mm_uR S (a + 1) kn (some b)) (a + 2) kn (-1)) (a + 3) (kn * 3 + 0) (nI 0)) (a + 3) (kn * 3 + 1) (nI 0)) (a + 3) (kn * 3 + 2) (nI 0)) (a + 4) kn (nI 0)) (a + 5) kn (nI 0)) a 10 (nI (kn + 1))) (a + 6) st (nI kn)) a 11 (nI (st + 1))
theorem tr_dy (ha : mm_dy a) (j : Nat) : mm_tR (a + 1) j = none := by rcases ha with rfl | rfl | rfl | rfl <;> rfl
theorem s9 (hw : mm_W S) (ha : mm_dy a) {b kn st : Nat} (hkn : mm_M S a 10 = nI kn) (h1 : kn < 6) (hst : mm_M S a 11 = nI st) (h2 : st < 6) (hb : mm_obj S b 0 = true) (hW : mm_W (mm_uR S (a + 1) kn (some b))) : mm_cl (d + 1) 9 [.ref a, .ref b] S = some (none, mk_we S a b kn st) := by
  have c1 := nI_clamp (n := kn) (by omega)
  have c2 := nI_clamp (n := st) (by omega)
  have i1 := hp_inb h1 (by omega)
  have i2 := hp_inb h2 (by omega)
  have e3 : ∀ i, i < 3 → mm_inb (nI kn * nI 3 + nI i) 18 = true := fun i hi => by rw [nI_mul, nI_add]; exact hp_inb (by omega) (by omega)
  have e4 : ∀ i, i < 3 → (nI kn * nI 3 + nI i).toNatClampNeg = kn * 3 + i := fun i hi => by rw [nI_mul, nI_add, nI_clamp (by omega)]
  generalize hT : mm_uM (mm_uR S (a + 1) kn (some b)) (a + 2) kn (-1) = T
  have wT : mm_W T := by rw [← hT]; exact hW
  have key : ∀ i, i < 3 → ∀ U, mm_W U → mm_ex (d + 1) 9 31 [.ref a, .ref b, .int (nI kn), .int (nI i)] [] U = mm_ex (d + 1) 9 31 [.ref a, .ref b, .int (nI kn), .int (nI (i + 1))] [] (mm_uM U (a + 3) (kn * 3 + i) (nI 0)) := by
    intro i hi U hU
    rw [b9_31, if_neg (nI_ge hi (by decide)), b9_36 (wd_o hU ha) (wd_s2 hU ha) (by rw [wd_g2 hU ha]; exact wd_a3 hU ha) (by rw [wd_g2 hU ha, wd_N3 hU ha]; exact e3 i hi), wd_g2 hU ha, e4 i hi, nI_add]
  have w1 : mm_W (mm_uM T (a + 3) (kn * 3 + 0) (nI 0)) := wT
  have w2 : mm_W (mm_uM (mm_uM T (a + 3) (kn * 3 + 0) (nI 0)) (a + 3) (kn * 3 + 1) (nI 0)) := wT
  rw [e9, b9_0 (wd_o hw ha), hkn, if_pos (nI_lt h1 (by decide)), b9_10 (wd_o hw ha) (wd_s0 hw ha) (by rw [wd_g0 hw ha]; exact wd_a1 hw ha) (by rw [hkn, wd_g0 hw ha, wd_N1 hw ha]; exact i1) (by rw [wd_g0 hw ha, wd_K1 hw ha]; exact hb), wd_g0 hw ha, hkn, c1,
    b9_23 (wd_o hW ha) (wd_s1 hW ha) (by rw [wd_g1 hW ha]; exact wd_a2 hW ha) (by rw [wd_g1 hW ha, wd_N2 hW ha]; exact i1), wd_g1 hW ha, c1, hT, key 0 (by decide) T wT, key 1 (by decide) _ w1, key 2 (by decide) _ w2, b9_31, if_pos (by decide)]
  generalize hV : mm_uM (mm_uM (mm_uM T (a + 3) (kn * 3 + 0) (nI 0)) (a + 3) (kn * 3 + 1) (nI 0)) (a + 3) (kn * 3 + 2) (nI 0) = V
  have wV : mm_W V := by rw [← hV]; exact wT
  have m10 : mm_M (mm_uM (mm_uM V (a + 4) kn (nI 0)) (a + 5) kn (nI 0)) a 10 = nI kn := by
    rw [← hV, ← hT]
    rw [hp_MuM, if_neg (fun e => by omega), hp_MuM, if_neg (fun e => by omega), hp_MuM, if_neg (fun e => by omega), hp_MuM, if_neg (fun e => by omega), hp_MuM, if_neg (fun e => by omega), hp_MuM, if_neg (fun e => by omega), hp_MuR, hkn]
  have m11 : mm_M (mm_uM (mm_uM V (a + 4) kn (nI 0)) (a + 5) kn (nI 0)) a 11 = nI st := by
    rw [← hV, ← hT]
    rw [hp_MuM, if_neg (fun e => by omega), hp_MuM, if_neg (fun e => by omega), hp_MuM, if_neg (fun e => by omega), hp_MuM, if_neg (fun e => by omega), hp_MuM, if_neg (fun e => by omega), hp_MuM, if_neg (fun e => by omega), hp_MuR, hst]
  have wX : mm_W (mm_uM (mm_uM V (a + 4) kn (nI 0)) (a + 5) kn (nI 0)) := wV
  rw [b9_53 (wd_o wV ha) (wd_s3 wV ha) (by rw [wd_g3 wV ha]; exact wd_a4 wV ha) (by rw [wd_g3 wV ha, wd_N4 wV ha]; exact i1) (wd_s4 wV ha) (by rw [wd_g4 wV ha]; exact wd_a5 wV ha) (by rw [wd_g4 wV ha, wd_N5 wV ha]; exact i1), wd_g3 wV ha, wd_g4 wV ha, c1]
  generalize hX : mm_uM (mm_uM V (a + 4) kn (nI 0)) (a + 5) kn (nI 0) = X
  rw [hX] at m10 m11 wX
  have wY : mm_W (mm_uM X a 10 (nI (kn + 1))) := wX
  have wZ : mm_W (mm_uM (mm_uM X a 10 (nI (kn + 1))) (a + 6) st (nI kn)) := wX
  have y11 : mm_M (mm_uM X a 10 (nI (kn + 1))) a 11 = nI st := by rw [hp_MuM, if_neg (fun e => by omega), m11]
  have z11 : mm_M (mm_uM (mm_uM X a 10 (nI (kn + 1))) (a + 6) st (nI kn)) a 11 = nI st := by rw [hp_MuM, if_neg (fun e => by omega), y11]
  rw [b9_69 (wd_o wX ha) (wd_o wX ha) (wd_k wX ha), m10, nI_add, e13, b13_0 (wd_o wY ha), y11, if_neg (nI_ge h2 (by decide)), b13_9 (wd_o wY ha) (wd_s5 wY ha) (by rw [wd_g5 wY ha]; exact wd_a6 wY ha) (by rw [y11, wd_g5 wY ha, wd_N6 wY ha]; exact i2), wd_g5 wY ha, y11, c2, b13_21 (wd_o wZ ha) (wd_o wZ ha), z11, nI_add, hp_bd, hp_tnc, b9_82, ← hX, ← hV, ← hT]
  rfl
end NB
end
section
/-! ===== a fresh object: what its cells hold; the class's writes leave the model alone ===== -/
def mm_Fr (S : mm_S) : Prop := mm_n S = 137 ∧ mm_z S = 4358 ∧ (∀ b, b < 137 → mm_Tb S b) ∧ mm_W S
def mm_Gd (S : mm_S) : Prop := mm_W S ∧ mm_Tb S 92 ∧ mm_Tb S 110 ∧ mm_Tb S 113 ∧ mm_Tb S 114 ∧ mm_Tb S 115 ∧ mm_n S ≤ 200 ∧ mm_z S ≤ 5000
section FR
variable {S : mm_S}
theorem gF (h : mm_Fr S) : mm_Gd S := ⟨h.2.2.2, h.2.2.1 92 (by decide), h.2.2.1 110 (by decide), h.2.2.1 113 (by decide), h.2.2.1 114 (by decide), h.2.2.1 115 (by decide), by rw [h.1]; decide, by rw [h.2.1]; decide⟩
theorem g_sm {S' : mm_S} (h : mm_Gd S) (hw : mm_W S') (f : ∀ b, 92 ≤ b → b < 137 → mm_sm S S' b) (h1 : mm_n S' ≤ 200) (h2 : mm_z S' ≤ 5000) : mm_Gd S' :=
  ⟨hw, mm_Tb_sm (f 92 (by decide) (by decide)) h.2.1, mm_Tb_sm (f 110 (by decide) (by decide)) h.2.2.1, mm_Tb_sm (f 113 (by decide) (by decide)) h.2.2.2.1, mm_Tb_sm (f 114 (by decide) (by decide)) h.2.2.2.2.1, mm_Tb_sm (f 115 (by decide) (by decide)) h.2.2.2.2.2.1, h1, h2⟩
theorem g_uM {a k : Nat} {v : Int32} (ha : a < 92) (h : mm_Gd S) : mm_Gd (mm_uM S a k v) :=
  g_sm h h.1 (fun b h1 h2 => ⟨rfl, rfl, fun i => by rw [hp_MuM, if_neg (fun e => by omega)], fun _ => rfl⟩) h.2.2.2.2.2.2.1 h.2.2.2.2.2.2.2
theorem g_uL {a k : Nat} {v : Int64} (h : mm_Gd S) : mm_Gd (mm_uL S a k v) :=
  g_sm h h.1 (fun b h1 h2 => ⟨rfl, rfl, fun i => rfl, fun _ => rfl⟩) h.2.2.2.2.2.2.1 h.2.2.2.2.2.2.2
theorem w_uR {a k : Nat} {v : Option Nat} (ht : mm_tR a k = none) (h : mm_W S) : mm_W (mm_uR S a k v) := by
  refine ⟨h.1, h.2.1, fun c j b e => ?_⟩
  rw [hp_RuR, if_neg (fun q => by rw [q.1, q.2, ht] at e; cases e)]
  exact h.2.2 c j b e
theorem w_nw {k n : Nat} (h : mm_W S) : mm_W (mm_nw S k n) := by
  have h0 := h.1
  refine ⟨by rw [hn_n]; omega, fun a ha => ?_, fun c j b e => ?_⟩
  · have e : a ≠ mm_n S := by omega
    rw [hn_K, hn_N, if_neg e, if_neg e]; exact h.2.1 a ha
  · have e2 : c ≠ mm_n S := by have := (tr_lt e).1; omega
    rw [hn_R, if_neg e2]; exact h.2.2 c j b e
theorem g_uR {a k : Nat} {v : Option Nat} (ha : a < 92) (ht : mm_tR a k = none) (h : mm_Gd S) : mm_Gd (mm_uR S a k v) :=
  g_sm h (w_uR ht h.1) (fun b h1 h2 => ⟨rfl, rfl, fun i => rfl, fun i => by rw [hp_RuR, if_neg (fun e => by omega)]⟩) h.2.2.2.2.2.2.1 h.2.2.2.2.2.2.2
theorem w_cD {a b : Nat} (ha : mm_dy a) (h : mm_W S) : mm_W (mm_cD S a b) := by
  refine ⟨h.1, h.2.1, fun c j v e => ?_⟩
  have h1 : ¬ (c = a ∧ j = 8) := by
    rintro ⟨rfl, rfl⟩
    rcases ha with rfl | rfl | rfl | rfl <;> cases e
  have h2 : ¬ (c = a + 1 ∧ j < 6) := by
    rintro ⟨rfl, -⟩
    rcases ha with rfl | rfl | rfl | rfl <;> cases e
  show (if c = a ∧ j = 8 then _ else if c = a + 1 ∧ j < 6 then _ else mm_R S c j) = _
  rw [if_neg h1, if_neg h2]
  exact h.2.2 c j v e
theorem hc_M {a b c j : Nat} : mm_M (mm_cD S a b) c j = if c = a ∧ 9 ≤ j ∧ j ≤ 17 then mm_M S b j else if a + 2 ≤ c ∧ c ≤ a + 7 ∧ j < mm_N S c then mm_M S (b + (c - a)) j else mm_M S c j := id rfl
theorem hc_R {a b c j : Nat} : mm_R (mm_cD S a b) c j = if c = a ∧ j = 8 then mm_R S b 8 else if c = a + 1 ∧ j < 6 then mm_R S (b + 1) j else mm_R S c j := id rfl
theorem hc_n {a b : Nat} : mm_n (mm_cD S a b) = mm_n S := id rfl
theorem hc_z {a b : Nat} : mm_z (mm_cD S a b) = mm_z S := id rfl
theorem hc_K {a b : Nat} : mm_K (mm_cD S a b) = mm_K S := id rfl
theorem hc_N {a b : Nat} : mm_N (mm_cD S a b) = mm_N S := id rfl
theorem hc_o {a b c f : Nat} : mm_obj (mm_cD S a b) c f = mm_obj S c f := id rfl
theorem hc_a {a b c f : Nat} : mm_arr (mm_cD S a b) c f = mm_arr S c f := id rfl
theorem hc_k {a b c : Nat} : mm_rk (mm_cD S a b) c = mm_rk S c := id rfl
theorem g_nw {k n : Nat} (hb : mm_n S ≤ 150 ∧ mm_z S + n ≤ 5000 ∧ mm_Gd S) : mm_Gd (mm_nw S k n) :=
  have h := hb.2.2
  g_sm h (w_nw h.1) (fun b h1 h2 => sm_nw (by have := h.1.1; omega)) (by rw [hn_n]; omega) (by rw [hn_z]; omega)
theorem g_cD {a b : Nat} (ha : mm_dy a) (h : mm_Gd S) : mm_Gd (mm_cD S a b) :=
  have h0 : a ≤ 33 := by unfold mm_dy at ha; omega
  g_sm h (w_cD ha h.1) (fun c h1 h2 => ⟨rfl, rfl, fun i => by rw [hc_M, if_neg (fun e => by omega), if_neg (fun e => by omega)], fun i => by rw [hc_R, if_neg (fun e => by omega), if_neg (fun e => by omega)]⟩) h.2.2.2.2.2.2.1 h.2.2.2.2.2.2.2
theorem hp_cpS {a0 a sp dp n b j : Nat} (h : b ≠ a) : mm_M (mm_cpM S a0 a sp dp n) b j = mm_M S b j := by rw [hp_McpM, if_neg (fun e => h e.1)]
theorem g_cpM {a0 a sp dp n : Nat} (ha : a < 92) (h : mm_Gd S) : mm_Gd (mm_cpM S a0 a sp dp n) :=
  g_sm h h.1 (fun b h1 h2 => ⟨rfl, rfl, fun i => hp_cpS (by omega), fun _ => rfl⟩) h.2.2.2.2.2.2.1 h.2.2.2.2.2.2.2
theorem hW_uM {a k : Nat} {v : Int32} : mm_W (mm_uM S a k v) = mm_W S := id rfl
theorem hW_uL {a k : Nat} {v : Int64} : mm_W (mm_uL S a k v) = mm_W S := id rfl
theorem hW_cp {a0 a sp dp n : Nat} : mm_W (mm_cpM S a0 a sp dp n) = mm_W S := id rfl
theorem hW_cD {a b : Nat} (ha : mm_dy a) (h : mm_W S) : mm_W (mm_cD S a b) = True := eq_true (w_cD ha h)
theorem hW_uR {a k : Nat} {v : Option Nat} (ht : mm_tR a k = none) (h : mm_W S) : mm_W (mm_uR S a k v) = True := eq_true (w_uR ht h)
theorem hW_nw {k n : Nat} (h : mm_W S) : mm_W (mm_nw S k n) = True := eq_true (w_nw h)
theorem i_le (a b : Int32) : (a ≤ b) = ¬ (b < a) := propext (Int32.not_lt).symm
theorem i_m1 {b : Int32} (h : ¬ b < nI 0) : (nI 0 - nI 1 < b) = True := by
  refine eq_true ?_
  have e : (nI 0 - nI 1 : Int32) = -1 := by decide
  have h2 : ¬ b.toInt < 0 := by have h3 := h; rw [Int32.lt_iff_toInt_lt] at h3; exact h3
  rw [e, Int32.lt_iff_toInt_lt]
  have e2 : (-1 : Int32).toInt = -1 := by decide
  rw [e2]; omega
theorem ff_0_11 (h : mm_Tb S 0) : mm_M S 0 11 = nI 0 := h.2.2.1 (11, nI 0) (by decide)
theorem ff_0_12 (h : mm_Tb S 0) : mm_M S 0 12 = nI 0 := h.2.2.1 (12, nI 0) (by decide)
theorem ff_1_0 (h : mm_Tb S 1) : mm_M S 1 0 = nI 1 := h.2.2.1 (0, nI 1) (by decide)
theorem ff_1_1 (h : mm_Tb S 1) : mm_M S 1 1 = nI 1 := h.2.2.1 (1, nI 1) (by decide)
theorem ff_1_2 (h : mm_Tb S 1) : mm_M S 1 2 = nI 1 := h.2.2.1 (2, nI 1) (by decide)
theorem ff_1_3 (h : mm_Tb S 1) : mm_M S 1 3 = nI 0 := h.2.2.1 (3, nI 0) (by decide)
theorem ff_1_8 (h : mm_Tb S 1) : mm_M S 1 8 = nI 0 := h.2.2.1 (8, nI 0) (by decide)
theorem ff_1_9 (h : mm_Tb S 1) : mm_M S 1 9 = nI 0 := h.2.2.1 (9, nI 0) (by decide)
theorem ff_6_9 (h : mm_Tb S 6) : mm_M S 6 9 = nI 0 := h.2.2.1 (9, nI 0) (by decide)
theorem ff_6_10 (h : mm_Tb S 6) : mm_M S 6 10 = nI 0 := h.2.2.1 (10, nI 0) (by decide)
theorem ff_6_11 (h : mm_Tb S 6) : mm_M S 6 11 = nI 0 := h.2.2.1 (11, nI 0) (by decide)
theorem ff_6_12 (h : mm_Tb S 6) : mm_M S 6 12 = nI 1 := h.2.2.1 (12, nI 1) (by decide)
theorem ff_6_13 (h : mm_Tb S 6) : mm_M S 6 13 = nI 5 := h.2.2.1 (13, nI 5) (by decide)
theorem ff_6_14 (h : mm_Tb S 6) : mm_M S 6 14 = nI 0 := h.2.2.1 (14, nI 0) (by decide)
theorem ff_6_15 (h : mm_Tb S 6) : mm_M S 6 15 = nI 0 := h.2.2.1 (15, nI 0) (by decide)
theorem ff_6_16 (h : mm_Tb S 6) : mm_M S 6 16 = nI 0 := h.2.2.1 (16, nI 0) (by decide)
theorem ff_6_17 (h : mm_Tb S 6) : mm_M S 6 17 = nI 0 := h.2.2.1 (17, nI 0) (by decide)
theorem ff_6_18 (h : mm_Tb S 6) : mm_M S 6 18 = nI 0 := h.2.2.1 (18, nI 0) (by decide)
theorem ff_6_19 (h : mm_Tb S 6) : mm_M S 6 19 = nI 0 := h.2.2.1 (19, nI 0) (by decide)
theorem ff_15_9 (h : mm_Tb S 15) : mm_M S 15 9 = nI 0 := h.2.2.1 (9, nI 0) (by decide)
theorem ff_15_10 (h : mm_Tb S 15) : mm_M S 15 10 = nI 0 := h.2.2.1 (10, nI 0) (by decide)
theorem ff_15_11 (h : mm_Tb S 15) : mm_M S 15 11 = nI 0 := h.2.2.1 (11, nI 0) (by decide)
theorem ff_15_12 (h : mm_Tb S 15) : mm_M S 15 12 = nI 1 := h.2.2.1 (12, nI 1) (by decide)
theorem ff_15_13 (h : mm_Tb S 15) : mm_M S 15 13 = nI 5 := h.2.2.1 (13, nI 5) (by decide)
theorem ff_15_14 (h : mm_Tb S 15) : mm_M S 15 14 = nI 0 := h.2.2.1 (14, nI 0) (by decide)
theorem ff_15_15 (h : mm_Tb S 15) : mm_M S 15 15 = nI 0 := h.2.2.1 (15, nI 0) (by decide)
theorem ff_15_16 (h : mm_Tb S 15) : mm_M S 15 16 = nI 0 := h.2.2.1 (16, nI 0) (by decide)
theorem ff_15_17 (h : mm_Tb S 15) : mm_M S 15 17 = nI 0 := h.2.2.1 (17, nI 0) (by decide)
theorem ff_15_18 (h : mm_Tb S 15) : mm_M S 15 18 = nI 0 := h.2.2.1 (18, nI 0) (by decide)
theorem ff_15_19 (h : mm_Tb S 15) : mm_M S 15 19 = nI 0 := h.2.2.1 (19, nI 0) (by decide)
theorem ff_24_9 (h : mm_Tb S 24) : mm_M S 24 9 = nI 0 := h.2.2.1 (9, nI 0) (by decide)
theorem ff_24_10 (h : mm_Tb S 24) : mm_M S 24 10 = nI 0 := h.2.2.1 (10, nI 0) (by decide)
theorem ff_24_11 (h : mm_Tb S 24) : mm_M S 24 11 = nI 0 := h.2.2.1 (11, nI 0) (by decide)
theorem ff_24_12 (h : mm_Tb S 24) : mm_M S 24 12 = nI 1 := h.2.2.1 (12, nI 1) (by decide)
theorem ff_24_13 (h : mm_Tb S 24) : mm_M S 24 13 = nI 5 := h.2.2.1 (13, nI 5) (by decide)
theorem ff_24_14 (h : mm_Tb S 24) : mm_M S 24 14 = nI 0 := h.2.2.1 (14, nI 0) (by decide)
theorem ff_24_15 (h : mm_Tb S 24) : mm_M S 24 15 = nI 0 := h.2.2.1 (15, nI 0) (by decide)
theorem ff_24_16 (h : mm_Tb S 24) : mm_M S 24 16 = nI 0 := h.2.2.1 (16, nI 0) (by decide)
theorem ff_24_17 (h : mm_Tb S 24) : mm_M S 24 17 = nI 0 := h.2.2.1 (17, nI 0) (by decide)
theorem ff_24_18 (h : mm_Tb S 24) : mm_M S 24 18 = nI 0 := h.2.2.1 (18, nI 0) (by decide)
theorem ff_24_19 (h : mm_Tb S 24) : mm_M S 24 19 = nI 0 := h.2.2.1 (19, nI 0) (by decide)
theorem ff_33_9 (h : mm_Tb S 33) : mm_M S 33 9 = nI 0 := h.2.2.1 (9, nI 0) (by decide)
theorem ff_33_10 (h : mm_Tb S 33) : mm_M S 33 10 = nI 0 := h.2.2.1 (10, nI 0) (by decide)
theorem ff_33_11 (h : mm_Tb S 33) : mm_M S 33 11 = nI 0 := h.2.2.1 (11, nI 0) (by decide)
theorem ff_33_12 (h : mm_Tb S 33) : mm_M S 33 12 = nI 1 := h.2.2.1 (12, nI 1) (by decide)
theorem ff_33_13 (h : mm_Tb S 33) : mm_M S 33 13 = nI 5 := h.2.2.1 (13, nI 5) (by decide)
theorem ff_33_14 (h : mm_Tb S 33) : mm_M S 33 14 = nI 0 := h.2.2.1 (14, nI 0) (by decide)
theorem ff_33_15 (h : mm_Tb S 33) : mm_M S 33 15 = nI 0 := h.2.2.1 (15, nI 0) (by decide)
theorem ff_33_16 (h : mm_Tb S 33) : mm_M S 33 16 = nI 0 := h.2.2.1 (16, nI 0) (by decide)
theorem ff_33_17 (h : mm_Tb S 33) : mm_M S 33 17 = nI 0 := h.2.2.1 (17, nI 0) (by decide)
theorem ff_33_18 (h : mm_Tb S 33) : mm_M S 33 18 = nI 0 := h.2.2.1 (18, nI 0) (by decide)
theorem ff_33_19 (h : mm_Tb S 33) : mm_M S 33 19 = nI 0 := h.2.2.1 (19, nI 0) (by decide)
theorem ff_73_0 (h : mm_Tb S 73) : mm_M S 73 0 = nI 0 := h.2.2.1 (0, nI 0) (by decide)
theorem ff_73_2 (h : mm_Tb S 73) : mm_M S 73 2 = nI 0 := h.2.2.1 (2, nI 0) (by decide)
theorem ff_76_1 (h : mm_Tb S 76) : mm_M S 76 1 = -1 := h.2.2.1 (1, -1) (by decide)
theorem ff_76_2 (h : mm_Tb S 76) : mm_M S 76 2 = nI 0 := h.2.2.1 (2, nI 0) (by decide)
theorem ff_78_1 (h : mm_Tb S 78) : mm_M S 78 1 = -1 := h.2.2.1 (1, -1) (by decide)
theorem ff_78_2 (h : mm_Tb S 78) : mm_M S 78 2 = nI 0 := h.2.2.1 (2, nI 0) (by decide)
theorem ff_80_1 (h : mm_Tb S 80) : mm_M S 80 1 = -1 := h.2.2.1 (1, -1) (by decide)
theorem ff_80_2 (h : mm_Tb S 80) : mm_M S 80 2 = nI 0 := h.2.2.1 (2, nI 0) (by decide)
theorem ff_82_1 (h : mm_Tb S 82) : mm_M S 82 1 = -1 := h.2.2.1 (1, -1) (by decide)
theorem ff_82_2 (h : mm_Tb S 82) : mm_M S 82 2 = nI 0 := h.2.2.1 (2, nI 0) (by decide)
theorem ff_84_1 (h : mm_Tb S 84) : mm_M S 84 1 = -1 := h.2.2.1 (1, -1) (by decide)
theorem ff_84_2 (h : mm_Tb S 84) : mm_M S 84 2 = nI 0 := h.2.2.1 (2, nI 0) (by decide)
theorem ff_86_1 (h : mm_Tb S 86) : mm_M S 86 1 = -1 := h.2.2.1 (1, -1) (by decide)
theorem ff_86_2 (h : mm_Tb S 86) : mm_M S 86 2 = nI 0 := h.2.2.1 (2, nI 0) (by decide)
theorem ff_92_0 (h : mm_Tb S 92) : mm_M S 92 0 = nI 0 := h.2.2.1 (0, nI 0) (by decide)
theorem ff_92_8 (h : mm_Tb S 92) : mm_M S 92 8 = nI 0 := h.2.2.1 (8, nI 0) (by decide)
theorem ff_92_10 (h : mm_Tb S 92) : mm_M S 92 10 = nI 1 := h.2.2.1 (10, nI 1) (by decide)
theorem ff_92_11 (h : mm_Tb S 92) : mm_M S 92 11 = nI 5 := h.2.2.1 (11, nI 5) (by decide)
theorem ff_92_12 (h : mm_Tb S 92) : mm_M S 92 12 = nI 0 := h.2.2.1 (12, nI 0) (by decide)
theorem ff_92_13 (h : mm_Tb S 92) : mm_M S 92 13 = nI 0 := h.2.2.1 (13, nI 0) (by decide)
theorem ff_92_14 (h : mm_Tb S 92) : mm_M S 92 14 = nI 0 := h.2.2.1 (14, nI 0) (by decide)
theorem ff_92_15 (h : mm_Tb S 92) : mm_M S 92 15 = nI 0 := h.2.2.1 (15, nI 0) (by decide)
theorem ff_92_17 (h : mm_Tb S 92) : mm_M S 92 17 = nI 0 := h.2.2.1 (17, nI 0) (by decide)
theorem ff_92_18 (h : mm_Tb S 92) : mm_M S 92 18 = -1 := h.2.2.1 (18, -1) (by decide)
theorem ff_92_26 (h : mm_Tb S 92) : mm_M S 92 26 = nI 0 := h.2.2.1 (26, nI 0) (by decide)
theorem ff_92_27 (h : mm_Tb S 92) : mm_M S 92 27 = -1 := h.2.2.1 (27, -1) (by decide)
theorem ff_92_28 (h : mm_Tb S 92) : mm_M S 92 28 = nI 0 := h.2.2.1 (28, nI 0) (by decide)
theorem ff_92_36 (h : mm_Tb S 92) : mm_M S 92 36 = nI 0 := h.2.2.1 (36, nI 0) (by decide)
theorem ff_92_37 (h : mm_Tb S 92) : mm_M S 92 37 = nI 0 := h.2.2.1 (37, nI 0) (by decide)
theorem ff_92_39 (h : mm_Tb S 92) : mm_M S 92 39 = nI 0 := h.2.2.1 (39, nI 0) (by decide)
theorem ff_92_40 (h : mm_Tb S 92) : mm_M S 92 40 = nI 0 := h.2.2.1 (40, nI 0) (by decide)
theorem ff_92_42 (h : mm_Tb S 92) : mm_M S 92 42 = nI 0 := h.2.2.1 (42, nI 0) (by decide)
theorem ff_92_43 (h : mm_Tb S 92) : mm_M S 92 43 = nI 0 := h.2.2.1 (43, nI 0) (by decide)
theorem ff_92_47 (h : mm_Tb S 92) : mm_M S 92 47 = nI 0 := h.2.2.1 (47, nI 0) (by decide)
theorem ff_92_48 (h : mm_Tb S 92) : mm_M S 92 48 = nI 0 := h.2.2.1 (48, nI 0) (by decide)
theorem ff_92_49 (h : mm_Tb S 92) : mm_M S 92 49 = nI 0 := h.2.2.1 (49, nI 0) (by decide)
theorem ff_92_50 (h : mm_Tb S 92) : mm_M S 92 50 = nI 0 := h.2.2.1 (50, nI 0) (by decide)
theorem ff_92_51 (h : mm_Tb S 92) : mm_M S 92 51 = nI 0 := h.2.2.1 (51, nI 0) (by decide)
theorem ff_92_54 (h : mm_Tb S 92) : mm_M S 92 54 = nI 0 := h.2.2.1 (54, nI 0) (by decide)
theorem ff_92_59 (h : mm_Tb S 92) : mm_M S 92 59 = nI 0 := h.2.2.1 (59, nI 0) (by decide)
theorem ff_92_60 (h : mm_Tb S 92) : mm_M S 92 60 = nI 0 := h.2.2.1 (60, nI 0) (by decide)
theorem ff_92_61 (h : mm_Tb S 92) : mm_M S 92 61 = nI 0 := h.2.2.1 (61, nI 0) (by decide)
theorem ff_92_62 (h : mm_Tb S 92) : mm_M S 92 62 = nI 0 := h.2.2.1 (62, nI 0) (by decide)
theorem ff_92_63 (h : mm_Tb S 92) : mm_M S 92 63 = nI 0 := h.2.2.1 (63, nI 0) (by decide)
theorem ff_92_74 (h : mm_Tb S 92) : mm_M S 92 74 = nI 0 := h.2.2.1 (74, nI 0) (by decide)
theorem ff_88_0 (h : mm_Tb S 88) : mm_M S 88 0 = nI 0 := h.2.2.1 (0, nI 0) (by decide)
theorem ff_113_0 (h : mm_Tb S 113) : mm_M S 113 0 = nI 109 := h.2.2.1 (0, nI 109) (by decide)
theorem ff_113_1 (h : mm_Tb S 113) : mm_M S 113 1 = nI 111 := h.2.2.1 (1, nI 111) (by decide)
theorem ff_113_2 (h : mm_Tb S 113) : mm_M S 113 2 = nI 114 := h.2.2.1 (2, nI 114) (by decide)
theorem ff_113_3 (h : mm_Tb S 113) : mm_M S 113 3 = nI 101 := h.2.2.1 (3, nI 101) (by decide)
theorem ff_113_4 (h : mm_Tb S 113) : mm_M S 113 4 = nI 99 := h.2.2.1 (4, nI 99) (by decide)
theorem ff_113_5 (h : mm_Tb S 113) : mm_M S 113 5 = nI 111 := h.2.2.1 (5, nI 111) (by decide)
theorem ff_113_6 (h : mm_Tb S 113) : mm_M S 113 6 = nI 115 := h.2.2.1 (6, nI 115) (by decide)
theorem ff_113_7 (h : mm_Tb S 113) : mm_M S 113 7 = nI 116 := h.2.2.1 (7, nI 116) (by decide)
theorem ff_113_8 (h : mm_Tb S 113) : mm_M S 113 8 = nI 117 := h.2.2.1 (8, nI 117) (by decide)
theorem ff_113_9 (h : mm_Tb S 113) : mm_M S 113 9 = nI 112 := h.2.2.1 (9, nI 112) (by decide)
theorem ff_113_10 (h : mm_Tb S 113) : mm_M S 113 10 = nI 32 := h.2.2.1 (10, nI 32) (by decide)
theorem ff_113_11 (h : mm_Tb S 113) : mm_M S 113 11 = nI 32 := h.2.2.1 (11, nI 32) (by decide)
theorem ff_113_12 (h : mm_Tb S 113) : mm_M S 113 12 = nI 100 := h.2.2.1 (12, nI 100) (by decide)
theorem ff_113_13 (h : mm_Tb S 113) : mm_M S 113 13 = nI 111 := h.2.2.1 (13, nI 111) (by decide)
theorem ff_113_14 (h : mm_Tb S 113) : mm_M S 113 14 = nI 119 := h.2.2.1 (14, nI 119) (by decide)
theorem ff_113_15 (h : mm_Tb S 113) : mm_M S 113 15 = nI 110 := h.2.2.1 (15, nI 110) (by decide)
theorem ff_113_16 (h : mm_Tb S 113) : mm_M S 113 16 = nI 97 := h.2.2.1 (16, nI 97) (by decide)
theorem ff_113_17 (h : mm_Tb S 113) : mm_M S 113 17 = nI 119 := h.2.2.1 (17, nI 119) (by decide)
theorem ff_113_18 (h : mm_Tb S 113) : mm_M S 113 18 = nI 97 := h.2.2.1 (18, nI 97) (by decide)
theorem ff_113_19 (h : mm_Tb S 113) : mm_M S 113 19 = nI 121 := h.2.2.1 (19, nI 121) (by decide)
theorem ff_113_20 (h : mm_Tb S 113) : mm_M S 113 20 = nI 102 := h.2.2.1 (20, nI 102) (by decide)
theorem ff_113_21 (h : mm_Tb S 113) : mm_M S 113 21 = nI 101 := h.2.2.1 (21, nI 101) (by decide)
theorem ff_113_22 (h : mm_Tb S 113) : mm_M S 113 22 = nI 101 := h.2.2.1 (22, nI 101) (by decide)
theorem ff_113_23 (h : mm_Tb S 113) : mm_M S 113 23 = nI 32 := h.2.2.1 (23, nI 32) (by decide)
theorem ff_110_0 (h : mm_Tb S 110) : mm_M S 110 0 = -1 := h.2.2.1 (0, -1) (by decide)
theorem ff_110_1 (h : mm_Tb S 110) : mm_M S 110 1 = -1 := h.2.2.1 (1, -1) (by decide)
theorem ff_110_2 (h : mm_Tb S 110) : mm_M S 110 2 = -1 := h.2.2.1 (2, -1) (by decide)
theorem ff_110_3 (h : mm_Tb S 110) : mm_M S 110 3 = -1 := h.2.2.1 (3, -1) (by decide)
theorem ff_110_4 (h : mm_Tb S 110) : mm_M S 110 4 = -1 := h.2.2.1 (4, -1) (by decide)
theorem ff_110_5 (h : mm_Tb S 110) : mm_M S 110 5 = -1 := h.2.2.1 (5, -1) (by decide)
theorem bq_F (h : mm_Fr S) : mm_bq S 6 := by
  refine ⟨fun i hi e he => ?_, 1, Or.inl rfl, (h.2.2.1 6 (by decide)).2.2.2 (8, some 1) (by decide)⟩
  have h0 := (h.2.2.1 7 (by decide)).2.2.2 (i, none) (by
    have : i = 0 ∨ i = 1 ∨ i = 2 ∨ i = 3 ∨ i = 4 ∨ i = 5 := by omega
    rcases this with rfl | rfl | rfl | rfl | rfl | rfl <;> decide)
  exact absurd (h0.symm.trans he) (by simp)
end FR
end
section
/-! ===== small methods ===== -/
theorem dy6 : mm_dy 6 := Or.inl rfl
theorem dy15 : mm_dy 15 := Or.inr (Or.inl rfl)
theorem dy24 : mm_dy 24 := Or.inr (Or.inr (Or.inl rfl))
theorem dy33 : mm_dy 33 := Or.inr (Or.inr (Or.inr rfl))
theorem hc_g {S : mm_S} {a b c j : Nat} (h : ¬ c = a) (h2 : ¬ c = a + 1) : mm_rg (mm_cD S a b) c j = mm_rg S c j := by
  unfold mm_rg
  rw [hc_R, if_neg (fun e => h e.1), if_neg (fun e => h2 e.1)]
section SMALL
variable {d : Nat} {S : mm_S} {a : Nat} {b x lo hi : Int32}
theorem nr_0 : narrow .boolean (.int (nI 0)) = .int (nI 0) := id rfl
theorem nr_1 : narrow .boolean (.int (nI 1)) = .int (nI 1) := id rfl
theorem nr_if {p : Prop} [Decidable p] : narrow .boolean (.int (if p then nI 0 else nI 1)) = .int (if p then nI 0 else nI 1) := by split <;> rfl
theorem nr_fi {p : Prop} [Decidable p] : narrow .boolean (.int (if p then nI 1 else nI 0)) = .int (if p then nI 1 else nI 0) := by split <;> rfl
theorem if_or3 {α : Type} {p q : Prop} [Decidable p] [Decidable q] {u v : α} : (if p then u else if q then u else v) = if p ∨ q then u else v := by
  by_cases hp : p <;> by_cases hq : q <;> simp [hp, hq]
theorem if_res {p : Prop} [Decidable p] {u v : Int32} : (if p then (some (some (Value.int u), S) : mm_Res) else some (some (.int v), S)) = some (some (.int (if p then u else v)), S) := by split <;> rfl
theorem if_exs {p : Prop} [Decidable p] {y pc : Nat} {ls : List Value} {u v : Int32} : (if p then mm_ex d y pc ls [.int u] S else mm_ex d y pc ls [.int v] S) = mm_ex d y pc ls [.int (if p then u else v)] S := by split <;> rfl
theorem i01 : ¬ nI 1 = nI 0 := by decide
theorem i10 : ¬ nI 0 = nI 1 := by decide
theorem if_01 {p : Prop} [Decidable p] : ((if p then nI 0 else nI 1) = nI 0) = p := by by_cases h : p <;> simp [h, i01]
theorem if_10 {p : Prop} [Decidable p] : ((if p then nI 1 else nI 0) = nI 0) = ¬ p := by by_cases h : p <;> simp [h, i01]
theorem s8 (hw : mm_W S) (ha : mm_dy a) : mm_cl d 8 [.ref a, .int b] S = some (some (.int (if b < nI 0 ∨ mm_M S a 10 ≤ b then nI 0 else nI 1)), S) := by
  simp only [b8_0, b8_4, b8_12, b8_16, e8, wd_o hw ha, if_or3, if_res]
theorem s128 : mm_cl d 128 [.int x, .int lo, .int hi] S = some (some (.int (if x < lo ∨ hi < x then nI 0 else nI 1)), S) := by
  simp only [b128_0, b128_5, b128_10, b128_14, e128, if_or3, if_res]
theorem s129 (hw : mm_W S) : mm_cl (d + 1) 129 [.ref 92, .int b] S = some (some (.int (if b < nI 0 ∨ mm_M S 92 0 - nI 1 < b then nI 0 else nI 1)), S) := by
  simp only [b129_0, b129_11, e129, wf_o92 hw, s128, hp_bd, hp_ts, nr_if]
theorem s194 : mm_cl (d + 1) 194 [.ref a, .int x] S = some (some (.int (if x < nI 0 ∨ nI 5 < x then nI 0 else nI 1)), S) := by
  simp only [b194_0, b194_6, e194, s128, hp_bd, hp_ts, nr_if]
theorem s109 : mm_cl d 109 [.int x] S = some (some (.int (if x < nI 0 ∨ nI 6 ≤ x then nI 0 else nI 1)), S) := by
  simp only [b109_0, b109_4, b109_10, b109_14, e109, if_or3, if_res]
theorem s108 : mm_cl d 108 [.int x] S = some (some (.int (if nI 0 ≤ x then x else -5)), S) := by
  simp only [b108_0, b108_4, b108_9, e108, if_res]
theorem s20 (hw : mm_W S) (ha : mm_dy a) : mm_cl d 20 [.ref a] S = some (some (.int (if mm_M S a 11 ≤ nI 0 ∨ mm_M S a 13 ≤ nI 0 then nI 0 else nI 1)), S) := by
  simp only [b20_0, b20_7, b20_14, b20_18, e20, wd_o hw ha, if_or3, if_res]
theorem s168 (hw : mm_W S) : mm_cl d 168 [.ref 92] S = some (some (.int (if mm_M S 92 8 ≤ nI 0 ∨ mm_M S 92 11 ≤ nI 0 then nI 0 else nI 1)), S) := by
  simp only [b168_0, b168_7, b168_14, b168_18, e168, wf_o92 hw, if_or3, if_res]
theorem s11 (hw : mm_W S) (ha : mm_dy a) : mm_cl d 11 [.ref a] S = some (some (.int (if mm_M S a 11 ≤ nI 0 then -1 else mm_M S (a + 6) 0)), S) := by
  simp +decide only [b11_0, b11_7, b11_16, e11, wd_o hw ha, wd_k hw ha, wd_q hw ha, wd_g0 hw ha, wd_s0 hw ha, wd_N1 hw ha, wd_K1 hw ha, wd_a1 hw ha, wd_g1 hw ha, wd_s1 hw ha, wd_N2 hw ha, wd_a2 hw ha, wd_g2 hw ha, wd_s2 hw ha, wd_N3 hw ha, wd_a3 hw ha, wd_g3 hw ha, wd_s3 hw ha, wd_N4 hw ha, wd_a4 hw ha, wd_g4 hw ha, wd_s4 hw ha, wd_N5 hw ha, wd_a5 hw ha, wd_g5 hw ha, wd_s5 hw ha, wd_N6 hw ha, wd_a6 hw ha, wd_g6 hw ha, wd_s6 hw ha, wd_N7 hw ha, wd_a7 hw ha, wd_g7 hw ha, wd_s7 hw ha, wd_N8 hw ha, wd_a8 hw ha, nI_clamp, Nat.reducePow, if_exs]
  first | rfl | (split <;> rfl)
theorem s61 (hw : mm_W S) {t : Nat} (ho : mm_obj S t 8 = true) : mm_cl d 61 [.ref t] S = some (some (.int (if mm_M S t 1 = -1 then nI 1 else nI 0)), S) := by
  simp only [b61_0, b61_8, b61_12, e61, ho, if_res]
theorem s62 {t : Nat} (ho : mm_obj S t 8 = true) : mm_cl d 62 [.ref t, .int x] S = some (some (.int (if x < nI 0 ∨ mm_M S t 2 ≤ x then nI 0 else nI 1)), S) := by
  simp only [b62_0, b62_4, b62_12, b62_16, e62, ho, if_or3, if_res]
end SMALL
end
section
section WXS
variable {S : mm_S}
theorem wx_o0 (h : mm_W S) : mm_obj S 0 11 = true := wp_o h _ _ _ (by decide) rfl (by decide) rfl
theorem wx_k0 (h : mm_W S) : mm_rk S 0 = 11 := wp_k h _ _ (by decide) rfl (by decide)
theorem wx_q0 (h : mm_W S) : (decide (0 < mm_n S) && decide (mm_K S 0 < 13)) = true := wp_q h _ _ (by decide) rfl (by decide)
theorem wx_g0_0 (h : mm_W S) : mm_rg S 0 0 = 6 := wp_g h _ _ _ rfl
theorem wx_s0_0 (h : mm_W S) : (mm_R S 0 0).isSome = true := wp_s h _ _ _ rfl
theorem wx_g0_1 (h : mm_W S) : mm_rg S 0 1 = 15 := wp_g h _ _ _ rfl
theorem wx_s0_1 (h : mm_W S) : (mm_R S 0 1).isSome = true := wp_s h _ _ _ rfl
theorem wx_g0_2 (h : mm_W S) : mm_rg S 0 2 = 24 := wp_g h _ _ _ rfl
theorem wx_s0_2 (h : mm_W S) : (mm_R S 0 2).isSome = true := wp_s h _ _ _ rfl
theorem wx_g0_3 (h : mm_W S) : mm_rg S 0 3 = 33 := wp_g h _ _ _ rfl
theorem wx_s0_3 (h : mm_W S) : (mm_R S 0 3).isSome = true := wp_s h _ _ _ rfl
theorem wx_g0_4 (h : mm_W S) : mm_rg S 0 4 = 42 := wp_g h _ _ _ rfl
theorem wx_s0_4 (h : mm_W S) : (mm_R S 0 4).isSome = true := wp_s h _ _ _ rfl
theorem wx_N42 (h : mm_W S) : mm_N S 42 = 6 := wp_N h _ _ (by decide) rfl
theorem wx_a42 (h : mm_W S) : (mm_arr S 42 16 || mm_arr S 42 17 || mm_arr S 42 18) = true := by rw [wp_a h _ 17 (by decide) rfl]; simp
theorem wx_K42 (h : mm_W S) : mm_K S 42 = 17 := wp_K h _ _ (by decide) rfl
theorem wx_g0_5 (h : mm_W S) : mm_rg S 0 5 = 73 := wp_g h _ _ _ rfl
theorem wx_s0_5 (h : mm_W S) : (mm_R S 0 5).isSome = true := wp_s h _ _ _ rfl
theorem wx_g0_6 (h : mm_W S) : mm_rg S 0 6 = 75 := wp_g h _ _ _ rfl
theorem wx_s0_6 (h : mm_W S) : (mm_R S 0 6).isSome = true := wp_s h _ _ _ rfl
theorem wx_N75 (h : mm_W S) : mm_N S 75 = 6 := wp_N h _ _ (by decide) rfl
theorem wx_a75 (h : mm_W S) : (mm_arr S 75 16 || mm_arr S 75 17 || mm_arr S 75 18) = true := by rw [wp_a h _ 18 (by decide) rfl]; simp
theorem wx_K75 (h : mm_W S) : mm_K S 75 = 18 := wp_K h _ _ (by decide) rfl
theorem wx_g0_7 (h : mm_W S) : mm_rg S 0 7 = 88 := wp_g h _ _ _ rfl
theorem wx_s0_7 (h : mm_W S) : (mm_R S 0 7).isSome = true := wp_s h _ _ _ rfl
theorem wx_N88 (h : mm_W S) : mm_N S 88 = 21 := wp_N h _ _ (by decide) rfl
theorem wx_a88 (h : mm_W S) : mm_arr S 88 13 = true := wp_a h _ _ (by decide) rfl
theorem wx_g0_8 (h : mm_W S) : mm_rg S 0 8 = 89 := wp_g h _ _ _ rfl
theorem wx_s0_8 (h : mm_W S) : (mm_R S 0 8).isSome = true := wp_s h _ _ _ rfl
theorem wx_N89 (h : mm_W S) : mm_N S 89 = 6 := wp_N h _ _ (by decide) rfl
theorem wx_a89 (h : mm_W S) : mm_arr S 89 13 = true := wp_a h _ _ (by decide) rfl
theorem wx_g0_9 (h : mm_W S) : mm_rg S 0 9 = 90 := wp_g h _ _ _ rfl
theorem wx_s0_9 (h : mm_W S) : (mm_R S 0 9).isSome = true := wp_s h _ _ _ rfl
theorem wx_N90 (h : mm_W S) : mm_N S 90 = 6 := wp_N h _ _ (by decide) rfl
theorem wx_a90 (h : mm_W S) : mm_arr S 90 13 = true := wp_a h _ _ (by decide) rfl
theorem wx_g0_10 (h : mm_W S) : mm_rg S 0 10 = 91 := wp_g h _ _ _ rfl
theorem wx_s0_10 (h : mm_W S) : (mm_R S 0 10).isSome = true := wp_s h _ _ _ rfl
theorem wx_N91 (h : mm_W S) : mm_N S 91 = 6 := wp_N h _ _ (by decide) rfl
theorem wx_a91 (h : mm_W S) : mm_arr S 91 13 = true := wp_a h _ _ (by decide) rfl
theorem wx_o1 (h : mm_W S) : mm_obj S 1 6 = true := wp_o h _ _ _ (by decide) rfl (by decide) rfl
theorem wx_k1 (h : mm_W S) : mm_rk S 1 = 6 := wp_k h _ _ (by decide) rfl (by decide)
theorem wx_q1 (h : mm_W S) : (decide (1 < mm_n S) && decide (mm_K S 1 < 13)) = true := wp_q h _ _ (by decide) rfl (by decide)
theorem wx_g1_4 (h : mm_W S) : mm_rg S 1 4 = 2 := wp_g h _ _ _ rfl
theorem wx_s1_4 (h : mm_W S) : (mm_R S 1 4).isSome = true := wp_s h _ _ _ rfl
theorem wx_N2 (h : mm_W S) : mm_N S 2 = 10 := wp_N h _ _ (by decide) rfl
theorem wx_a2 (h : mm_W S) : mm_arr S 2 13 = true := wp_a h _ _ (by decide) rfl
theorem wx_g1_5 (h : mm_W S) : mm_rg S 1 5 = 3 := wp_g h _ _ _ rfl
theorem wx_s1_5 (h : mm_W S) : (mm_R S 1 5).isSome = true := wp_s h _ _ _ rfl
theorem wx_N3 (h : mm_W S) : mm_N S 3 = 10 := wp_N h _ _ (by decide) rfl
theorem wx_a3 (h : mm_W S) : mm_arr S 3 13 = true := wp_a h _ _ (by decide) rfl
theorem wx_g1_6 (h : mm_W S) : mm_rg S 1 6 = 4 := wp_g h _ _ _ rfl
theorem wx_s1_6 (h : mm_W S) : (mm_R S 1 6).isSome = true := wp_s h _ _ _ rfl
theorem wx_N4 (h : mm_W S) : mm_N S 4 = 10 := wp_N h _ _ (by decide) rfl
theorem wx_a4 (h : mm_W S) : mm_arr S 4 13 = true := wp_a h _ _ (by decide) rfl
theorem wx_g1_7 (h : mm_W S) : mm_rg S 1 7 = 5 := wp_g h _ _ _ rfl
theorem wx_s1_7 (h : mm_W S) : (mm_R S 1 7).isSome = true := wp_s h _ _ _ rfl
theorem wx_N5 (h : mm_W S) : mm_N S 5 = 100 := wp_N h _ _ (by decide) rfl
theorem wx_a5 (h : mm_W S) : mm_arr S 5 13 = true := wp_a h _ _ (by decide) rfl
theorem wx_o6 (h : mm_W S) : mm_obj S 6 1 = true := wp_o h _ _ _ (by decide) rfl (by decide) rfl
theorem wx_k6 (h : mm_W S) : mm_rk S 6 = 1 := wp_k h _ _ (by decide) rfl (by decide)
theorem wx_q6 (h : mm_W S) : (decide (6 < mm_n S) && decide (mm_K S 6 < 13)) = true := wp_q h _ _ (by decide) rfl (by decide)
theorem wx_g6_0 (h : mm_W S) : mm_rg S 6 0 = 7 := wp_g h _ _ _ rfl
theorem wx_s6_0 (h : mm_W S) : (mm_R S 6 0).isSome = true := wp_s h _ _ _ rfl
theorem wx_N7 (h : mm_W S) : mm_N S 7 = 6 := wp_N h _ _ (by decide) rfl
theorem wx_a7 (h : mm_W S) : (mm_arr S 7 16 || mm_arr S 7 17 || mm_arr S 7 18) = true := by rw [wp_a h _ 16 (by decide) rfl]; simp
theorem wx_K7 (h : mm_W S) : mm_K S 7 = 16 := wp_K h _ _ (by decide) rfl
theorem wx_g6_1 (h : mm_W S) : mm_rg S 6 1 = 8 := wp_g h _ _ _ rfl
theorem wx_s6_1 (h : mm_W S) : (mm_R S 6 1).isSome = true := wp_s h _ _ _ rfl
theorem wx_N8 (h : mm_W S) : mm_N S 8 = 6 := wp_N h _ _ (by decide) rfl
theorem wx_a8 (h : mm_W S) : mm_arr S 8 13 = true := wp_a h _ _ (by decide) rfl
theorem wx_g6_2 (h : mm_W S) : mm_rg S 6 2 = 9 := wp_g h _ _ _ rfl
theorem wx_s6_2 (h : mm_W S) : (mm_R S 6 2).isSome = true := wp_s h _ _ _ rfl
theorem wx_N9 (h : mm_W S) : mm_N S 9 = 18 := wp_N h _ _ (by decide) rfl
theorem wx_a9 (h : mm_W S) : mm_arr S 9 13 = true := wp_a h _ _ (by decide) rfl
theorem wx_g6_3 (h : mm_W S) : mm_rg S 6 3 = 10 := wp_g h _ _ _ rfl
theorem wx_s6_3 (h : mm_W S) : (mm_R S 6 3).isSome = true := wp_s h _ _ _ rfl
theorem wx_N10 (h : mm_W S) : mm_N S 10 = 6 := wp_N h _ _ (by decide) rfl
theorem wx_a10 (h : mm_W S) : mm_arr S 10 13 = true := wp_a h _ _ (by decide) rfl
theorem wx_g6_4 (h : mm_W S) : mm_rg S 6 4 = 11 := wp_g h _ _ _ rfl
theorem wx_s6_4 (h : mm_W S) : (mm_R S 6 4).isSome = true := wp_s h _ _ _ rfl
theorem wx_N11 (h : mm_W S) : mm_N S 11 = 6 := wp_N h _ _ (by decide) rfl
theorem wx_a11 (h : mm_W S) : mm_arr S 11 13 = true := wp_a h _ _ (by decide) rfl
theorem wx_g6_5 (h : mm_W S) : mm_rg S 6 5 = 12 := wp_g h _ _ _ rfl
theorem wx_s6_5 (h : mm_W S) : (mm_R S 6 5).isSome = true := wp_s h _ _ _ rfl
theorem wx_N12 (h : mm_W S) : mm_N S 12 = 6 := wp_N h _ _ (by decide) rfl
theorem wx_a12 (h : mm_W S) : mm_arr S 12 13 = true := wp_a h _ _ (by decide) rfl
theorem wx_g6_6 (h : mm_W S) : mm_rg S 6 6 = 13 := wp_g h _ _ _ rfl
theorem wx_s6_6 (h : mm_W S) : (mm_R S 6 6).isSome = true := wp_s h _ _ _ rfl
theorem wx_N13 (h : mm_W S) : mm_N S 13 = 12 := wp_N h _ _ (by decide) rfl
theorem wx_a13 (h : mm_W S) : mm_arr S 13 13 = true := wp_a h _ _ (by decide) rfl
theorem wx_g6_7 (h : mm_W S) : mm_rg S 6 7 = 14 := wp_g h _ _ _ rfl
theorem wx_s6_7 (h : mm_W S) : (mm_R S 6 7).isSome = true := wp_s h _ _ _ rfl
theorem wx_N14 (h : mm_W S) : mm_N S 14 = 7 := wp_N h _ _ (by decide) rfl
theorem wx_a14 (h : mm_W S) : mm_arr S 14 13 = true := wp_a h _ _ (by decide) rfl
theorem wx_o15 (h : mm_W S) : mm_obj S 15 1 = true := wp_o h _ _ _ (by decide) rfl (by decide) rfl
theorem wx_k15 (h : mm_W S) : mm_rk S 15 = 1 := wp_k h _ _ (by decide) rfl (by decide)
theorem wx_q15 (h : mm_W S) : (decide (15 < mm_n S) && decide (mm_K S 15 < 13)) = true := wp_q h _ _ (by decide) rfl (by decide)
theorem wx_g15_0 (h : mm_W S) : mm_rg S 15 0 = 16 := wp_g h _ _ _ rfl
theorem wx_s15_0 (h : mm_W S) : (mm_R S 15 0).isSome = true := wp_s h _ _ _ rfl
theorem wx_N16 (h : mm_W S) : mm_N S 16 = 6 := wp_N h _ _ (by decide) rfl
theorem wx_a16 (h : mm_W S) : (mm_arr S 16 16 || mm_arr S 16 17 || mm_arr S 16 18) = true := by rw [wp_a h _ 16 (by decide) rfl]; simp
theorem wx_K16 (h : mm_W S) : mm_K S 16 = 16 := wp_K h _ _ (by decide) rfl
theorem wx_g15_1 (h : mm_W S) : mm_rg S 15 1 = 17 := wp_g h _ _ _ rfl
theorem wx_s15_1 (h : mm_W S) : (mm_R S 15 1).isSome = true := wp_s h _ _ _ rfl
theorem wx_N17 (h : mm_W S) : mm_N S 17 = 6 := wp_N h _ _ (by decide) rfl
theorem wx_a17 (h : mm_W S) : mm_arr S 17 13 = true := wp_a h _ _ (by decide) rfl
theorem wx_g15_2 (h : mm_W S) : mm_rg S 15 2 = 18 := wp_g h _ _ _ rfl
theorem wx_s15_2 (h : mm_W S) : (mm_R S 15 2).isSome = true := wp_s h _ _ _ rfl
theorem wx_N18 (h : mm_W S) : mm_N S 18 = 18 := wp_N h _ _ (by decide) rfl
theorem wx_a18 (h : mm_W S) : mm_arr S 18 13 = true := wp_a h _ _ (by decide) rfl
theorem wx_g15_3 (h : mm_W S) : mm_rg S 15 3 = 19 := wp_g h _ _ _ rfl
theorem wx_s15_3 (h : mm_W S) : (mm_R S 15 3).isSome = true := wp_s h _ _ _ rfl
theorem wx_N19 (h : mm_W S) : mm_N S 19 = 6 := wp_N h _ _ (by decide) rfl
theorem wx_a19 (h : mm_W S) : mm_arr S 19 13 = true := wp_a h _ _ (by decide) rfl
theorem wx_g15_4 (h : mm_W S) : mm_rg S 15 4 = 20 := wp_g h _ _ _ rfl
theorem wx_s15_4 (h : mm_W S) : (mm_R S 15 4).isSome = true := wp_s h _ _ _ rfl
theorem wx_N20 (h : mm_W S) : mm_N S 20 = 6 := wp_N h _ _ (by decide) rfl
theorem wx_a20 (h : mm_W S) : mm_arr S 20 13 = true := wp_a h _ _ (by decide) rfl
theorem wx_g15_5 (h : mm_W S) : mm_rg S 15 5 = 21 := wp_g h _ _ _ rfl
theorem wx_s15_5 (h : mm_W S) : (mm_R S 15 5).isSome = true := wp_s h _ _ _ rfl
theorem wx_N21 (h : mm_W S) : mm_N S 21 = 6 := wp_N h _ _ (by decide) rfl
theorem wx_a21 (h : mm_W S) : mm_arr S 21 13 = true := wp_a h _ _ (by decide) rfl
theorem wx_g15_6 (h : mm_W S) : mm_rg S 15 6 = 22 := wp_g h _ _ _ rfl
theorem wx_s15_6 (h : mm_W S) : (mm_R S 15 6).isSome = true := wp_s h _ _ _ rfl
theorem wx_N22 (h : mm_W S) : mm_N S 22 = 12 := wp_N h _ _ (by decide) rfl
theorem wx_a22 (h : mm_W S) : mm_arr S 22 13 = true := wp_a h _ _ (by decide) rfl
theorem wx_g15_7 (h : mm_W S) : mm_rg S 15 7 = 23 := wp_g h _ _ _ rfl
theorem wx_s15_7 (h : mm_W S) : (mm_R S 15 7).isSome = true := wp_s h _ _ _ rfl
theorem wx_N23 (h : mm_W S) : mm_N S 23 = 7 := wp_N h _ _ (by decide) rfl
theorem wx_a23 (h : mm_W S) : mm_arr S 23 13 = true := wp_a h _ _ (by decide) rfl
theorem wx_o24 (h : mm_W S) : mm_obj S 24 1 = true := wp_o h _ _ _ (by decide) rfl (by decide) rfl
theorem wx_k24 (h : mm_W S) : mm_rk S 24 = 1 := wp_k h _ _ (by decide) rfl (by decide)
theorem wx_q24 (h : mm_W S) : (decide (24 < mm_n S) && decide (mm_K S 24 < 13)) = true := wp_q h _ _ (by decide) rfl (by decide)
theorem wx_g24_0 (h : mm_W S) : mm_rg S 24 0 = 25 := wp_g h _ _ _ rfl
theorem wx_s24_0 (h : mm_W S) : (mm_R S 24 0).isSome = true := wp_s h _ _ _ rfl
theorem wx_N25 (h : mm_W S) : mm_N S 25 = 6 := wp_N h _ _ (by decide) rfl
theorem wx_a25 (h : mm_W S) : (mm_arr S 25 16 || mm_arr S 25 17 || mm_arr S 25 18) = true := by rw [wp_a h _ 16 (by decide) rfl]; simp
theorem wx_K25 (h : mm_W S) : mm_K S 25 = 16 := wp_K h _ _ (by decide) rfl
theorem wx_g24_1 (h : mm_W S) : mm_rg S 24 1 = 26 := wp_g h _ _ _ rfl
theorem wx_s24_1 (h : mm_W S) : (mm_R S 24 1).isSome = true := wp_s h _ _ _ rfl
theorem wx_N26 (h : mm_W S) : mm_N S 26 = 6 := wp_N h _ _ (by decide) rfl
theorem wx_a26 (h : mm_W S) : mm_arr S 26 13 = true := wp_a h _ _ (by decide) rfl
theorem wx_g24_2 (h : mm_W S) : mm_rg S 24 2 = 27 := wp_g h _ _ _ rfl
theorem wx_s24_2 (h : mm_W S) : (mm_R S 24 2).isSome = true := wp_s h _ _ _ rfl
theorem wx_N27 (h : mm_W S) : mm_N S 27 = 18 := wp_N h _ _ (by decide) rfl
theorem wx_a27 (h : mm_W S) : mm_arr S 27 13 = true := wp_a h _ _ (by decide) rfl
theorem wx_g24_3 (h : mm_W S) : mm_rg S 24 3 = 28 := wp_g h _ _ _ rfl
theorem wx_s24_3 (h : mm_W S) : (mm_R S 24 3).isSome = true := wp_s h _ _ _ rfl
theorem wx_N28 (h : mm_W S) : mm_N S 28 = 6 := wp_N h _ _ (by decide) rfl
theorem wx_a28 (h : mm_W S) : mm_arr S 28 13 = true := wp_a h _ _ (by decide) rfl
theorem wx_g24_4 (h : mm_W S) : mm_rg S 24 4 = 29 := wp_g h _ _ _ rfl
theorem wx_s24_4 (h : mm_W S) : (mm_R S 24 4).isSome = true := wp_s h _ _ _ rfl
theorem wx_N29 (h : mm_W S) : mm_N S 29 = 6 := wp_N h _ _ (by decide) rfl
theorem wx_a29 (h : mm_W S) : mm_arr S 29 13 = true := wp_a h _ _ (by decide) rfl
theorem wx_g24_5 (h : mm_W S) : mm_rg S 24 5 = 30 := wp_g h _ _ _ rfl
theorem wx_s24_5 (h : mm_W S) : (mm_R S 24 5).isSome = true := wp_s h _ _ _ rfl
theorem wx_N30 (h : mm_W S) : mm_N S 30 = 6 := wp_N h _ _ (by decide) rfl
theorem wx_a30 (h : mm_W S) : mm_arr S 30 13 = true := wp_a h _ _ (by decide) rfl
theorem wx_g24_6 (h : mm_W S) : mm_rg S 24 6 = 31 := wp_g h _ _ _ rfl
theorem wx_s24_6 (h : mm_W S) : (mm_R S 24 6).isSome = true := wp_s h _ _ _ rfl
theorem wx_N31 (h : mm_W S) : mm_N S 31 = 12 := wp_N h _ _ (by decide) rfl
theorem wx_a31 (h : mm_W S) : mm_arr S 31 13 = true := wp_a h _ _ (by decide) rfl
theorem wx_g24_7 (h : mm_W S) : mm_rg S 24 7 = 32 := wp_g h _ _ _ rfl
theorem wx_s24_7 (h : mm_W S) : (mm_R S 24 7).isSome = true := wp_s h _ _ _ rfl
theorem wx_N32 (h : mm_W S) : mm_N S 32 = 7 := wp_N h _ _ (by decide) rfl
theorem wx_a32 (h : mm_W S) : mm_arr S 32 13 = true := wp_a h _ _ (by decide) rfl
theorem wx_o33 (h : mm_W S) : mm_obj S 33 1 = true := wp_o h _ _ _ (by decide) rfl (by decide) rfl
theorem wx_k33 (h : mm_W S) : mm_rk S 33 = 1 := wp_k h _ _ (by decide) rfl (by decide)
theorem wx_q33 (h : mm_W S) : (decide (33 < mm_n S) && decide (mm_K S 33 < 13)) = true := wp_q h _ _ (by decide) rfl (by decide)
theorem wx_g33_0 (h : mm_W S) : mm_rg S 33 0 = 34 := wp_g h _ _ _ rfl
theorem wx_s33_0 (h : mm_W S) : (mm_R S 33 0).isSome = true := wp_s h _ _ _ rfl
theorem wx_N34 (h : mm_W S) : mm_N S 34 = 6 := wp_N h _ _ (by decide) rfl
theorem wx_a34 (h : mm_W S) : (mm_arr S 34 16 || mm_arr S 34 17 || mm_arr S 34 18) = true := by rw [wp_a h _ 16 (by decide) rfl]; simp
theorem wx_K34 (h : mm_W S) : mm_K S 34 = 16 := wp_K h _ _ (by decide) rfl
theorem wx_g33_1 (h : mm_W S) : mm_rg S 33 1 = 35 := wp_g h _ _ _ rfl
theorem wx_s33_1 (h : mm_W S) : (mm_R S 33 1).isSome = true := wp_s h _ _ _ rfl
theorem wx_N35 (h : mm_W S) : mm_N S 35 = 6 := wp_N h _ _ (by decide) rfl
theorem wx_a35 (h : mm_W S) : mm_arr S 35 13 = true := wp_a h _ _ (by decide) rfl
theorem wx_g33_2 (h : mm_W S) : mm_rg S 33 2 = 36 := wp_g h _ _ _ rfl
theorem wx_s33_2 (h : mm_W S) : (mm_R S 33 2).isSome = true := wp_s h _ _ _ rfl
theorem wx_N36 (h : mm_W S) : mm_N S 36 = 18 := wp_N h _ _ (by decide) rfl
theorem wx_a36 (h : mm_W S) : mm_arr S 36 13 = true := wp_a h _ _ (by decide) rfl
theorem wx_g33_3 (h : mm_W S) : mm_rg S 33 3 = 37 := wp_g h _ _ _ rfl
theorem wx_s33_3 (h : mm_W S) : (mm_R S 33 3).isSome = true := wp_s h _ _ _ rfl
theorem wx_N37 (h : mm_W S) : mm_N S 37 = 6 := wp_N h _ _ (by decide) rfl
theorem wx_a37 (h : mm_W S) : mm_arr S 37 13 = true := wp_a h _ _ (by decide) rfl
theorem wx_g33_4 (h : mm_W S) : mm_rg S 33 4 = 38 := wp_g h _ _ _ rfl
theorem wx_s33_4 (h : mm_W S) : (mm_R S 33 4).isSome = true := wp_s h _ _ _ rfl
theorem wx_N38 (h : mm_W S) : mm_N S 38 = 6 := wp_N h _ _ (by decide) rfl
theorem wx_a38 (h : mm_W S) : mm_arr S 38 13 = true := wp_a h _ _ (by decide) rfl
theorem wx_g33_5 (h : mm_W S) : mm_rg S 33 5 = 39 := wp_g h _ _ _ rfl
theorem wx_s33_5 (h : mm_W S) : (mm_R S 33 5).isSome = true := wp_s h _ _ _ rfl
theorem wx_N39 (h : mm_W S) : mm_N S 39 = 6 := wp_N h _ _ (by decide) rfl
theorem wx_a39 (h : mm_W S) : mm_arr S 39 13 = true := wp_a h _ _ (by decide) rfl
theorem wx_g33_6 (h : mm_W S) : mm_rg S 33 6 = 40 := wp_g h _ _ _ rfl
theorem wx_s33_6 (h : mm_W S) : (mm_R S 33 6).isSome = true := wp_s h _ _ _ rfl
theorem wx_N40 (h : mm_W S) : mm_N S 40 = 12 := wp_N h _ _ (by decide) rfl
theorem wx_a40 (h : mm_W S) : mm_arr S 40 13 = true := wp_a h _ _ (by decide) rfl
theorem wx_g33_7 (h : mm_W S) : mm_rg S 33 7 = 41 := wp_g h _ _ _ rfl
theorem wx_s33_7 (h : mm_W S) : (mm_R S 33 7).isSome = true := wp_s h _ _ _ rfl
theorem wx_N41 (h : mm_W S) : mm_N S 41 = 7 := wp_N h _ _ (by decide) rfl
theorem wx_a41 (h : mm_W S) : mm_arr S 41 13 = true := wp_a h _ _ (by decide) rfl
theorem wx_g42_0 (h : mm_W S) : mm_rg S 42 0 = 43 := wp_g h _ _ _ rfl
theorem wx_s42_0 (h : mm_W S) : (mm_R S 42 0).isSome = true := wp_s h _ _ _ rfl
theorem wx_g42_1 (h : mm_W S) : mm_rg S 42 1 = 48 := wp_g h _ _ _ rfl
theorem wx_s42_1 (h : mm_W S) : (mm_R S 42 1).isSome = true := wp_s h _ _ _ rfl
theorem wx_g42_2 (h : mm_W S) : mm_rg S 42 2 = 53 := wp_g h _ _ _ rfl
theorem wx_s42_2 (h : mm_W S) : (mm_R S 42 2).isSome = true := wp_s h _ _ _ rfl
theorem wx_g42_3 (h : mm_W S) : mm_rg S 42 3 = 58 := wp_g h _ _ _ rfl
theorem wx_s42_3 (h : mm_W S) : (mm_R S 42 3).isSome = true := wp_s h _ _ _ rfl
theorem wx_g42_4 (h : mm_W S) : mm_rg S 42 4 = 63 := wp_g h _ _ _ rfl
theorem wx_s42_4 (h : mm_W S) : (mm_R S 42 4).isSome = true := wp_s h _ _ _ rfl
theorem wx_g42_5 (h : mm_W S) : mm_rg S 42 5 = 68 := wp_g h _ _ _ rfl
theorem wx_s42_5 (h : mm_W S) : (mm_R S 42 5).isSome = true := wp_s h _ _ _ rfl
theorem wx_o73 (h : mm_W S) : mm_obj S 73 5 = true := wp_o h _ _ _ (by decide) rfl (by decide) rfl
theorem wx_k73 (h : mm_W S) : mm_rk S 73 = 5 := wp_k h _ _ (by decide) rfl (by decide)
theorem wx_q73 (h : mm_W S) : (decide (73 < mm_n S) && decide (mm_K S 73 < 13)) = true := wp_q h _ _ (by decide) rfl (by decide)
theorem wx_g73_1 (h : mm_W S) : mm_rg S 73 1 = 74 := wp_g h _ _ _ rfl
theorem wx_s73_1 (h : mm_W S) : (mm_R S 73 1).isSome = true := wp_s h _ _ _ rfl
theorem wx_N74 (h : mm_W S) : mm_N S 74 = 100 := wp_N h _ _ (by decide) rfl
theorem wx_a74 (h : mm_W S) : mm_arr S 74 13 = true := wp_a h _ _ (by decide) rfl
theorem wx_g75_0 (h : mm_W S) : mm_rg S 75 0 = 76 := wp_g h _ _ _ rfl
theorem wx_s75_0 (h : mm_W S) : (mm_R S 75 0).isSome = true := wp_s h _ _ _ rfl
theorem wx_g75_1 (h : mm_W S) : mm_rg S 75 1 = 78 := wp_g h _ _ _ rfl
theorem wx_s75_1 (h : mm_W S) : (mm_R S 75 1).isSome = true := wp_s h _ _ _ rfl
theorem wx_g75_2 (h : mm_W S) : mm_rg S 75 2 = 80 := wp_g h _ _ _ rfl
theorem wx_s75_2 (h : mm_W S) : (mm_R S 75 2).isSome = true := wp_s h _ _ _ rfl
theorem wx_g75_3 (h : mm_W S) : mm_rg S 75 3 = 82 := wp_g h _ _ _ rfl
theorem wx_s75_3 (h : mm_W S) : (mm_R S 75 3).isSome = true := wp_s h _ _ _ rfl
theorem wx_g75_4 (h : mm_W S) : mm_rg S 75 4 = 84 := wp_g h _ _ _ rfl
theorem wx_s75_4 (h : mm_W S) : (mm_R S 75 4).isSome = true := wp_s h _ _ _ rfl
theorem wx_g75_5 (h : mm_W S) : mm_rg S 75 5 = 86 := wp_g h _ _ _ rfl
theorem wx_s75_5 (h : mm_W S) : (mm_R S 75 5).isSome = true := wp_s h _ _ _ rfl
theorem wx_o76 (h : mm_W S) : mm_obj S 76 8 = true := wp_o h _ _ _ (by decide) rfl (by decide) rfl
theorem wx_k76 (h : mm_W S) : mm_rk S 76 = 8 := wp_k h _ _ (by decide) rfl (by decide)
theorem wx_q76 (h : mm_W S) : (decide (76 < mm_n S) && decide (mm_K S 76 < 13)) = true := wp_q h _ _ (by decide) rfl (by decide)
theorem wx_g76_0 (h : mm_W S) : mm_rg S 76 0 = 77 := wp_g h _ _ _ rfl
theorem wx_s76_0 (h : mm_W S) : (mm_R S 76 0).isSome = true := wp_s h _ _ _ rfl
theorem wx_N77 (h : mm_W S) : mm_N S 77 = 60 := wp_N h _ _ (by decide) rfl
theorem wx_a77 (h : mm_W S) : mm_arr S 77 14 = true := wp_a h _ _ (by decide) rfl
theorem wx_o78 (h : mm_W S) : mm_obj S 78 8 = true := wp_o h _ _ _ (by decide) rfl (by decide) rfl
theorem wx_k78 (h : mm_W S) : mm_rk S 78 = 8 := wp_k h _ _ (by decide) rfl (by decide)
theorem wx_q78 (h : mm_W S) : (decide (78 < mm_n S) && decide (mm_K S 78 < 13)) = true := wp_q h _ _ (by decide) rfl (by decide)
theorem wx_g78_0 (h : mm_W S) : mm_rg S 78 0 = 79 := wp_g h _ _ _ rfl
theorem wx_s78_0 (h : mm_W S) : (mm_R S 78 0).isSome = true := wp_s h _ _ _ rfl
theorem wx_N79 (h : mm_W S) : mm_N S 79 = 60 := wp_N h _ _ (by decide) rfl
theorem wx_a79 (h : mm_W S) : mm_arr S 79 14 = true := wp_a h _ _ (by decide) rfl
theorem wx_o80 (h : mm_W S) : mm_obj S 80 8 = true := wp_o h _ _ _ (by decide) rfl (by decide) rfl
theorem wx_k80 (h : mm_W S) : mm_rk S 80 = 8 := wp_k h _ _ (by decide) rfl (by decide)
theorem wx_q80 (h : mm_W S) : (decide (80 < mm_n S) && decide (mm_K S 80 < 13)) = true := wp_q h _ _ (by decide) rfl (by decide)
theorem wx_g80_0 (h : mm_W S) : mm_rg S 80 0 = 81 := wp_g h _ _ _ rfl
theorem wx_s80_0 (h : mm_W S) : (mm_R S 80 0).isSome = true := wp_s h _ _ _ rfl
theorem wx_N81 (h : mm_W S) : mm_N S 81 = 60 := wp_N h _ _ (by decide) rfl
theorem wx_a81 (h : mm_W S) : mm_arr S 81 14 = true := wp_a h _ _ (by decide) rfl
theorem wx_o82 (h : mm_W S) : mm_obj S 82 8 = true := wp_o h _ _ _ (by decide) rfl (by decide) rfl
theorem wx_k82 (h : mm_W S) : mm_rk S 82 = 8 := wp_k h _ _ (by decide) rfl (by decide)
theorem wx_q82 (h : mm_W S) : (decide (82 < mm_n S) && decide (mm_K S 82 < 13)) = true := wp_q h _ _ (by decide) rfl (by decide)
theorem wx_g82_0 (h : mm_W S) : mm_rg S 82 0 = 83 := wp_g h _ _ _ rfl
theorem wx_s82_0 (h : mm_W S) : (mm_R S 82 0).isSome = true := wp_s h _ _ _ rfl
theorem wx_N83 (h : mm_W S) : mm_N S 83 = 60 := wp_N h _ _ (by decide) rfl
theorem wx_a83 (h : mm_W S) : mm_arr S 83 14 = true := wp_a h _ _ (by decide) rfl
theorem wx_o84 (h : mm_W S) : mm_obj S 84 8 = true := wp_o h _ _ _ (by decide) rfl (by decide) rfl
theorem wx_k84 (h : mm_W S) : mm_rk S 84 = 8 := wp_k h _ _ (by decide) rfl (by decide)
theorem wx_q84 (h : mm_W S) : (decide (84 < mm_n S) && decide (mm_K S 84 < 13)) = true := wp_q h _ _ (by decide) rfl (by decide)
theorem wx_g84_0 (h : mm_W S) : mm_rg S 84 0 = 85 := wp_g h _ _ _ rfl
theorem wx_s84_0 (h : mm_W S) : (mm_R S 84 0).isSome = true := wp_s h _ _ _ rfl
theorem wx_N85 (h : mm_W S) : mm_N S 85 = 60 := wp_N h _ _ (by decide) rfl
theorem wx_a85 (h : mm_W S) : mm_arr S 85 14 = true := wp_a h _ _ (by decide) rfl
theorem wx_o86 (h : mm_W S) : mm_obj S 86 8 = true := wp_o h _ _ _ (by decide) rfl (by decide) rfl
theorem wx_k86 (h : mm_W S) : mm_rk S 86 = 8 := wp_k h _ _ (by decide) rfl (by decide)
theorem wx_q86 (h : mm_W S) : (decide (86 < mm_n S) && decide (mm_K S 86 < 13)) = true := wp_q h _ _ (by decide) rfl (by decide)
theorem wx_g86_0 (h : mm_W S) : mm_rg S 86 0 = 87 := wp_g h _ _ _ rfl
theorem wx_s86_0 (h : mm_W S) : (mm_R S 86 0).isSome = true := wp_s h _ _ _ rfl
theorem wx_N87 (h : mm_W S) : mm_N S 87 = 60 := wp_N h _ _ (by decide) rfl
theorem wx_a87 (h : mm_W S) : mm_arr S 87 14 = true := wp_a h _ _ (by decide) rfl
theorem wx_o92 (h : mm_W S) : mm_obj S 92 12 = true := wp_o h _ _ _ (by decide) rfl (by decide) rfl
theorem wx_k92 (h : mm_W S) : mm_rk S 92 = 12 := wp_k h _ _ (by decide) rfl (by decide)
theorem wx_q92 (h : mm_W S) : (decide (92 < mm_n S) && decide (mm_K S 92 < 13)) = true := wp_q h _ _ (by decide) rfl (by decide)
theorem wx_g92_1 (h : mm_W S) : mm_rg S 92 1 = 93 := wp_g h _ _ _ rfl
theorem wx_s92_1 (h : mm_W S) : (mm_R S 92 1).isSome = true := wp_s h _ _ _ rfl
theorem wx_N93 (h : mm_W S) : mm_N S 93 = 6 := wp_N h _ _ (by decide) rfl
theorem wx_a93 (h : mm_W S) : mm_arr S 93 13 = true := wp_a h _ _ (by decide) rfl
theorem wx_g92_2 (h : mm_W S) : mm_rg S 92 2 = 94 := wp_g h _ _ _ rfl
theorem wx_s92_2 (h : mm_W S) : (mm_R S 92 2).isSome = true := wp_s h _ _ _ rfl
theorem wx_N94 (h : mm_W S) : mm_N S 94 = 6 := wp_N h _ _ (by decide) rfl
theorem wx_a94 (h : mm_W S) : mm_arr S 94 13 = true := wp_a h _ _ (by decide) rfl
theorem wx_g92_3 (h : mm_W S) : mm_rg S 92 3 = 95 := wp_g h _ _ _ rfl
theorem wx_s92_3 (h : mm_W S) : (mm_R S 92 3).isSome = true := wp_s h _ _ _ rfl
theorem wx_N95 (h : mm_W S) : mm_N S 95 = 6 := wp_N h _ _ (by decide) rfl
theorem wx_a95 (h : mm_W S) : mm_arr S 95 13 = true := wp_a h _ _ (by decide) rfl
theorem wx_g92_4 (h : mm_W S) : mm_rg S 92 4 = 96 := wp_g h _ _ _ rfl
theorem wx_s92_4 (h : mm_W S) : (mm_R S 92 4).isSome = true := wp_s h _ _ _ rfl
theorem wx_N96 (h : mm_W S) : mm_N S 96 = 6 := wp_N h _ _ (by decide) rfl
theorem wx_a96 (h : mm_W S) : mm_arr S 96 13 = true := wp_a h _ _ (by decide) rfl
theorem wx_g92_5 (h : mm_W S) : mm_rg S 92 5 = 97 := wp_g h _ _ _ rfl
theorem wx_s92_5 (h : mm_W S) : (mm_R S 92 5).isSome = true := wp_s h _ _ _ rfl
theorem wx_N97 (h : mm_W S) : mm_N S 97 = 6 := wp_N h _ _ (by decide) rfl
theorem wx_a97 (h : mm_W S) : mm_arr S 97 13 = true := wp_a h _ _ (by decide) rfl
theorem wx_g92_6 (h : mm_W S) : mm_rg S 92 6 = 98 := wp_g h _ _ _ rfl
theorem wx_s92_6 (h : mm_W S) : (mm_R S 92 6).isSome = true := wp_s h _ _ _ rfl
theorem wx_N98 (h : mm_W S) : mm_N S 98 = 6 := wp_N h _ _ (by decide) rfl
theorem wx_a98 (h : mm_W S) : mm_arr S 98 13 = true := wp_a h _ _ (by decide) rfl
theorem wx_g92_7 (h : mm_W S) : mm_rg S 92 7 = 99 := wp_g h _ _ _ rfl
theorem wx_s92_7 (h : mm_W S) : (mm_R S 92 7).isSome = true := wp_s h _ _ _ rfl
theorem wx_N99 (h : mm_W S) : mm_N S 99 = 18 := wp_N h _ _ (by decide) rfl
theorem wx_a99 (h : mm_W S) : mm_arr S 99 13 = true := wp_a h _ _ (by decide) rfl
theorem wx_g92_9 (h : mm_W S) : mm_rg S 92 9 = 100 := wp_g h _ _ _ rfl
theorem wx_s92_9 (h : mm_W S) : (mm_R S 92 9).isSome = true := wp_s h _ _ _ rfl
theorem wx_N100 (h : mm_W S) : mm_N S 100 = 6 := wp_N h _ _ (by decide) rfl
theorem wx_a100 (h : mm_W S) : mm_arr S 100 13 = true := wp_a h _ _ (by decide) rfl
theorem wx_g92_16 (h : mm_W S) : mm_rg S 92 16 = 101 := wp_g h _ _ _ rfl
theorem wx_s92_16 (h : mm_W S) : (mm_R S 92 16).isSome = true := wp_s h _ _ _ rfl
theorem wx_N101 (h : mm_W S) : mm_N S 101 = 12 := wp_N h _ _ (by decide) rfl
theorem wx_a101 (h : mm_W S) : mm_arr S 101 13 = true := wp_a h _ _ (by decide) rfl
theorem wx_g92_19 (h : mm_W S) : mm_rg S 92 19 = 102 := wp_g h _ _ _ rfl
theorem wx_s92_19 (h : mm_W S) : (mm_R S 92 19).isSome = true := wp_s h _ _ _ rfl
theorem wx_N102 (h : mm_W S) : mm_N S 102 = 7 := wp_N h _ _ (by decide) rfl
theorem wx_a102 (h : mm_W S) : mm_arr S 102 13 = true := wp_a h _ _ (by decide) rfl
theorem wx_g92_20 (h : mm_W S) : mm_rg S 92 20 = 103 := wp_g h _ _ _ rfl
theorem wx_s92_20 (h : mm_W S) : (mm_R S 92 20).isSome = true := wp_s h _ _ _ rfl
theorem wx_N103 (h : mm_W S) : mm_N S 103 = 70 := wp_N h _ _ (by decide) rfl
theorem wx_a103 (h : mm_W S) : mm_arr S 103 13 = true := wp_a h _ _ (by decide) rfl
theorem wx_g92_21 (h : mm_W S) : mm_rg S 92 21 = 104 := wp_g h _ _ _ rfl
theorem wx_s92_21 (h : mm_W S) : (mm_R S 92 21).isSome = true := wp_s h _ _ _ rfl
theorem wx_N104 (h : mm_W S) : mm_N S 104 = 70 := wp_N h _ _ (by decide) rfl
theorem wx_a104 (h : mm_W S) : mm_arr S 104 13 = true := wp_a h _ _ (by decide) rfl
theorem wx_g92_22 (h : mm_W S) : mm_rg S 92 22 = 105 := wp_g h _ _ _ rfl
theorem wx_s92_22 (h : mm_W S) : (mm_R S 92 22).isSome = true := wp_s h _ _ _ rfl
theorem wx_N105 (h : mm_W S) : mm_N S 105 = 70 := wp_N h _ _ (by decide) rfl
theorem wx_a105 (h : mm_W S) : mm_arr S 105 13 = true := wp_a h _ _ (by decide) rfl
theorem wx_g92_23 (h : mm_W S) : mm_rg S 92 23 = 106 := wp_g h _ _ _ rfl
theorem wx_s92_23 (h : mm_W S) : (mm_R S 92 23).isSome = true := wp_s h _ _ _ rfl
theorem wx_N106 (h : mm_W S) : mm_N S 106 = 70 := wp_N h _ _ (by decide) rfl
theorem wx_a106 (h : mm_W S) : mm_arr S 106 13 = true := wp_a h _ _ (by decide) rfl
theorem wx_g92_24 (h : mm_W S) : mm_rg S 92 24 = 107 := wp_g h _ _ _ rfl
theorem wx_s92_24 (h : mm_W S) : (mm_R S 92 24).isSome = true := wp_s h _ _ _ rfl
theorem wx_N107 (h : mm_W S) : mm_N S 107 = 840 := wp_N h _ _ (by decide) rfl
theorem wx_a107 (h : mm_W S) : mm_arr S 107 13 = true := wp_a h _ _ (by decide) rfl
theorem wx_g92_25 (h : mm_W S) : mm_rg S 92 25 = 108 := wp_g h _ _ _ rfl
theorem wx_s92_25 (h : mm_W S) : (mm_R S 92 25).isSome = true := wp_s h _ _ _ rfl
theorem wx_N108 (h : mm_W S) : mm_N S 108 = 100 := wp_N h _ _ (by decide) rfl
theorem wx_a108 (h : mm_W S) : mm_arr S 108 13 = true := wp_a h _ _ (by decide) rfl
theorem wx_g92_29 (h : mm_W S) : mm_rg S 92 29 = 109 := wp_g h _ _ _ rfl
theorem wx_s92_29 (h : mm_W S) : (mm_R S 92 29).isSome = true := wp_s h _ _ _ rfl
theorem wx_N109 (h : mm_W S) : mm_N S 109 = 20 := wp_N h _ _ (by decide) rfl
theorem wx_a109 (h : mm_W S) : mm_arr S 109 13 = true := wp_a h _ _ (by decide) rfl
theorem wx_g92_30 (h : mm_W S) : mm_rg S 92 30 = 110 := wp_g h _ _ _ rfl
theorem wx_s92_30 (h : mm_W S) : (mm_R S 92 30).isSome = true := wp_s h _ _ _ rfl
theorem wx_N110 (h : mm_W S) : mm_N S 110 = 6 := wp_N h _ _ (by decide) rfl
theorem wx_a110 (h : mm_W S) : mm_arr S 110 13 = true := wp_a h _ _ (by decide) rfl
theorem wx_g92_31 (h : mm_W S) : mm_rg S 92 31 = 111 := wp_g h _ _ _ rfl
theorem wx_s92_31 (h : mm_W S) : (mm_R S 92 31).isSome = true := wp_s h _ _ _ rfl
theorem wx_N111 (h : mm_W S) : mm_N S 111 = 6 := wp_N h _ _ (by decide) rfl
theorem wx_a111 (h : mm_W S) : mm_arr S 111 13 = true := wp_a h _ _ (by decide) rfl
theorem wx_g92_32 (h : mm_W S) : mm_rg S 92 32 = 112 := wp_g h _ _ _ rfl
theorem wx_s92_32 (h : mm_W S) : (mm_R S 92 32).isSome = true := wp_s h _ _ _ rfl
theorem wx_N112 (h : mm_W S) : mm_N S 112 = 360 := wp_N h _ _ (by decide) rfl
theorem wx_a112 (h : mm_W S) : mm_arr S 112 14 = true := wp_a h _ _ (by decide) rfl
theorem wx_g92_33 (h : mm_W S) : mm_rg S 92 33 = 113 := wp_g h _ _ _ rfl
theorem wx_s92_33 (h : mm_W S) : (mm_R S 92 33).isSome = true := wp_s h _ _ _ rfl
theorem wx_N113 (h : mm_W S) : mm_N S 113 = 24 := wp_N h _ _ (by decide) rfl
theorem wx_a113 (h : mm_W S) : mm_arr S 113 13 = true := wp_a h _ _ (by decide) rfl
theorem wx_g92_34 (h : mm_W S) : mm_rg S 92 34 = 114 := wp_g h _ _ _ rfl
theorem wx_s92_34 (h : mm_W S) : (mm_R S 92 34).isSome = true := wp_s h _ _ _ rfl
theorem wx_N114 (h : mm_W S) : mm_N S 114 = 6 := wp_N h _ _ (by decide) rfl
theorem wx_a114 (h : mm_W S) : mm_arr S 114 13 = true := wp_a h _ _ (by decide) rfl
theorem wx_g92_35 (h : mm_W S) : mm_rg S 92 35 = 115 := wp_g h _ _ _ rfl
theorem wx_s92_35 (h : mm_W S) : (mm_R S 92 35).isSome = true := wp_s h _ _ _ rfl
theorem wx_N115 (h : mm_W S) : mm_N S 115 = 7 := wp_N h _ _ (by decide) rfl
theorem wx_a115 (h : mm_W S) : mm_arr S 115 13 = true := wp_a h _ _ (by decide) rfl
theorem wx_g92_38 (h : mm_W S) : mm_rg S 92 38 = 116 := wp_g h _ _ _ rfl
theorem wx_s92_38 (h : mm_W S) : (mm_R S 92 38).isSome = true := wp_s h _ _ _ rfl
theorem wx_N116 (h : mm_W S) : mm_N S 116 = 110 := wp_N h _ _ (by decide) rfl
theorem wx_a116 (h : mm_W S) : mm_arr S 116 13 = true := wp_a h _ _ (by decide) rfl
theorem wx_g92_41 (h : mm_W S) : mm_rg S 92 41 = 117 := wp_g h _ _ _ rfl
theorem wx_s92_41 (h : mm_W S) : (mm_R S 92 41).isSome = true := wp_s h _ _ _ rfl
theorem wx_N117 (h : mm_W S) : mm_N S 117 = 110 := wp_N h _ _ (by decide) rfl
theorem wx_a117 (h : mm_W S) : mm_arr S 117 15 = true := wp_a h _ _ (by decide) rfl
theorem wx_g92_44 (h : mm_W S) : mm_rg S 92 44 = 118 := wp_g h _ _ _ rfl
theorem wx_s92_44 (h : mm_W S) : (mm_R S 92 44).isSome = true := wp_s h _ _ _ rfl
theorem wx_N118 (h : mm_W S) : mm_N S 118 = 6 := wp_N h _ _ (by decide) rfl
theorem wx_a118 (h : mm_W S) : mm_arr S 118 13 = true := wp_a h _ _ (by decide) rfl
theorem wx_g92_45 (h : mm_W S) : mm_rg S 92 45 = 119 := wp_g h _ _ _ rfl
theorem wx_s92_45 (h : mm_W S) : (mm_R S 92 45).isSome = true := wp_s h _ _ _ rfl
theorem wx_N119 (h : mm_W S) : mm_N S 119 = 6 := wp_N h _ _ (by decide) rfl
theorem wx_a119 (h : mm_W S) : mm_arr S 119 13 = true := wp_a h _ _ (by decide) rfl
theorem wx_g92_46 (h : mm_W S) : mm_rg S 92 46 = 120 := wp_g h _ _ _ rfl
theorem wx_s92_46 (h : mm_W S) : (mm_R S 92 46).isSome = true := wp_s h _ _ _ rfl
theorem wx_N120 (h : mm_W S) : mm_N S 120 = 6 := wp_N h _ _ (by decide) rfl
theorem wx_a120 (h : mm_W S) : mm_arr S 120 13 = true := wp_a h _ _ (by decide) rfl
theorem wx_g92_52 (h : mm_W S) : mm_rg S 92 52 = 121 := wp_g h _ _ _ rfl
theorem wx_s92_52 (h : mm_W S) : (mm_R S 92 52).isSome = true := wp_s h _ _ _ rfl
theorem wx_N121 (h : mm_W S) : mm_N S 121 = 6 := wp_N h _ _ (by decide) rfl
theorem wx_a121 (h : mm_W S) : mm_arr S 121 13 = true := wp_a h _ _ (by decide) rfl
theorem wx_g92_55 (h : mm_W S) : mm_rg S 92 55 = 122 := wp_g h _ _ _ rfl
theorem wx_s92_55 (h : mm_W S) : (mm_R S 92 55).isSome = true := wp_s h _ _ _ rfl
theorem wx_N122 (h : mm_W S) : mm_N S 122 = 78 := wp_N h _ _ (by decide) rfl
theorem wx_a122 (h : mm_W S) : mm_arr S 122 13 = true := wp_a h _ _ (by decide) rfl
theorem wx_g92_56 (h : mm_W S) : mm_rg S 92 56 = 123 := wp_g h _ _ _ rfl
theorem wx_s92_56 (h : mm_W S) : (mm_R S 92 56).isSome = true := wp_s h _ _ _ rfl
theorem wx_N123 (h : mm_W S) : mm_N S 123 = 78 := wp_N h _ _ (by decide) rfl
theorem wx_a123 (h : mm_W S) : mm_arr S 123 13 = true := wp_a h _ _ (by decide) rfl
theorem wx_g92_57 (h : mm_W S) : mm_rg S 92 57 = 124 := wp_g h _ _ _ rfl
theorem wx_s92_57 (h : mm_W S) : (mm_R S 92 57).isSome = true := wp_s h _ _ _ rfl
theorem wx_N124 (h : mm_W S) : mm_N S 124 = 78 := wp_N h _ _ (by decide) rfl
theorem wx_a124 (h : mm_W S) : mm_arr S 124 13 = true := wp_a h _ _ (by decide) rfl
theorem wx_g92_58 (h : mm_W S) : mm_rg S 92 58 = 125 := wp_g h _ _ _ rfl
theorem wx_s92_58 (h : mm_W S) : (mm_R S 92 58).isSome = true := wp_s h _ _ _ rfl
theorem wx_N125 (h : mm_W S) : mm_N S 125 = 65 := wp_N h _ _ (by decide) rfl
theorem wx_a125 (h : mm_W S) : mm_arr S 125 13 = true := wp_a h _ _ (by decide) rfl
theorem wx_g92_64 (h : mm_W S) : mm_rg S 92 64 = 126 := wp_g h _ _ _ rfl
theorem wx_s92_64 (h : mm_W S) : (mm_R S 92 64).isSome = true := wp_s h _ _ _ rfl
theorem wx_N126 (h : mm_W S) : mm_N S 126 = 6 := wp_N h _ _ (by decide) rfl
theorem wx_a126 (h : mm_W S) : mm_arr S 126 13 = true := wp_a h _ _ (by decide) rfl
theorem wx_g92_65 (h : mm_W S) : mm_rg S 92 65 = 127 := wp_g h _ _ _ rfl
theorem wx_s92_65 (h : mm_W S) : (mm_R S 92 65).isSome = true := wp_s h _ _ _ rfl
theorem wx_N127 (h : mm_W S) : mm_N S 127 = 6 := wp_N h _ _ (by decide) rfl
theorem wx_a127 (h : mm_W S) : mm_arr S 127 13 = true := wp_a h _ _ (by decide) rfl
theorem wx_g92_66 (h : mm_W S) : mm_rg S 92 66 = 128 := wp_g h _ _ _ rfl
theorem wx_s92_66 (h : mm_W S) : (mm_R S 92 66).isSome = true := wp_s h _ _ _ rfl
theorem wx_N128 (h : mm_W S) : mm_N S 128 = 6 := wp_N h _ _ (by decide) rfl
theorem wx_a128 (h : mm_W S) : mm_arr S 128 13 = true := wp_a h _ _ (by decide) rfl
theorem wx_g92_67 (h : mm_W S) : mm_rg S 92 67 = 129 := wp_g h _ _ _ rfl
theorem wx_s92_67 (h : mm_W S) : (mm_R S 92 67).isSome = true := wp_s h _ _ _ rfl
theorem wx_N129 (h : mm_W S) : mm_N S 129 = 6 := wp_N h _ _ (by decide) rfl
theorem wx_a129 (h : mm_W S) : mm_arr S 129 13 = true := wp_a h _ _ (by decide) rfl
theorem wx_g92_68 (h : mm_W S) : mm_rg S 92 68 = 130 := wp_g h _ _ _ rfl
theorem wx_s92_68 (h : mm_W S) : (mm_R S 92 68).isSome = true := wp_s h _ _ _ rfl
theorem wx_N130 (h : mm_W S) : mm_N S 130 = 6 := wp_N h _ _ (by decide) rfl
theorem wx_a130 (h : mm_W S) : mm_arr S 130 13 = true := wp_a h _ _ (by decide) rfl
theorem wx_g92_69 (h : mm_W S) : mm_rg S 92 69 = 131 := wp_g h _ _ _ rfl
theorem wx_s92_69 (h : mm_W S) : (mm_R S 92 69).isSome = true := wp_s h _ _ _ rfl
theorem wx_N131 (h : mm_W S) : mm_N S 131 = 6 := wp_N h _ _ (by decide) rfl
theorem wx_a131 (h : mm_W S) : mm_arr S 131 13 = true := wp_a h _ _ (by decide) rfl
theorem wx_g92_70 (h : mm_W S) : mm_rg S 92 70 = 132 := wp_g h _ _ _ rfl
theorem wx_s92_70 (h : mm_W S) : (mm_R S 92 70).isSome = true := wp_s h _ _ _ rfl
theorem wx_N132 (h : mm_W S) : mm_N S 132 = 18 := wp_N h _ _ (by decide) rfl
theorem wx_a132 (h : mm_W S) : mm_arr S 132 13 = true := wp_a h _ _ (by decide) rfl
theorem wx_g92_71 (h : mm_W S) : mm_rg S 92 71 = 133 := wp_g h _ _ _ rfl
theorem wx_s92_71 (h : mm_W S) : (mm_R S 92 71).isSome = true := wp_s h _ _ _ rfl
theorem wx_N133 (h : mm_W S) : mm_N S 133 = 6 := wp_N h _ _ (by decide) rfl
theorem wx_a133 (h : mm_W S) : mm_arr S 133 13 = true := wp_a h _ _ (by decide) rfl
theorem wx_g92_72 (h : mm_W S) : mm_rg S 92 72 = 134 := wp_g h _ _ _ rfl
theorem wx_s92_72 (h : mm_W S) : (mm_R S 92 72).isSome = true := wp_s h _ _ _ rfl
theorem wx_N134 (h : mm_W S) : mm_N S 134 = 5 := wp_N h _ _ (by decide) rfl
theorem wx_a134 (h : mm_W S) : mm_arr S 134 13 = true := wp_a h _ _ (by decide) rfl
theorem wx_g92_73 (h : mm_W S) : mm_rg S 92 73 = 135 := wp_g h _ _ _ rfl
theorem wx_s92_73 (h : mm_W S) : (mm_R S 92 73).isSome = true := wp_s h _ _ _ rfl
theorem wx_N135 (h : mm_W S) : mm_N S 135 = 12 := wp_N h _ _ (by decide) rfl
theorem wx_a135 (h : mm_W S) : mm_arr S 135 13 = true := wp_a h _ _ (by decide) rfl
theorem wx_g92_75 (h : mm_W S) : mm_rg S 92 75 = 136 := wp_g h _ _ _ rfl
theorem wx_s92_75 (h : mm_W S) : (mm_R S 92 75).isSome = true := wp_s h _ _ _ rfl
theorem wx_N136 (h : mm_W S) : mm_N S 136 = 60 := wp_N h _ _ (by decide) rfl
theorem wx_a136 (h : mm_W S) : mm_arr S 136 14 = true := wp_a h _ _ (by decide) rfl
end WXS
end
section
/-! ===== what a day is, apart from cells ===== -/
/-- a step of an E: a TEST (letter, relation, number) or what joins (1 or, 2 and, 3 not) -/
abbrev ab_T : Type := (Nat × Nat × Nat) ⊕ Nat
/-- a clause: its word, its n, the steps of its E -/
abbrev ab_C : Type := Nat × Nat × List ab_T
/-- row, aways, gained, price, loaves, till, turns -/
abbrev ab_D : Type := List Nat × (Nat → Nat) × (Nat → Int32) × Nat × Nat × Int32 × Int32
/-- how many are known; kind, v, worth, friend, tells; the clauses; what a no costs -/
abbrev ab_P : Type := Nat × (Nat → Nat) × (Nat → Nat) × (Nat → Nat) × (Nat → Option Nat) × (Nat → Nat) × List ab_C × Nat
def ab_row (D : ab_D) : List Nat := D.1
def ab_aw (D : ab_D) : Nat → Nat := D.2.1
def ab_ga (D : ab_D) : Nat → Int32 := D.2.2.1
def ab_pr (D : ab_D) : Nat := D.2.2.2.1
def ab_lo (D : ab_D) : Nat := D.2.2.2.2.1
def ab_ti (D : ab_D) : Int32 := D.2.2.2.2.2.1
def ab_tu (D : ab_D) : Int32 := D.2.2.2.2.2.2
def ab_kn (P : ab_P) : Nat := P.1
def ab_ki (P : ab_P) : Nat → Nat := P.2.1
def ab_v (P : ab_P) : Nat → Nat := P.2.2.1
def ab_wo (P : ab_P) : Nat → Nat := P.2.2.2.1
def ab_fr (P : ab_P) : Nat → Option Nat := P.2.2.2.2.1
def ab_te (P : ab_P) : Nat → Nat := P.2.2.2.2.2.1
def ab_sh (P : ab_P) : List ab_C := P.2.2.2.2.2.2.1
def ab_fe (P : ab_P) : Nat := P.2.2.2.2.2.2.2
def ab_law (l : List ab_C) (w n : Nat) : Nat := l.foldl (fun n c => if c.1 = w then c.2.1 else n) n
def ab_up (P : ab_P) : Nat := ab_law (ab_sh P) 2 1
def ab_down (P : ab_P) : Nat := ab_law (ab_sh P) 3 1
def ab_away (P : ab_P) : Nat := min 9 (ab_law (ab_sh P) 4 1)
def ab_frn (P : ab_P) (D : ab_D) (b : Nat) : Bool := match ab_fr P b with
  | none => false
  | some f => decide (f ∈ ab_row D)
def ab_ms (P : ab_P) (D : ab_D) (b l : Nat) : Nat :=
  if l = 0 then b else if l = 1 then ab_ki P b else if l = 2 then ab_pr D else if l = 3 then ab_lo D else if l = 4 then (ab_row D).length else if l = 5 then ab_aw D b else if ab_frn P D b = true then 1 else 0
def ab_tst (x r n : Nat) : Bool := if r = 0 then decide (x < n) else if r = 1 then decide (x = n) else decide (n < x)
def ab_step (m : Nat → Nat) (st : List Bool) (t : ab_T) : List Bool := match t with
  | .inl q => ab_tst (m q.1) q.2.1 q.2.2 :: st
  | .inr o => if o = 3 then (match st with
      | x :: r => (!x) :: r
      | [] => []) else (match st with
      | y :: x :: r => (if o = 1 then x || y else x && y) :: r
      | _ => [])
def ab_rn (m : Nat → Nat) (c : List ab_T) (st : List Bool) : List Bool := c.foldl (ab_step m) st
def ab_hold (m : Nat → Nat) (c : List ab_T) : Bool := (ab_rn m c []).headD false
def ab_sum (m : Nat → Nat) (w : Nat) (l : List ab_C) (n : Nat) : Nat := l.foldl (fun n c => if c.1 = w ∧ ab_hold m c.2.2 = true then n + c.2.1 else n) n
def ab_val (P : ab_P) (D : ab_D) (b : Nat) : Nat := ab_wo P b + ab_sum (ab_ms P D b) 0 (ab_sh P) 0
def ab_cost (P : ab_P) (D : ab_D) (b : Nat) : Nat := ab_sum (ab_ms P D b) 1 (ab_sh P) 0
def ab_may (P : ab_P) (D : ab_D) (b : Nat) : Bool := decide (ab_aw D b < ab_away P)
/-- yes, if the gain of a yes is n or more -/
def ab_gy (P : ab_P) (D : ab_D) (b n : Nat) : Nat := if n + ab_pr D ≤ ab_val P D b + ab_cost P D b + ab_fe P then 1 else 2
def ab_wai (P : ab_P) (D : ab_D) (b : Nat) : Nat := if ab_val P D b < ab_pr D ∧ ab_may P D b = true then 3 else ab_gy P D b 0
def ab_fal (P : ab_P) (D : ab_D) (b : Nat) : Nat := if ab_v P b < ab_pr D ∧ ab_frn P D b = true then 2 else ab_gy P D b 0
/-- what b does, if it were the head and o others stood -/
def ab_act (P : ab_P) (D : ab_D) (b o : Nat) : Nat := match ab_ki P b with
  | 1 => ab_gy P D b (ab_v P b)
  | 2 => ab_wai P D b
  | 3 => ab_fal P D b
  | 4 => if ab_lo D ≤ ab_v P b then 1 else ab_gy P D b (ab_v P b)
  | 5 => if ab_v P b ≤ o ∧ ab_may P D b = true then 3 else ab_wai P D b
  | 6 => if ab_te P (3 * b + ab_pr D % 3) = 0 ∨ (ab_te P (3 * b + ab_pr D % 3) = 3 ∧ ab_may P D b = false) then ab_fal P D b else ab_te P (3 * b + ab_pr D % 3)
  | _ => ab_gy P D b 0
def ab_up1 {α : Type} (f : Nat → α) (k : Nat) (x : α) : Nat → α := fun j => if j = k then x else f j
/-- a turn in which the head b, with r behind, does something -/
def ab_do (P : ab_P) (D : ab_D) (b : Nat) (r : List Nat) (act : Nat) : ab_D :=
  if act = 1 then (r, ab_aw D, ab_up1 (ab_ga D) b (ab_ga D b + (nI (ab_val P D b) - nI (ab_pr D))), min 999 (ab_pr D + ab_up P), ab_lo D - 1, ab_ti D + nI (ab_pr D), ab_tu D + nI 1)
  else if act = 2 then (r, ab_aw D, ab_up1 (ab_ga D) b (ab_ga D b - (nI (ab_cost P D b) + nI (ab_fe P))), (if ab_down P = 0 then ab_pr D / 2 else ab_down P), ab_lo D, ab_ti D + nI (ab_fe P), ab_tu D + nI 1)
  else (r ++ [b], ab_up1 (ab_aw D) b (ab_aw D b + 1), ab_ga D, ab_pr D, ab_lo D, ab_ti D, ab_tu D + nI 1)
def ab_does (P : ab_P) (D : ab_D) (act : Nat) : ab_D := match ab_row D with
  | [] => D
  | b :: r => ab_do P D b r act
def ab_ha (P : ab_P) (D : ab_D) : Nat := ab_act P D ((ab_row D).headD 0) ((ab_row D).length - 1)
def ab_turn (P : ab_P) (D : ab_D) : ab_D := ab_does P D (ab_ha P D)
def ab_com (D : ab_D) : Bool := decide (0 < (ab_row D).length) && decide (0 < ab_lo D)
def ab_end (P : ab_P) : Nat → ab_D → ab_D
  | 0, D => D
  | k + 1, D => if ab_com D = true then ab_end P k (ab_turn P D) else D
/-- heads and what they did -/
def ab_log (P : ab_P) : Nat → ab_D → List (Nat × Nat)
  | 0, _ => []
  | k + 1, D => if ab_com D = true then ((ab_row D).headD 0, ab_ha P D) :: ab_log P k (ab_turn P D) else []
/-- how high a stack of answers an E wants; none: it is no E -/
def ab_hei : List ab_T → Nat → Option Nat
  | [], h => some h
  | .inl q :: c, h => if q.1 < 7 ∧ q.2.1 < 3 ∧ q.2.2 < 100 ∧ h < 24 then ab_hei c (h + 1) else none
  | .inr o :: c, h => if o = 3 then (if 1 ≤ h then ab_hei c h else none) else if (o = 1 ∨ o = 2) ∧ 2 ≤ h then ab_hei c (h - 1) else none
def ab_okC (c : ab_C) : Prop := c.1 < 6 ∧ c.2.1 < 100 ∧ (c.1 < 2 → ab_hei c.2.2 0 = some 1)
def ab_okS (l : List ab_C) : Prop := l.length ≤ 10 ∧ ∀ c ∈ l, ab_okC c
def ab_okP (P : ab_P) : Prop := ab_kn P ≤ 6 ∧ ab_fe P < 100 ∧ ab_okS (ab_sh P) ∧ (∀ b, b < ab_kn P → ab_ki P b < 7 ∧ ab_v P b < 10 ∧ ab_wo P b < 100) ∧ (∀ b f, b < ab_kn P → ab_fr P b = some f → f < ab_kn P ∧ f ≠ b) ∧ (∀ i, i < 3 * ab_kn P → ab_te P i < 4)
def ab_okD (P : ab_P) (D : ab_D) : Prop := (ab_row D).Nodup ∧ (∀ b ∈ ab_row D, b < ab_kn P) ∧ (∀ b, b < ab_kn P → ab_aw D b ≤ 9) ∧ ab_pr D ≤ 999 ∧ ab_lo D ≤ 9
/-- no more turns than this come -/
def ab_mea (D : ab_D) : Nat := ((ab_row D).map (fun b => 10 - ab_aw D b)).sum
end
section
/-! ===== days keep their bounds; turns come to an end ===== -/
theorem ab_law_lt {l : List ab_C} (h : ∀ c ∈ l, c.2.1 < 100) {w : Nat} : ∀ {n : Nat}, n < 100 → ab_law l w n < 100 := by
  unfold ab_law
  induction l with
  | nil => intro n hn; exact hn
  | cons c l ih =>
    intro n hn
    rw [List.foldl_cons]
    refine ih (fun c hc => h c (List.mem_cons_of_mem _ hc)) ?_
    by_cases e : c.1 = w
    · rw [if_pos e]; exact h c List.mem_cons_self
    · rw [if_neg e]; exact hn
theorem ab_sum_le {m : Nat → Nat} {w : Nat} {l : List ab_C} (h : ∀ c ∈ l, c.2.1 < 100) : ∀ {n : Nat}, ab_sum m w l n ≤ n + 99 * l.length := by
  unfold ab_sum
  induction l with
  | nil => intro n; exact Nat.le_refl _
  | cons c l ih =>
    intro n
    rw [List.foldl_cons, List.length_cons]
    have h1 := h c List.mem_cons_self
    have h2 := fun n => @ih (fun c hc => h c (List.mem_cons_of_mem _ hc)) n
    by_cases e : c.1 = w ∧ ab_hold m c.2.2 = true
    · rw [if_pos e]; have := h2 (n + c.2.1); omega
    · rw [if_neg e]; have := h2 n; omega
theorem nd_le : ∀ (n : Nat) (l : List Nat), l.Nodup → (∀ b ∈ l, b < n) → l.length ≤ n := by
  intro n
  induction n with
  | zero =>
    intro l _ hl
    cases l with
    | nil => exact Nat.le_refl _
    | cons b l => exact absurd (hl b List.mem_cons_self) (Nat.not_lt_zero b)
  | succ n ih =>
    intro l hn hl
    by_cases hm : n ∈ l
    · have h1 := ih (l.erase n) (hn.erase n) (fun b hb => by
        have h4 := (List.Nodup.mem_erase_iff hn).mp hb
        have := hl b h4.2
        have := h4.1
        omega)
      rw [List.length_erase_of_mem hm] at h1
      omega
    · have h1 := ih l hn (fun b hb => by
        have := hl b hb
        have : b ≠ n := fun e => hm (e ▸ hb)
        omega)
      omega
section ABS
variable {P : ab_P} {D : ab_D} {b act o : Nat} {r : List Nat}
theorem ab_okP_c (h : ab_okP P) : ∀ c ∈ ab_sh P, c.2.1 < 100 := fun c hc => (h.2.2.1.2 c hc).2.1
theorem ab_sm_le (h : ab_okP P) {m : Nat → Nat} {w : Nat} : ab_sum m w (ab_sh P) 0 ≤ 990 := by
  have h1 := @ab_sum_le m w _ (ab_okP_c h) 0
  have h2 := h.2.2.1.1
  omega
theorem ab_cost_le (h : ab_okP P) : ab_cost P D b ≤ 990 := ab_sm_le h
theorem ab_val_le (h : ab_okP P) (hb : b < ab_kn P) : ab_val P D b ≤ 1089 := by
  have h1 := (h.2.2.2.1 b hb).2.2
  have h2 := @ab_sm_le P h (ab_ms P D b) 0
  unfold ab_val
  omega
theorem ab_up_lt (h : ab_okP P) : ab_up P < 100 := ab_law_lt (ab_okP_c h) (by decide)
theorem ab_down_lt (h : ab_okP P) : ab_down P < 100 := ab_law_lt (ab_okP_c h) (by decide)
theorem ab_away_le : ab_away P ≤ 9 := Nat.min_le_left _ _
theorem ab_gy_12 {n : Nat} : ab_gy P D b n = 1 ∨ ab_gy P D b n = 2 := by
  unfold ab_gy; split <;> simp
theorem ab_act_ok (h : ab_okP P) (hD : ab_okD P D) (hb : b < ab_kn P) : 1 ≤ ab_act P D b o ∧ ab_act P D b o ≤ 3 ∧ (ab_act P D b o = 3 → ab_may P D b = true) := by
  have g : ∀ n, 1 ≤ ab_gy P D b n ∧ ab_gy P D b n ≤ 3 ∧ (ab_gy P D b n = 3 → ab_may P D b = true) := by
    intro n
    rcases @ab_gy_12 P D b n with e | e <;> rw [e] <;> simp
  have w : 1 ≤ ab_wai P D b ∧ ab_wai P D b ≤ 3 ∧ (ab_wai P D b = 3 → ab_may P D b = true) := by
    unfold ab_wai
    split
    · rename_i e; exact ⟨by omega, by omega, fun _ => e.2⟩
    · exact g 0
  have f : 1 ≤ ab_fal P D b ∧ ab_fal P D b ≤ 3 ∧ (ab_fal P D b = 3 → ab_may P D b = true) := by
    unfold ab_fal
    split
    · exact ⟨by omega, by omega, fun e => by omega⟩
    · exact g 0
  unfold ab_act
  split
  · exact g _
  · exact w
  · exact f
  · split
    · exact ⟨by omega, by omega, fun e => by omega⟩
    · exact g _
  · split
    · rename_i e; exact ⟨by omega, by omega, fun _ => e.2⟩
    · exact w
  · have ht : ab_te P (3 * b + ab_pr D % 3) < 4 := h.2.2.2.2.2 _ (by omega)
    split
    · exact f
    · rename_i e
      refine ⟨by omega, by omega, fun e3 => ?_⟩
      cases hm : ab_may P D b with
      | true => rfl
      | false => exact absurd (Or.inr ⟨e3, hm⟩) e
  · exact g 0
theorem ab_do_kn (h : ab_okP P) (hD : ab_okD P D) (hr : ab_row D = b :: r) (ha : act ≠ 1 → act ≠ 2 → ab_may P D b = true) : ab_okD P (ab_do P D b r act) ∧ ab_mea (ab_do P D b r act) < ab_mea D := by
  obtain ⟨h1, h2, h3, h4, h5⟩ := hD
  rw [hr] at h1 h2
  have hb : b < ab_kn P := h2 b List.mem_cons_self
  have hu := ab_up_lt h
  have hd := ab_down_lt h
  have hn := List.nodup_cons.mp h1
  have hr2 : ∀ b ∈ r, b < ab_kn P := fun x hx => h2 x (List.mem_cons_of_mem _ hx)
  have hb9 := h3 b hb
  have hm : ab_mea D = (10 - ab_aw D b) + (r.map (fun b => 10 - ab_aw D b)).sum := by
    unfold ab_mea
    rw [hr]
    simp
  unfold ab_do
  by_cases a1 : act = 1
  · rw [if_pos a1]
    refine ⟨⟨hn.2, hr2, h3, Nat.min_le_left _ _, ?_⟩, ?_⟩
    · show ab_lo D - 1 ≤ 9; omega
    · rw [hm]; show (r.map (fun b => 10 - ab_aw D b)).sum < _; omega
  · rw [if_neg a1]
    by_cases a2 : act = 2
    · rw [if_pos a2]
      refine ⟨⟨hn.2, hr2, h3, ?_, h5⟩, ?_⟩
      · show (if ab_down P = 0 then ab_pr D / 2 else ab_down P) ≤ 999
        split <;> omega
      · rw [hm]; show (r.map (fun b => 10 - ab_aw D b)).sum < _; omega
    · rw [if_neg a2]
      have hma := ha a1 a2
      unfold ab_may at hma
      have hma := of_decide_eq_true hma
      have haw := @ab_away_le P
      refine ⟨⟨?_, ?_, ?_, h4, h5⟩, ?_⟩
      · show (r ++ [b]).Nodup
        rw [List.nodup_append]
        refine ⟨hn.2, by simp, ?_⟩
        intro x hx y hy e
        have : y = b := by simpa using hy
        subst e this
        exact hn.1 hx
      · intro x hx
        have hx : x ∈ r ++ [b] := hx
        rcases List.mem_append.mp hx with h | h
        · exact hr2 x h
        · have : x = b := by simpa using h
          subst this; exact hb
      · intro x hx
        show (if x = b then ab_aw D b + 1 else ab_aw D x) ≤ 9
        split
        · omega
        · exact h3 x hx
      · rw [hm]
        show ((r ++ [b]).map (fun x => 10 - (if x = b then ab_aw D b + 1 else ab_aw D x))).sum < _
        rw [List.map_append, List.sum_append]
        have e1 : r.map (fun x => 10 - (if x = b then ab_aw D b + 1 else ab_aw D x)) = r.map (fun b => 10 - ab_aw D b) := by
          refine List.map_congr_left fun x hx => ?_
          rw [if_neg (fun e : x = b => hn.1 (e ▸ hx))]
        rw [e1]
        simp
        omega
theorem ab_turn_ok (h : ab_okP P) (hD : ab_okD P D) (hc : ab_com D = true) : ab_okD P (ab_turn P D) ∧ ab_mea (ab_turn P D) < ab_mea D := by
  unfold ab_turn ab_does ab_ha
  cases hr : ab_row D with
  | nil => unfold ab_com at hc; rw [hr] at hc; simp at hc
  | cons b r =>
    have hb : b < ab_kn P := hD.2.1 b (by rw [hr]; exact List.mem_cons_self)
    have ha := @ab_act_ok P D b ((b :: r).length - 1) h hD hb
    refine ab_do_kn h hD hr (fun h1 h2 => ha.2.2 ?_)
    simp only [List.headD_cons] at h1 h2
    omega
theorem ab_mea_le (hP : ab_kn P ≤ 6) (hD : ab_okD P D) : ab_mea D ≤ 60 := by
  have h1 : ∀ l : List Nat, (l.map (fun b => 10 - ab_aw D b)).sum ≤ 10 * l.length := by
    intro l
    induction l with
    | nil => simp
    | cons x l ih => simp only [List.map_cons, List.sum_cons, List.length_cons]; omega
  have h2 := h1 (ab_row D)
  have h3 := nd_le _ _ hD.1 hD.2.1
  unfold ab_mea
  omega
end ABS
end
section
/-! ===== the class's days in cells ===== -/
/-- the cells of the day a that turns change -/
def cd_dc (a c j : Nat) : Prop := (c = a ∧ ((11 ≤ j ∧ j ≤ 15) ∨ j = 18 ∨ j = 19)) ∨ c = a + 4 ∨ c = a + 5 ∨ c = a + 6 ∨ c = a + 8
def cd_fr (a : Nat) (S T : mm_S) : Prop := T = mm_wM S (mm_M T) ∧ ∀ c j, ¬ cd_dc a c j → mm_M T c j = mm_M S c j
/-- what friend is told by -/
def cd_fo : Option Nat → Int32
  | none => -1
  | some f => nI f
def cd_kc (k : Nat) : Nat := ([0, 4, 10, 2, 7, 3, 9] : List Nat).getD k 0
/-- the object e is the BUYER b -/
def cd_by (S : mm_S) (e b k v w : Nat) : Prop := 137 ≤ e ∧ e < mm_n S ∧ mm_K S e = cd_kc k ∧ mm_M S e 0 = nI k ∧ mm_M S e 1 = nI b ∧ mm_M S e 2 = nI v ∧ mm_M S e 3 = nI w
/-- how a step of an E is told in the class -/
def cd_en : ab_T → Int32
  | .inl q => nI ((q.1 * 3 + q.2.1) * 100 + q.2.2)
  | .inr o => if o = 3 then -1 else if o = 2 then -2 else -3
/-- steps in the row of steps q, from a place on -/
def cd_co (S : mm_S) (q : Nat) : List ab_T → Nat → Prop
  | [], _ => True
  | t :: c, i => mm_M S q i = cd_en t ∧ cd_co S q c (i + 1)
/-- clauses with an E in the shop s, from number k and step i on; their number and their steps' are j and n -/
def cd_cl (S : mm_S) (s : Nat) : List ab_C → Nat → Nat → Nat → Nat → Prop
  | [], k, i, j, n => k = j ∧ i = n
  | c :: l, k, i, j, n => mm_M S (s + 1) k = nI c.1 ∧ mm_M S (s + 2) k = nI c.2.1 ∧ mm_M S (s + 3) k = nI (i + c.2.2.length) ∧ cd_co S (s + 4) c.2.2 i ∧ cd_cl S s l (k + 1) (i + c.2.2.length) j n
def cd_el (l : List ab_C) : List ab_C := l.filter (fun c => decide (c.1 < 2))
/-- the shop s has the clauses l -/
def cd_cs (S : mm_S) (s : Nat) (l : List ab_C) : Prop := mm_M S s 0 = nI (ab_law l 2 1) ∧ mm_M S s 1 = nI (ab_law l 3 1) ∧ mm_M S s 2 = nI (min 9 (ab_law l 4 1)) ∧ mm_M S s 3 = nI (ab_law l 5 0) ∧ ∃ j n, j ≤ 10 ∧ n ≤ 100 ∧ mm_M S s 8 = nI j ∧ mm_M S s 9 = nI n ∧ cd_cl S s (cd_el l) 0 0 j n
/-- what the day a has that turns don't change -/
def cd_P (S : mm_S) (a : Nat) (P : ab_P) : Prop := mm_M S a 10 = nI (ab_kn P) ∧ mm_M S a 9 = nI (ab_fe P) ∧ (∀ b, b < ab_kn P → mm_M S (a + 2) b = cd_fo (ab_fr P b)) ∧ (∀ i, i < 3 * ab_kn P → mm_M S (a + 3) i = nI (ab_te P i)) ∧ (∀ b, b < ab_kn P → ∃ e, mm_R S (a + 1) b = some e ∧ cd_by S e b (ab_ki P b) (ab_v P b) (ab_wo P b)) ∧ ∃ s, mm_R S a 8 = some s ∧ mm_sh s ∧ cd_cs S s (ab_sh P)
def cd_D (S : mm_S) (a n : Nat) (D : ab_D) : Prop := mm_M S a 11 = nI (ab_row D).length ∧ (∀ p, p < (ab_row D).length → mm_M S (a + 6) p = nI ((ab_row D).getD p 0)) ∧ (∀ b, b < n → mm_M S (a + 4) b = nI (ab_aw D b)) ∧ (∀ b, b < n → mm_M S (a + 5) b = ab_ga D b) ∧ mm_M S a 12 = nI (ab_pr D) ∧ mm_M S a 13 = nI (ab_lo D) ∧ mm_M S a 14 = ab_ti D ∧ mm_M S a 15 = ab_tu D
section CD
variable {S T U : mm_S} {a b c j k n s q i : Nat} {P : ab_P} {D : ab_D} {x : Int32}
theorem fr_rf : cd_fr a S S := ⟨rfl, fun _ _ _ => rfl⟩
theorem fr_tr (h : cd_fr a S T) (h2 : cd_fr a T U) : cd_fr a S U := by
  refine ⟨?_, fun c j hc => (h2.2 c j hc).trans (h.2 c j hc)⟩
  have e := h2.1
  rw [h.1] at e
  exact e
theorem fr_w (h : cd_fr a S T) (hc : cd_dc a c j) : cd_fr a S (mm_uM T c j x) := by
  refine ⟨?_, fun c2 j2 h2 => ?_⟩
  · have e := h.1
    conv => lhs; rw [hp_uMw, e]
    rfl
  · rw [hp_MuM, if_neg (fun e => h2 (by rw [e.1, e.2]; exact hc))]
    exact h.2 c2 j2 h2
theorem fr_L (h : cd_fr a S T) : mm_L T = mm_L S := by rw [h.1]; rfl
theorem fr_R (h : cd_fr a S T) : mm_R T = mm_R S := by rw [h.1]; rfl
theorem fr_K (h : cd_fr a S T) : mm_K T = mm_K S := by rw [h.1]; rfl
theorem fr_N (h : cd_fr a S T) : mm_N T = mm_N S := by rw [h.1]; rfl
theorem fr_n (h : cd_fr a S T) : mm_n T = mm_n S := by rw [h.1]; rfl
theorem fr_z (h : cd_fr a S T) : mm_z T = mm_z S := by rw [h.1]; rfl
theorem fr_W (h : cd_fr a S T) (hw : mm_W S) : mm_W T := by rw [h.1]; exact hw
theorem dc_x (h : ¬ (a ≤ c ∧ c ≤ a + 8)) : ¬ cd_dc a c j := by
  unfold cd_dc; omega
theorem fr_co (h : ∀ i, mm_M T q i = mm_M S q i) : ∀ {l : List ab_T} {i : Nat}, cd_co S q l i → cd_co T q l i := by
  intro l
  induction l with
  | nil => intro i _; exact True.intro
  | cons t l ih => intro i hc; exact ⟨(h i).trans hc.1, ih hc.2⟩
theorem fr_cl (h : ∀ m, m ≤ 4 → ∀ i, mm_M T (s + m) i = mm_M S (s + m) i) : ∀ {l : List ab_C} {k i j n : Nat}, cd_cl S s l k i j n → cd_cl T s l k i j n := by
  intro l
  induction l with
  | nil => intro k i j n hc; exact hc
  | cons t l ih =>
    intro k i j n hc
    exact ⟨(h 1 (by omega) _).trans hc.1, (h 2 (by omega) _).trans hc.2.1, (h 3 (by omega) _).trans hc.2.2.1, fr_co (h 4 (by omega)) hc.2.2.2.1, ih hc.2.2.2.2⟩
theorem fr_cs {l : List ab_C} (h : ∀ m, m ≤ 4 → ∀ i, mm_M T (s + m) i = mm_M S (s + m) i) (hc : cd_cs S s l) : cd_cs T s l := by
  have h0 : ∀ i, mm_M T s i = mm_M S s i := h 0 (by omega)
  obtain ⟨h1, h2, h3, h4, j, n, h5, h6, h7, h8, h9⟩ := hc
  exact ⟨(h0 _).trans h1, (h0 _).trans h2, (h0 _).trans h3, (h0 _).trans h4, j, n, h5, h6, (h0 _).trans h7, (h0 _).trans h8, fr_cl h h9⟩
theorem fr_by {e k v w : Nat} (ha : mm_dy a) (h : cd_fr a S T) (hb : cd_by S e b k v w) : cd_by T e b k v w := by
  obtain ⟨h1, h2, h3, h4, h5, h6, h7⟩ := hb
  have hx : ∀ j, mm_M T e j = mm_M S e j := fun j => h.2 e j (dc_x (by unfold mm_dy at ha; omega))
  exact ⟨h1, by rw [fr_n h]; exact h2, by rw [fr_K h]; exact h3, (hx _).trans h4, (hx _).trans h5, (hx _).trans h6, (hx _).trans h7⟩
/-- a turn of the day a leaves what stays in the day c (or a) -/
theorem fr_P (ha : mm_dy a) (hc : mm_dy c) (h : cd_fr a S T) (hp : cd_P S c P) : cd_P T c P := by
  obtain ⟨h1, h2, h3, h4, h5, s, h6, h7, h8⟩ := hp
  have hx : ∀ m j, (m = 0 ∧ 9 ≤ j ∧ j ≤ 10) ∨ m = 2 ∨ m = 3 → ¬ cd_dc a (c + m) j := by
    intro m j hm
    unfold cd_dc
    unfold mm_dy at ha hc
    omega
  refine ⟨(h.2 _ _ (hx 0 10 (by omega))).trans h1, (h.2 _ _ (hx 0 9 (by omega))).trans h2, fun b hb => (h.2 _ _ (hx 2 b (by omega))).trans (h3 b hb), fun i hi => (h.2 _ _ (hx 3 i (by omega))).trans (h4 i hi), fun b hb => ?_, s, by rw [fr_R h]; exact h6, h7, ?_⟩
  · obtain ⟨e, he, hb2⟩ := h5 b hb
    exact ⟨e, by rw [fr_R h]; exact he, fr_by ha h hb2⟩
  · refine fr_cs (fun m hm i => h.2 _ _ (dc_x ?_)) h8
    unfold mm_dy at ha
    unfold mm_sh at h7
    omega
theorem fr_D (ha : mm_dy a) (hc : mm_dy c) (hac : a ≠ c) (h : cd_fr a S T) (hp : cd_D S c n D) : cd_D T c n D := by
  have hx : ∀ m j, m ≤ 8 → ¬ cd_dc a (c + m) j := by
    intro m j hm
    refine dc_x ?_
    unfold mm_dy at ha hc
    omega
  have hy : ∀ m j, m ≤ 8 → mm_M T (c + m) j = mm_M S (c + m) j := fun m j hm => h.2 _ _ (hx m j hm)
  obtain ⟨h1, h2, h3, h4, h5, h6, h7, h8⟩ := hp
  exact ⟨(hy 0 _ (by omega)).trans h1, fun p hp => (hy 6 _ (by omega)).trans (h2 p hp), fun b hb => (hy 4 _ (by omega)).trans (h3 b hb), fun b hb => (hy 5 _ (by omega)).trans (h4 b hb), (hy 0 _ (by omega)).trans h5, (hy 0 _ (by omega)).trans h6, (hy 0 _ (by omega)).trans h7, (hy 0 _ (by omega)).trans h8⟩
end CD
end
section
/-! ===== small methods of a day ===== -/
theorem nI_n0 {n : Nat} (h : n < 2 ^ 31) : ¬ nI n < nI 0 := nI_pos h
section DI
variable {S : mm_S} {a i : Nat}
theorem di_1 (hw : mm_W S) (ha : mm_dy a) (h : i < 6) : mm_inb (nI i) (mm_N S (mm_rg S a 1)) = true := by rw [wd_g1 hw ha, wd_N2 hw ha]; exact hp_inb h (by omega)
theorem di_2 (hw : mm_W S) (ha : mm_dy a) (h : i < 18) : mm_inb (nI i) (mm_N S (mm_rg S a 2)) = true := by rw [wd_g2 hw ha, wd_N3 hw ha]; exact hp_inb h (by omega)
theorem di_3 (hw : mm_W S) (ha : mm_dy a) (h : i < 6) : mm_inb (nI i) (mm_N S (mm_rg S a 3)) = true := by rw [wd_g3 hw ha, wd_N4 hw ha]; exact hp_inb h (by omega)
theorem di_4 (hw : mm_W S) (ha : mm_dy a) (h : i < 6) : mm_inb (nI i) (mm_N S (mm_rg S a 4)) = true := by rw [wd_g4 hw ha, wd_N5 hw ha]; exact hp_inb h (by omega)
theorem di_5 (hw : mm_W S) (ha : mm_dy a) (h : i < 6) : mm_inb (nI i) (mm_N S (mm_rg S a 5)) = true := by rw [wd_g5 hw ha, wd_N6 hw ha]; exact hp_inb h (by omega)
theorem di_6 (hw : mm_W S) (ha : mm_dy a) (h : i < 12) : mm_inb (nI i) (mm_N S (mm_rg S a 6)) = true := by rw [wd_g6 hw ha, wd_N7 hw ha]; exact hp_inb h (by omega)
theorem di_7 (hw : mm_W S) (ha : mm_dy a) (h : i < 7) : mm_inb (nI i) (mm_N S (mm_rg S a 7)) = true := by rw [wd_g7 hw ha, wd_N8 hw ha]; exact hp_inb h (by omega)
theorem di_0 (hw : mm_W S) (ha : mm_dy a) (h : i < 6) : mm_inb (nI i) (mm_N S (mm_rg S a 0)) = true := by rw [wd_g0 hw ha, wd_N1 hw ha]; exact hp_inb h (by omega)
theorem dx_0 (hw : mm_W S) (ha : mm_dy a) : (mm_arr S (mm_rg S a 0) 16 || mm_arr S (mm_rg S a 0) 17 || mm_arr S (mm_rg S a 0) 18) = true := by rw [wd_g0 hw ha]; exact wd_a1 hw ha
theorem dx_1 (hw : mm_W S) (ha : mm_dy a) : mm_arr S (mm_rg S a 1) 13 = true := by rw [wd_g1 hw ha]; exact wd_a2 hw ha
theorem dx_2 (hw : mm_W S) (ha : mm_dy a) : mm_arr S (mm_rg S a 2) 13 = true := by rw [wd_g2 hw ha]; exact wd_a3 hw ha
theorem dx_3 (hw : mm_W S) (ha : mm_dy a) : mm_arr S (mm_rg S a 3) 13 = true := by rw [wd_g3 hw ha]; exact wd_a4 hw ha
theorem dx_4 (hw : mm_W S) (ha : mm_dy a) : mm_arr S (mm_rg S a 4) 13 = true := by rw [wd_g4 hw ha]; exact wd_a5 hw ha
theorem dx_5 (hw : mm_W S) (ha : mm_dy a) : mm_arr S (mm_rg S a 5) 13 = true := by rw [wd_g5 hw ha]; exact wd_a6 hw ha
theorem dx_6 (hw : mm_W S) (ha : mm_dy a) : mm_arr S (mm_rg S a 6) 13 = true := by rw [wd_g6 hw ha]; exact wd_a7 hw ha
theorem dx_7 (hw : mm_W S) (ha : mm_dy a) : mm_arr S (mm_rg S a 7) 13 = true := by rw [wd_g7 hw ha]; exact wd_a8 hw ha
end DI
/-- the place of b in a row -/
def ab_at (b : Nat) : List Nat → Option Nat
  | [] => none
  | y :: r => if y = b then some 0 else (ab_at b r).map (· + 1)
theorem at_some {b : Nat} : ∀ {r : List Nat} {k : Nat}, ab_at b r = some k → k < r.length ∧ r.getD k 0 = b := by
  intro r
  induction r with
  | nil => intro k h; cases h
  | cons y r ih =>
    intro k h
    unfold ab_at at h
    by_cases e : y = b
    · rw [if_pos e] at h
      cases h
      exact ⟨Nat.succ_pos _, e⟩
    · rw [if_neg e] at h
      obtain ⟨j, hj, rfl⟩ := Option.map_eq_some_iff.mp h
      obtain ⟨h1, h2⟩ := ih hj
      exact ⟨Nat.succ_lt_succ h1, h2⟩
theorem at_none {b : Nat} : ∀ {r : List Nat}, ab_at b r = none ↔ b ∉ r := by
  intro r
  induction r with
  | nil => simp [ab_at]
  | cons y r ih =>
    unfold ab_at
    by_cases e : y = b
    · rw [if_pos e]; simp [e]
    · rw [if_neg e, Option.map_eq_none_iff, ih, List.mem_cons]
      constructor
      · intro h h2; exact h2.elim (fun h3 => e h3.symm) h
      · intro h h2; exact h (Or.inr h2)
theorem fo_neg {o : Option Nat} (h : ∀ k, o = some k → k < 2 ^ 31) : (cd_fo o < nI 0) = (o = none) := by
  cases o with
  | none => exact propext ⟨fun _ => rfl, fun _ => by decide⟩
  | some k => exact propext ⟨fun e => absurd e (nI_pos (h k rfl)), fun e => by cases e⟩
theorem dr_c {r : List Nat} {i : Nat} (h : i < r.length) : r.drop i = r.getD i 0 :: r.drop (i + 1) := by
  rw [List.getD_eq_getElem?_getD, List.getElem?_eq_getElem h]
  exact List.drop_eq_getElem_cons h
/-- all that is known of the day a -/
def cd_A (S : mm_S) (a : Nat) (P : ab_P) (D : ab_D) : Prop := mm_W S ∧ mm_dy a ∧ cd_P S a P ∧ cd_D S a (ab_kn P) D ∧ ab_okP P ∧ ab_okD P D
theorem row_le {P : ab_P} {D : ab_D} (h : ab_okP P) (h2 : ab_okD P D) : (ab_row D).length ≤ 6 := Nat.le_trans (nd_le _ _ h2.1 h2.2.1) h.1
section SD
variable {S : mm_S} {a b d n : Nat} {P : ab_P} {D : ab_D} {r : List Nat} {o : Option Nat}
theorem s12_loop (hw : mm_W S) (ha : mm_dy a) (hl : mm_M S a 11 = nI r.length) (h6 : r.length ≤ 6) (hr : ∀ p, p < r.length → mm_M S (a + 6) p = nI (r.getD p 0)) (hb : ∀ y ∈ r, y < 6) (ho : ∀ f, o = some f → f < 6) : ∀ k i : Nat, i + k = r.length → mm_ex d 12 2 [.ref a, .int (cd_fo o), .int (nI i)] [] S = some (some (.int (cd_fo ((o.bind fun f => ab_at f (r.drop i)).map (· + i)))), S) := by
  intro k
  induction k with
  | zero =>
    intro i hi
    have e : i = r.length := by omega
    subst e
    rw [b12_2 (wd_o hw ha), hl, if_pos (nI_le (Nat.le_refl _) (by omega)), b12_28, List.drop_length]
    cases o <;> rfl
  | succ k ih =>
    intro i hi
    have hi6 : i < r.length := by omega
    have hy : r.getD i 0 < 6 := by
      rw [List.getD_eq_getElem?_getD, List.getElem?_eq_getElem hi6]
      exact hb _ (List.getElem_mem hi6)
    rw [b12_2 (wd_o hw ha), hl, if_neg (nI_ge hi6 (by omega)), b12_10 (wd_o hw ha) (wd_s5 hw ha) (di_5 hw ha (by omega)) (dx_5 hw ha), wd_g5 hw ha, nI_clamp (by omega), hr i hi6, dr_c hi6]
    cases o with
    | none =>
      have hn : ¬ nI (r.getD i 0) = cd_fo none := by
        intro e
        have h1 := congrArg Int32.toInt e
        rw [nI_toInt (by omega)] at h1
        have h2 : (cd_fo none).toInt = -1 := rfl
        omega
      rw [if_neg hn, b12_22, nI_add, ih (i + 1) (by omega)]
      rfl
    | some f =>
      have hf := ho f rfl
      have fs : cd_fo (some f) = nI f := rfl
      rw [fs] at ih ⊢
      by_cases e : r.getD i 0 = f
      · have e2 : ab_at f (r.getD i 0 :: r.drop (i + 1)) = some 0 := if_pos e
        rw [e, if_pos rfl, b12_20]
        show _ = some (some (Value.int (cd_fo ((ab_at f (f :: r.drop (i + 1))).map (· + i)))), S)
        rw [e] at e2
        rw [e2]
        show _ = some (some (Value.int (nI (0 + i))), S)
        rw [Nat.zero_add]
      · rw [if_neg (fun h => e ((nI_eq (by omega) (by omega)).mp h)), b12_22, nI_add, ih (i + 1) (by omega)]
        show some (some (Value.int (cd_fo ((ab_at f (r.drop (i + 1))).map (· + (i + 1))))), S) = some (some (Value.int (cd_fo ((if r.getD i 0 = f then some 0 else (ab_at f (r.drop (i + 1))).map (· + 1)).map (· + i)))), S)
        rw [if_neg e, Option.map_map]
        congr 6
        funext x
        show x + (i + 1) = x + 1 + i
        omega
theorem s12 (hA : cd_A S a P D) (ho : ∀ f, o = some f → f < 6) : mm_cl d 12 [.ref a, .int (cd_fo o)] S = some (some (.int (cd_fo (o.bind fun f => ab_at f (ab_row D)))), S) := by
  obtain ⟨hw, ha, hP, hD, oP, oD⟩ := hA
  have h := s12_loop (d := d) (r := ab_row D) (o := o) hw ha hD.1 (row_le oP oD) hD.2.1 (fun y hy => Nat.lt_of_lt_of_le (oD.2.1 y hy) oP.1) ho (ab_row D).length 0 (Nat.zero_add _)
  rw [e12, b12_0, h, List.drop_zero]
  have e : (fun x : Nat => x + 0) = id := rfl
  rw [e, Option.map_id]
  rfl
theorem s12b (hA : cd_A S a P D) (hb : b < ab_kn P) : mm_cl d 12 [.ref a, .int (nI b)] S = some (some (.int (cd_fo (ab_at b (ab_row D)))), S) :=
  s12 (o := some b) hA (fun f e => by cases e; exact Nat.lt_of_lt_of_le hb hA.2.2.2.2.1.1)
theorem at_lt {l : List Nat} (h : l.length ≤ 6) {k : Nat} (e : ab_at b l = some k) : k < 6 := Nat.lt_of_lt_of_le (at_some e).1 h
theorem s17 (hA : cd_A S a P D) (hb : b < ab_kn P) : mm_cl (d + 1) 17 [.ref a, .int (nI b)] S = some (some (.int (if ab_frn P D b = true then nI 1 else nI 0)), S) := by
  have hA' := hA
  obtain ⟨hw, ha, hP, hD, oP, oD⟩ := hA
  have hb6 := Nat.lt_of_lt_of_le hb oP.1
  rw [e17, b17_0 (wd_o hw ha) (wd_s1 hw ha) (di_1 hw ha hb6) (dx_1 hw ha) (wd_k hw ha), wd_g1 hw ha, nI_clamp (by omega), hP.2.2.1 b hb, s12 hA' (fun f e => Nat.lt_of_lt_of_le (oP.2.2.2.2.1 b f hb e).1 oP.1), hp_bd, hp_ts, b17_10]
  have hn : ∀ k, ((ab_fr P b).bind fun f => ab_at f (ab_row D)) = some k → k < 2 ^ 31 := by
    intro k e
    cases hf : ab_fr P b with
    | none => rw [hf] at e; cases e
    | some f =>
      rw [hf] at e
      have h1 := at_lt (row_le oP oD) (e : ab_at f (ab_row D) = some k)
      omega
  have key : (cd_fo ((ab_fr P b).bind fun f => ab_at f (ab_row D)) < nI 0) = (ab_frn P D b = false) := by
    rw [fo_neg hn]
    unfold ab_frn
    cases hf : ab_fr P b with
    | none => exact propext ⟨fun _ => rfl, fun _ => rfl⟩
    | some f =>
      show (ab_at f (ab_row D) = none) = (decide (f ∈ ab_row D) = false)
      rw [at_none]
      simp
  cases hf : ab_frn P D b with
  | false => rw [if_pos (by rw [key]; exact hf), b17_17, if_neg (by decide)]
  | true => rw [if_neg (by rw [key, hf]; decide), b17_13, if_pos rfl]
theorem s16 (hA : cd_A S a P D) (hb : b < ab_kn P) : mm_cl d 16 [.ref a, .int (nI b)] S = some (some (.int (if ab_may P D b = true then nI 1 else nI 0)), S) := by
  obtain ⟨hw, ha, hP, hD, oP, oD⟩ := hA
  have hb6 := Nat.lt_of_lt_of_le hb oP.1
  obtain ⟨s, hs, hs2, hs3⟩ := hP.2.2.2.2.2
  have h9 := oD.2.2.1 b hb
  have h9' := @ab_away_le P
  rw [e16, b16_0 (wd_o hw ha) (wd_s3 hw ha) (di_3 hw ha hb6) (dx_3 hw ha) (hp_rs hs) (by rw [hp_rg hs]; exact ws_o hw hs2), wd_g3 hw ha, nI_clamp (by omega), hp_rg hs, hs3.2.2.1, hD.2.2.1 b hb]
  show (if nI (ab_away P) ≤ nI (ab_aw D b) then _ else _) = _
  unfold ab_may
  by_cases h : ab_aw D b < ab_away P
  · rw [if_neg (nI_ge h (by omega)), b16_16, if_pos (decide_eq_true h)]
  · rw [if_pos (nI_le (Nat.le_of_not_lt h) (by omega)), b16_20, if_neg (fun e => h (of_decide_eq_true e))]
end SD
end
section
/-! ===== tests, E and sums in the class ===== -/
theorem bt_L (x : Int32) (i : Nat) : (x <<< (nI 1 &&& 31)).toBitVec.getLsbD i = (decide (i < 32) && !decide (i < 1) && x.toBitVec.getLsbD (i - 1)) := by
  have e : (x <<< (nI 1 &&& 31)).toBitVec = x.toBitVec <<< (1 : Nat) := by rw [Int32.toBitVec_shiftLeft]; rfl
  rw [e, BitVec.getLsbD_shiftLeft]
theorem bt_R (x : Int32) (i : Nat) (h : i + 1 < 32) : (x >>> (nI 1 &&& 31)).toBitVec.getLsbD i = x.toBitVec.getLsbD (i + 1) := by
  have e : (x >>> (nI 1 &&& 31)).toBitVec = x.toBitVec.sshiftRight 1 := by rw [Int32.toBitVec_shiftRight]; rfl
  rw [e, BitVec.getLsbD_sshiftRight, if_pos (by omega), Nat.add_comm 1 i]
  have h2 : decide (32 ≤ i) = false := decide_eq_false (by omega)
  rw [h2]; rfl
theorem bt_1 : ∀ i, i < 32 → (nI 1).toBitVec.getLsbD i = decide (i = 0) := by decide
theorem bt_0 : ∀ i, i < 32 → (nI 0).toBitVec.getLsbD i = false := by decide
theorem bt_2 : ∀ i, i < 32 → (-2 : Int32).toBitVec.getLsbD i = !decide (i = 0) := by decide
/-- the lowest bits of x are the answers that wait -/
def cb_bs (x : Int32) (st : List Bool) : Prop := ∀ i, i < st.length → x.toBitVec.getLsbD i = st.getD i false
section BS
variable {x : Int32} {st : List Bool} {u v : Bool}
theorem bs_push (h : cb_bs x st) (hs : st.length < 31) : cb_bs ((x <<< (nI 1 &&& 31)) ||| (if u = true then nI 1 else nI 0)) (u :: st) := by
  intro i hi
  rw [List.length_cons] at hi
  rw [Int32.toBitVec_or, BitVec.getLsbD_or, bt_L]
  cases i with
  | zero => cases u <;> rfl
  | succ i =>
    have h0 : (if u = true then nI 1 else nI 0).toBitVec.getLsbD (i + 1) = false := by
      cases u
      · exact bt_0 _ (by omega)
      · exact (bt_1 _ (by omega)).trans (decide_eq_false (by omega))
    rw [h0, Bool.or_false, Nat.add_sub_cancel, h i (by omega), decide_eq_true (by omega : i + 1 < 32), decide_eq_false (by omega : ¬ i + 1 < 1)]
    rfl
theorem bs_not (h : cb_bs x (u :: st)) (hs : (u :: st).length < 31) : cb_bs (x ^^^ nI 1) ((!u) :: st) := by
  intro i hi
  rw [List.length_cons] at hi hs
  rw [Int32.toBitVec_xor, BitVec.getLsbD_xor, bt_1 i (by omega), h i (by rw [List.length_cons]; exact hi)]
  cases i with
  | zero => cases u <;> rfl
  | succ i => simp
theorem bs_or (h : cb_bs x (u :: v :: st)) (hs : (u :: v :: st).length < 31) : cb_bs ((x >>> (nI 1 &&& 31)) ||| (x &&& nI 1)) ((v || u) :: st) := by
  intro i hi
  simp only [List.length_cons] at hi hs
  rw [Int32.toBitVec_or, BitVec.getLsbD_or, Int32.toBitVec_and, BitVec.getLsbD_and, bt_R x i (by omega), bt_1 i (by omega), h (i + 1) (by simp only [List.length_cons]; omega), h i (by simp only [List.length_cons]; omega)]
  cases i with
  | zero => simp
  | succ i => simp
theorem bs_and (h : cb_bs x (u :: v :: st)) (hs : (u :: v :: st).length < 31) : cb_bs ((x >>> (nI 1 &&& 31)) &&& (x ||| (-2))) ((v && u) :: st) := by
  intro i hi
  simp only [List.length_cons] at hi hs
  rw [Int32.toBitVec_and, BitVec.getLsbD_and, Int32.toBitVec_or, BitVec.getLsbD_or, bt_R x i (by omega), bt_2 i (by omega), h (i + 1) (by simp only [List.length_cons]; omega), h i (by simp only [List.length_cons]; omega)]
  cases i with
  | zero => simp
  | succ i => simp
theorem bs_top (h : cb_bs x (u :: st)) : (x &&& nI 1 = nI 1) = (u = true) := by
  have h0 := h 0 (by simp)
  have e : x &&& nI 1 = nI (x.toBitVec.toNat % 2 ^ 1) := pk_and x 1 rfl
  have e2 : x.toBitVec.getLsbD 0 = decide (x.toBitVec.toNat % 2 = 1) := by
    rw [BitVec.getLsbD, Nat.testBit_zero]
  rw [e, nI_eq (by omega) (by omega)]
  rw [e2] at h0
  simp at h0
  show (x.toBitVec.toNat % 2 ^ 1 = 1) = _
  rw [← h0]
  simp
end BS
section TS
variable {S : mm_S} {d q l r n v s i e : Nat} {m : Nat → Nat} {x f : Int32}
theorem if1_b {p : Prop} [Decidable p] : (if decide p = true then nI 1 else nI 0) = if p then nI 1 else nI 0 := by
  by_cases h : p <;> simp [h]
theorem ts_0 : ab_tst v 0 n = decide (v < n) := rfl
theorem ts_1 : ab_tst v 1 n = decide (v = n) := rfl
theorem ts_2 : ab_tst v 2 n = decide (n < v) := rfl
theorem s54 (hq : mm_arr S q 13 = true) (hN : mm_N S q = 7) (hl : l < 7) (hr : r < 3) (hn : n < 100) (hM : mm_M S q l = nI v) (hv : v < 2 ^ 31) : mm_cl d 54 [.int (nI ((l * 3 + r) * 100 + n)), .ref q] S = some (some (.int (if ab_tst v r n = true then nI 1 else nI 0)), S) := by
  have d1 : nI ((l * 3 + r) * 100 + n) / nI 300 = nI l := by
    rw [pk_div (by omega) (by decide) (by decide)]; congr 1; omega
  have d2 : nI ((l * 3 + r) * 100 + n) / nI 100 = nI (l * 3 + r) := by
    rw [pk_div (by omega) (by decide) (by decide)]; congr 1; omega
  have d3 : nI (l * 3 + r) - nI (l * 3 + r) / nI 3 * nI 3 = nI r := by
    rw [pk_rem (by omega) (by decide) (by decide)]; congr 1; omega
  have d4 : nI ((l * 3 + r) * 100 + n) - nI (l * 3 + r) * nI 100 = nI n := by
    rw [nI_mul, pk_sub (by omega)]; congr 1; omega
  have hi : mm_inb (nI l) (mm_N S q) = true := by rw [hN]; exact hp_inb hl (by omega)
  rw [e54, b54_0, d1, if_neg (nI_n0 (by omega)), b54_10 hq, hN, if_pos (nI_lt hl (by decide)), b54_18, d2, d3, d4, b54_32]
  rcases (by omega : r = 0 ∨ r = 1 ∨ r = 2) with rfl | rfl | rfl
  · rw [ts_0, if_pos rfl, b54_60 hi hq, nI_clamp (by omega), hM]
    by_cases h : v < n
    · rw [if_neg (nI_ge h (by omega)), b54_68, if_pos (decide_eq_true h)]
    · rw [if_pos (nI_le (Nat.le_of_not_lt h) hv), b54_72, if_neg (fun e => h (of_decide_eq_true e))]
  · rw [ts_1, if_neg (by decide), if_pos rfl, b54_74 hi hq, nI_clamp (by omega), hM]
    by_cases h : v = n
    · rw [if_pos (by rw [h]), b54_82, if_pos (decide_eq_true h)]
    · rw [if_neg (fun e => h ((nI_eq hv (by omega)).mp e)), b54_86, if_neg (fun e => h (of_decide_eq_true e))]
  · rw [ts_2, if_neg (by decide), if_neg (by decide), b54_88 hi hq, nI_clamp (by omega), hM]
    by_cases h : n < v
    · rw [if_neg (nI_ge h hv), b54_96, if_pos (decide_eq_true h)]
    · rw [if_pos (nI_le (Nat.le_of_not_lt h) (by omega)), b54_100, if_neg (fun e => h (of_decide_eq_true e))]
/-- a row of measures -/
def cd_me (S : mm_S) (q : Nat) (m : Nat → Nat) : Prop := mm_arr S q 13 = true ∧ mm_N S q = 7 ∧ ∀ l, l < 7 → mm_M S q l = nI (m l) ∧ m l < 2 ^ 31
theorem en_inl {t : Nat × Nat × Nat} : ¬ cd_en (.inl t) = -3 ∨ True := Or.inr True.intro
theorem s53_loop (hw : mm_W S) (hs : mm_sh s) (hm : cd_me S q m) : ∀ (c : List ab_T) (i : Nat) (x : Int32) (st : List Bool) (h' : Nat), cd_co S (s + 4) c i → ab_hei c st.length = some h' → cb_bs x st → st.length ≤ 24 → i + c.length = e → e ≤ 100 → ∃ x', mm_ex (d + 1) 53 6 [.ref s, .int f, .int (nI e), .ref q, .int x, .int (nI i)] [] S = mm_ex (d + 1) 53 6 [.ref s, .int f, .int (nI e), .ref q, .int x', .int (nI e)] [] S ∧ cb_bs x' (ab_rn m c st) ∧ (ab_rn m c st).length = h' := by
  intro c
  induction c with
  | nil =>
    intro i x st h' _ hh hb hst hi he
    have e1 : i = e := by simpa using hi
    subst e1
    refine ⟨x, rfl, hb, ?_⟩
    exact Option.some.inj hh
  | cons t c ih =>
    intro i x st h' hc hh hb hst hi he
    rw [List.length_cons] at hi
    have hie : i < e := by omega
    obtain ⟨h1, h2⟩ := hc
    have inb : mm_inb (nI i) (mm_N S (mm_rg S s 7)) = true := by rw [ws_g7 hw hs, ws_N4 hw hs]; exact hp_inb (by omega) (by omega)
    have arr : mm_arr S (mm_rg S s 7) 13 = true := by rw [ws_g7 hw hs]; exact ws_a4 hw hs
    rw [b53_6, if_neg (nI_ge hie (by omega)), b53_12 (ws_o hw hs) (ws_s7 hw hs) inb arr, ws_g7 hw hs, nI_clamp (by omega), h1, b53_19]
    cases t with
    | inl t =>
      obtain ⟨l, r, n⟩ := t
      unfold ab_hei at hh
      by_cases hq : l < 7 ∧ r < 3 ∧ n < 100 ∧ st.length < 24
      · rw [if_pos hq] at hh
        obtain ⟨q1, q2, q3, q4⟩ := hq
        have ne : ∀ z : Int32, z.toInt < 0 → ¬ cd_en (.inl (l, r, n)) = z := by
          intro z hz hx
          have hx : nI ((l * 3 + r) * 100 + n) = z := hx
          have h9 := congrArg Int32.toInt hx
          have h8 : (nI ((l * 3 + r) * 100 + n)).toInt = (((l * 3 + r) * 100 + n : Nat) : Int) := nI_toInt (by omega)
          rw [h8] at h9
          omega
        obtain ⟨hm1, hm2, hm3⟩ := hm
        have k54 := s54 (d := d) hm1 hm2 q1 q2 q3 (hm3 l q1).1 (hm3 l q1).2
        rw [if_neg (ne _ (by decide)), if_neg (ne _ (by decide)), if_neg (ne _ (by decide)), b53_82 (ws_o hw hs) (ws_s7 hw hs) inb arr, ws_g7 hw hs, nI_clamp (by omega), h1]
        have k54' : mm_cl d 54 [.int (cd_en (.inl (l, r, n))), .ref q] S = _ := k54
        rw [k54', hp_bd, hp_tsc, b53_97]
        have hb2 := bs_push (u := ab_tst (m l) r n) hb (by omega)
        obtain ⟨x', hx1, hx2⟩ := ih (i + 1) _ (ab_tst (m l) r n :: st) h' h2 hh hb2 (by rw [List.length_cons]; omega) (by omega) he
        refine ⟨x', ?_, hx2⟩
        rw [← hx1]
        cases ht : ab_tst (m l) r n with
        | true => rw [if_neg (by decide), b53_100, nI_add, if_pos rfl]
        | false => rw [if_pos (by decide), b53_104, nI_add, if_neg (by decide)]
      · rw [if_neg hq] at hh; cases hh
    | inr o =>
      unfold ab_hei at hh
      by_cases o3 : o = 3
      · subst o3
        rw [if_pos rfl] at hh
        cases st with
        | nil => rw [if_neg (by decide)] at hh; cases hh
        | cons u st =>
          rw [if_pos (by rw [List.length_cons]; omega)] at hh
          have hb2 := bs_not hb (by omega)
          obtain ⟨x', hx1, hx2⟩ := ih (i + 1) _ ((!u) :: st) h' h2 hh hb2 hst (by omega) he
          refine ⟨x', ?_, hx2⟩
          have e1 : cd_en (.inr 3) = -1 := rfl
          rw [← hx1, e1, if_neg (by decide), if_neg (by decide), if_pos rfl, b53_44, nI_add]
      · rw [if_neg o3] at hh
        by_cases ho : (o = 1 ∨ o = 2) ∧ 2 ≤ st.length
        · rw [if_pos ho] at hh
          cases st with
          | nil => exact absurd ho.2 (by decide)
          | cons u st =>
            cases st with
            | nil => exact absurd ho.2 (by simp)
            | cons v st =>
              simp only [List.length_cons] at hst
              rcases ho.1 with rfl | rfl
              · have hb2 := bs_or hb (by simp only [List.length_cons]; omega)
                obtain ⟨x', hx1, hx2⟩ := ih (i + 1) _ ((v || u) :: st) h' h2 hh hb2 (by simp only [List.length_cons]; omega) (by omega) he
                refine ⟨x', ?_, hx2⟩
                have e1 : cd_en (.inr 1) = -3 := rfl
                rw [← hx1, e1, if_pos rfl, b53_68, nI_add]
              · have hb2 := bs_and hb (by simp only [List.length_cons]; omega)
                obtain ⟨x', hx1, hx2⟩ := ih (i + 1) _ ((v && u) :: st) h' h2 hh hb2 (by simp only [List.length_cons]; omega) (by omega) he
                refine ⟨x', ?_, hx2⟩
                have e1 : cd_en (.inr 2) = -2 := rfl
                rw [← hx1, e1, if_neg (by decide), if_pos rfl, b53_53, nI_add]
        · rw [if_neg ho] at hh; cases hh
theorem s53 (hw : mm_W S) (hs : mm_sh s) (hm : cd_me S q m) {c : List ab_T} (hc : cd_co S (s + 4) c i) (hh : ab_hei c 0 = some 1) (he : i + c.length ≤ 100) : mm_cl (d + 1) 53 [.ref s, .int (nI i), .int (nI (i + c.length)), .ref q] S = some (some (.int (if ab_hold m c = true then nI 1 else nI 0)), S) := by
  obtain ⟨x, h1, h2, h3⟩ := s53_loop (d := d) (f := nI i) hw hs hm c i (nI 0) [] 1 hc hh (fun i hi => absurd hi (Nat.not_lt_zero i)) (by decide) rfl he
  rw [e53, b53_0, h1, b53_6, if_pos (nI_le (Nat.le_refl _) (by omega)), b53_114]
  unfold ab_hold
  cases hr : ab_rn m c [] with
  | nil => rw [hr] at h3; cases h3
  | cons u st =>
    rw [hr] at h2
    have h4 := bs_top h2
    show _ = some (some (Value.int (if u = true then nI 1 else nI 0)), S)
    cases u with
    | true => rw [if_pos (by rw [h4]), b53_122, if_pos rfl]
    | false => rw [if_neg (by rw [h4]; decide), b53_126, if_neg (by decide)]
theorem s52_loop (hw : mm_W S) (hs : mm_sh s) (hm : cd_me S q m) {w j n0 : Nat} (hw2 : w < 2) (hj : j ≤ 10) (hn0 : n0 ≤ 100) (h8 : mm_M S s 8 = nI j) : ∀ (l : List ab_C) (k i n : Nat), cd_cl S s l k i j n0 → (∀ c ∈ l, ab_okC c ∧ c.1 < 2) → mm_ex (d + 2) 52 8 [.ref s, .int (nI w), .ref q, .int (nI n), .int (nI i), .int (nI k)] [] S = some (some (.int (nI (ab_sum m w l n))), S) := by
  intro l
  induction l with
  | nil =>
    intro k i n hc _
    obtain ⟨rfl, rfl⟩ := hc
    rw [b52_8 (ws_o hw hs), h8, if_pos (nI_le (Nat.le_refl _) (by omega)), b52_70]
    rfl
  | cons c l ih =>
    intro k i n hc hok
    obtain ⟨h1, h2, h3, h4, h5⟩ := hc
    have hb : ∀ (l : List ab_C) (k i : Nat), cd_cl S s l k i j n0 → k ≤ j ∧ i ≤ n0 := by
      intro l
      induction l with
      | nil => intro k i h; exact ⟨by rw [h.1]; exact Nat.le_refl _, by rw [h.2]; exact Nat.le_refl _⟩
      | cons c l ih => intro k i h; have := ih _ _ h.2.2.2.2; omega
    have hkj := hb _ _ _ h5
    have hok1 := hok c List.mem_cons_self
    have hi4 : mm_inb (nI k) (mm_N S (mm_rg S s 4)) = true := by rw [ws_g4 hw hs, ws_N1 hw hs]; exact hp_inb (by omega) (by omega)
    have hi5 : mm_inb (nI k) (mm_N S (mm_rg S s 5)) = true := by rw [ws_g5 hw hs, ws_N2 hw hs]; exact hp_inb (by omega) (by omega)
    have hi6 : mm_inb (nI k) (mm_N S (mm_rg S s 6)) = true := by rw [ws_g6 hw hs, ws_N3 hw hs]; exact hp_inb (by omega) (by omega)
    have a4 : mm_arr S (mm_rg S s 4) 13 = true := by rw [ws_g4 hw hs]; exact ws_a1 hw hs
    have a5 : mm_arr S (mm_rg S s 5) 13 = true := by rw [ws_g5 hw hs]; exact ws_a2 hw hs
    have a6 : mm_arr S (mm_rg S s 6) 13 = true := by rw [ws_g6 hw hs]; exact ws_a3 hw hs
    have hsum : ab_sum m w (c :: l) n = ab_sum m w l (if c.1 = w ∧ ab_hold m c.2.2 = true then n + c.2.1 else n) := rfl
    rw [b52_8 (ws_o hw hs), h8, if_neg (nI_ge (by omega) (by omega)), b52_17 (ws_o hw hs) (ws_s4 hw hs) hi4 a4, ws_g4 hw hs, nI_clamp (by omega), h1, hsum]
    have ihq := fun n => ih (k + 1) _ n h5 (fun c hc => hok c (List.mem_cons_of_mem _ hc))
    by_cases hcw : c.1 = w
    · rw [if_pos (by rw [hcw]), b52_28 (ws_o hw hs) (ws_s6 hw hs) hi6 a6 (ws_k hw hs), ws_g6 hw hs, nI_clamp (by omega), h3, s53 hw hs hm h4 (hok1.1.2.2 hok1.2) (by omega), hp_bd, hp_ts, b52_42]
      by_cases hh : ab_hold m c.2.2 = true
      · rw [if_pos hh, if_neg (by decide), b52_45 (ws_o hw hs) (ws_s5 hw hs) hi5 a5 (ws_s6 hw hs) hi6 a6, ws_g5 hw hs, ws_g6 hw hs, nI_clamp (by omega), h2, h3, nI_add, nI_add, ihq, if_pos ⟨hcw, hh⟩]
      · rw [if_neg hh, if_pos rfl, b52_55 (ws_o hw hs) (ws_s6 hw hs) hi6 a6, ws_g6 hw hs, nI_clamp (by omega), h3, nI_add, ihq, if_neg (fun e => hh e.2)]
    · have h01 := hok1.2
      rw [if_neg (fun e => hcw ((nI_eq (by omega) (by omega)).mp e)), b52_55 (ws_o hw hs) (ws_s6 hw hs) hi6 a6, ws_g6 hw hs, nI_clamp (by omega), h3, nI_add, ihq, if_neg (fun e => hcw e.1)]
theorem sum_el {w : Nat} (hw2 : w < 2) : ∀ (l : List ab_C) (n : Nat), ab_sum m w (cd_el l) n = ab_sum m w l n := by
  intro l
  induction l with
  | nil => intro n; rfl
  | cons c l ih =>
    intro n
    unfold cd_el
    by_cases h : c.1 < 2
    · rw [List.filter_cons_of_pos (by simpa using h)]
      exact ih _
    · rw [List.filter_cons_of_neg (by simpa using h)]
      have e : ab_sum m w (c :: l) n = ab_sum m w l (if c.1 = w ∧ ab_hold m c.2.2 = true then n + c.2.1 else n) := rfl
      rw [e, if_neg (fun e => h (by omega))]
      exact ih n
theorem s52 (hw : mm_W S) (hs : mm_sh s) (hm : cd_me S q m) {l : List ab_C} {w : Nat} (hw2 : w < 2) (hl : ab_okS l) (hc : cd_cs S s l) : mm_cl (d + 2) 52 [.ref s, .int (nI w), .ref q] S = some (some (.int (nI (ab_sum m w l 0))), S) := by
  obtain ⟨-, -, -, -, j, n, hj, hn, h8, -, h9⟩ := hc
  have h := s52_loop (d := d) hw hs hm hw2 hj hn h8 (cd_el l) 0 0 0 h9 (fun c hc => by
    unfold cd_el at hc
    rw [List.mem_filter] at hc
    exact ⟨hl.2 c hc.1, by simpa using hc.2⟩)
  rw [e52, b52_0, h, sum_el hw2]
end TS
end
section
/-! ===== what a BUYER does, in the class ===== -/
theorem kc_ok {k : Nat} (h : k < 7) : cd_kc k < 13 ∧ mm_fam 0 (cd_kc k) = true := by
  rcases (by omega : k = 0 ∨ k = 1 ∨ k = 2 ∨ k = 3 ∨ k = 4 ∨ k = 5 ∨ k = 6) with rfl | rfl | rfl | rfl | rfl | rfl | rfl <;> decide
section BYF
variable {S : mm_S} {e b k v w : Nat}
theorem by_o (hk : k < 7) (h : cd_by S e b k v w) : mm_obj S e 0 = true := by
  obtain ⟨h1, h2, h3, -⟩ := h
  have h4 := kc_ok hk
  unfold mm_obj
  rw [h3, decide_eq_true h2, decide_eq_true h4.1, h4.2]
  rfl
theorem by_k (hk : k < 7) (h : cd_by S e b k v w) : mm_rk S e = cd_kc k := by
  obtain ⟨h1, h2, h3, -⟩ := h
  unfold mm_rk
  rw [if_pos h2, h3, if_pos (kc_ok hk).1]
theorem by_q (hk : k < 7) (h : cd_by S e b k v w) : (decide (e < mm_n S) && decide (mm_K S e < 13)) = true := by
  obtain ⟨h1, h2, h3, -⟩ := h
  rw [h3, decide_eq_true h2, decide_eq_true (kc_ok hk).1]
  rfl
end BYF
/-- gain of a yes over a no, against a number -/
theorem gn_lt {u p n : Nat} (hu : u < 2 ^ 20) (hp : p < 2 ^ 20) (hn : n < 2 ^ 20) : (nI u - nI p < nI n) = (u < n + p) := by
  rw [Int32.lt_iff_toInt_lt, pk_sub_toInt (by omega) (by omega), nI_toInt (by omega)]
  exact propext (by omega)
section DO
variable {S : mm_S} {a b d e : Nat} {P : ab_P} {D : ab_D}
/-- b was weighed -/
def cd_w (S : mm_S) (a e : Nat) (P : ab_P) (D : ab_D) (b : Nat) : Prop := cd_A S a P D ∧ b < ab_kn P ∧ cd_by S e b (ab_ki P b) (ab_v P b) (ab_wo P b) ∧ mm_M S a 18 = nI (ab_val P D b) ∧ mm_M S a 19 = nI (ab_cost P D b)
theorem cw_k (h : cd_w S a e P D b) : ab_ki P b < 7 ∧ ab_v P b < 10 := ⟨(h.1.2.2.2.2.1.2.2.2.1 b h.2.1).1, (h.1.2.2.2.2.1.2.2.2.1 b h.2.1).2.1⟩
theorem s18 (h : cd_w S a e P D b) : mm_cl d 18 [.ref a] S = some (some (.int (nI (ab_val P D b + ab_cost P D b + ab_fe P) - nI (ab_pr D))), S) := by
  obtain ⟨⟨hw, ha, hP, hD, oP, oD⟩, hb, hy, h1, h2⟩ := h
  rw [e18, b18_0 (wd_o hw ha), h1, h2, hP.2.1, hD.2.2.2.2.1, nI_add, nI_add]
theorem gy_lt (h : cd_w S a e P D b) {n : Nat} (hn : n < 100) : (nI (ab_val P D b + ab_cost P D b + ab_fe P) - nI (ab_pr D) < nI n) = ¬ (n + ab_pr D ≤ ab_val P D b + ab_cost P D b + ab_fe P) := by
  obtain ⟨⟨hw, ha, hP, hD, oP, oD⟩, hb, hy, h1, h2⟩ := h
  have v1 := @ab_val_le P D b oP hb
  have v2 := @ab_cost_le P D b oP
  have v3 := oP.2.1
  have v4 := oD.2.2.2.1
  rw [gn_lt (by omega) (by omega) (by omega)]
  exact propext (by omega)
theorem s2 (h : cd_w S a e P D b) : mm_cl (d + 1) 2 [.ref e, .ref a] S = some (some (.int (nI (ab_gy P D b 0))), S) := by
  have hk := wd_k h.1.1 h.1.2.1
  rw [e2, b2_0 hk, s18 h, hp_bd, hp_ts, b2_4]
  unfold ab_gy
  by_cases g : 0 + ab_pr D ≤ ab_val P D b + ab_cost P D b + ab_fe P
  · rw [if_neg (by rw [gy_lt h (by decide)]; exact fun n => n g), b2_7, if_pos g]
  · rw [if_pos (by rw [gy_lt h (by decide)]; exact g), b2_11, if_neg g]
theorem s32 (h : cd_w S a e P D b) : mm_cl (d + 1) 32 [.ref e, .ref a] S = some (some (.int (nI (ab_gy P D b (ab_v P b)))), S) := by
  have hk := wd_k h.1.1 h.1.2.1
  have hc := cw_k h
  rw [e32, b32_0 hk, s18 h, hp_bd, hp_ts, b32_4 (by_o hc.1 h.2.2.1), h.2.2.1.2.2.2.2.2.1]
  unfold ab_gy
  by_cases g : ab_v P b + ab_pr D ≤ ab_val P D b + ab_cost P D b + ab_fe P
  · rw [if_neg (by rw [gy_lt h (by omega)]; exact fun n => n g), b32_11, if_pos g]
  · rw [if_pos (by rw [gy_lt h (by omega)]; exact g), b32_15, if_neg g]
theorem s70 (h : cd_w S a e P D b) : mm_cl (d + 2) 70 [.ref e, .ref a] S = some (some (.int (nI (ab_wai P D b))), S) := by
  have hk := wd_k h.1.1 h.1.2.1
  have hc := cw_k h
  have h' := h
  obtain ⟨hA, hb, hy, h1, h2⟩ := h
  have hA' := hA
  obtain ⟨hw, ha, hP, hD, oP, oD⟩ := hA
  have v1 := @ab_val_le P D b oP hb
  have v4 := oD.2.2.2.1
  rw [e70, b70_0 (wd_o hw ha), h1, hD.2.2.2.2.1]
  unfold ab_wai
  have hs2 : mm_ex (d + 2) 70 26 [.ref e, .ref a] [] S = some (some (.int (nI (ab_gy P D b 0))), S) := by
    rw [b70_26 (by_q hc.1 hy), s2 h', hp_bd, hp_ts, b70_31]
  by_cases g : ab_val P D b < ab_pr D
  · rw [if_neg (nI_ge g (by omega)), b70_11 (by_o hc.1 hy) hk, hy.2.2.2.2.1, s16 hA' hb, hp_bd, hp_ts, b70_19]
    cases hm : ab_may P D b with
    | true => rw [if_pos rfl, if_neg (by decide), b70_22, if_pos ⟨g, rfl⟩]
    | false => rw [if_pos (by decide), hs2, if_neg (fun e => by cases e.2)]
  · rw [if_pos (nI_le (Nat.le_of_not_lt g) (by omega)), hs2, if_neg (fun e => g e.1)]
theorem s26 (h : cd_w S a e P D b) : mm_cl (d + 2) 26 [.ref e, .ref a] S = some (some (.int (nI (ab_fal P D b))), S) := by
  have hk := wd_k h.1.1 h.1.2.1
  have hc := cw_k h
  have h' := h
  obtain ⟨hA, hb, hy, h1, h2⟩ := h
  have hA' := hA
  obtain ⟨hw, ha, hP, hD, oP, oD⟩ := hA
  have v4 := oD.2.2.2.1
  rw [e26, b26_0 (wd_o hw ha) (by_o hc.1 hy), hy.2.2.2.2.2.1, hD.2.2.2.2.1]
  unfold ab_fal
  have hs2 : mm_ex (d + 2) 26 26 [.ref e, .ref a] [] S = some (some (.int (nI (ab_gy P D b 0))), S) := by
    rw [b26_26 (by_q hc.1 hy), s2 h', hp_bd, hp_ts, b26_31]
  by_cases g : ab_v P b < ab_pr D
  · rw [if_neg (nI_ge g (by omega)), b26_11 (by_o hc.1 hy) hk, hy.2.2.2.2.1, s17 hA' hb, hp_bd, hp_ts, b26_19]
    cases hm : ab_frn P D b with
    | true => rw [if_pos rfl, if_neg (by decide), b26_22, if_pos ⟨g, rfl⟩]
    | false => rw [if_pos (by decide), hs2, if_neg (fun e => by cases e.2)]
  · rw [if_pos (nI_le (Nat.le_of_not_lt g) (by omega)), hs2, if_neg (fun e => g e.1)]
theorem s56 (h : cd_w S a e P D b) : mm_cl (d + 2) 56 [.ref e, .ref a] S = some (some (.int (nI (if ab_lo D ≤ ab_v P b then 1 else ab_gy P D b (ab_v P b)))), S) := by
  have hc := cw_k h
  have h' := h
  obtain ⟨⟨hw, ha, hP, hD, oP, oD⟩, hb, hy, h1, h2⟩ := h
  have v4 := oD.2.2.2.2
  rw [e56, b56_0 (wd_o hw ha) (by_o hc.1 hy), hy.2.2.2.2.2.1, hD.2.2.2.2.2.1]
  by_cases g : ab_lo D ≤ ab_v P b
  · rw [if_neg (nI_nlt g (by omega)), b56_11, if_pos g]
  · rw [if_pos (nI_lt (by omega) (by omega)), b56_15 (by_q hc.1 hy), s32 h', hp_bd, hp_ts, b56_20, if_neg g]
theorem s29 (h : cd_w S a e P D b) (hr : 0 < (ab_row D).length) : mm_cl (d + 3) 29 [.ref e, .ref a] S = some (some (.int (nI (if ab_v P b ≤ (ab_row D).length - 1 ∧ ab_may P D b = true then 3 else ab_wai P D b))), S) := by
  have hk := wd_k h.1.1 h.1.2.1
  have hc := cw_k h
  have h' := h
  obtain ⟨hA, hb, hy, h1, h2⟩ := h
  have hA' := hA
  obtain ⟨hw, ha, hP, hD, oP, oD⟩ := hA
  have v4 := row_le oP oD
  rw [e29, b29_0 (wd_o hw ha) (by_o hc.1 hy), hy.2.2.2.2.2.1, hD.1, pk_sub hr]
  have hs2 : mm_ex (d + 3) 29 28 [.ref e, .ref a] [] S = some (some (.int (nI (ab_wai P D b))), S) := by
    rw [b29_28 (by_q hc.1 hy), s70 h', hp_bd, hp_ts, b29_33]
  by_cases g : ab_v P b ≤ (ab_row D).length - 1
  · rw [if_neg (nI_nlt g (by omega)), b29_13 (by_o hc.1 hy) hk, hy.2.2.2.2.1, s16 hA' hb, hp_bd, hp_ts, b29_21]
    cases hm : ab_may P D b with
    | true => rw [if_pos rfl, if_neg (by decide), b29_24, if_pos ⟨g, rfl⟩]
    | false => rw [if_pos (by decide), hs2, if_neg (fun e => by cases e.2)]
  · rw [if_pos (nI_lt (by omega) (by omega)), hs2, if_neg (fun e => g e.1)]
theorem s66 (h : cd_w S a e P D b) : mm_cl (d + 3) 66 [.ref e, .ref a] S = some (some (.int (nI (if ab_te P (3 * b + ab_pr D % 3) = 0 ∨ (ab_te P (3 * b + ab_pr D % 3) = 3 ∧ ab_may P D b = false) then ab_fal P D b else ab_te P (3 * b + ab_pr D % 3)))), S) := by
  have hk := wd_k h.1.1 h.1.2.1
  have hc := cw_k h
  have h' := h
  obtain ⟨hA, hb, hy, h1, h2⟩ := h
  have hA' := hA
  obtain ⟨hw, ha, hP, hD, oP, oD⟩ := hA
  have v4 := oD.2.2.2.1
  have k6 := oP.1
  have hix : (mm_M S e 1 * nI 3) + (mm_M S a 12 - mm_M S a 12 / nI 3 * nI 3) = nI (3 * b + ab_pr D % 3) := by
    rw [hy.2.2.2.2.1, hD.2.2.2.2.1, pk_rem (by omega) (by decide) (by decide), nI_mul, nI_add]
    congr 1
    omega
  have h18 : 3 * b + ab_pr D % 3 < 18 := by omega
  have ht := oP.2.2.2.2.2 (3 * b + ab_pr D % 3) (by omega)
  have hs2 : ∀ x2, mm_ex (d + 3) 66 39 [.ref e, .ref a, .int x2, .null] [] S = some (some (.int (nI (ab_fal P D b))), S) := by
    intro x2
    rw [b66_39, if_neg (by decide), b66_49 (by_q hc.1 hy), s26 h', hp_bd, hp_ts, b66_54]
  have hs3 : ∀ x2, mm_ex (d + 3) 66 43 [.ref e, .ref a, .int x2, .null] [] S = some (some (.int x2), S) := by
    intro x2
    rw [b66_43, if_pos rfl, b66_57]
  rw [e66, b66_0 (wd_o hw ha) (wd_s2 hw ha) (by_o hc.1 hy) (by rw [hix]; exact di_2 hw ha h18) (dx_2 hw ha), hix, nI_clamp (by omega), wd_g2 hw ha, hP.2.2.2.1 _ (by omega)]
  by_cases g0 : ab_te P (3 * b + ab_pr D % 3) = 0
  · rw [if_pos (by rw [g0]), hs2, if_pos (Or.inl g0)]
  · rw [if_neg (fun e => g0 ((nI_eq (by omega) (by omega)).mp e)), b66_23]
    by_cases g3 : ab_te P (3 * b + ab_pr D % 3) = 3
    · rw [if_pos (by rw [g3]), b66_28 (by_o hc.1 hy) hk, hy.2.2.2.2.1, s16 hA' hb, hp_bd, hp_ts, b66_36]
      cases hm : ab_may P D b with
      | true => rw [if_pos rfl, if_neg (by decide), hs3, if_neg (fun e => e.elim g0 (fun e => by cases e.2))]
      | false => rw [if_pos (by decide), hs2, if_pos (Or.inr ⟨g3, rfl⟩)]
    · rw [if_neg (fun e => g3 ((nI_eq (by omega) (by omega)).mp e)), hs3, if_neg (fun e => e.elim g0 (fun e => g3 e.1))]
/-- the numbers of does by kind -/
def cd_dn (k : Nat) : Nat := ([2, 32, 70, 26, 56, 29, 66] : List Nat).getD k 0
theorem sdo (h : cd_w S a e P D b) (hr : 0 < (ab_row D).length) : mm_cl (d + 3) (cd_dn (ab_ki P b)) [.ref e, .ref a] S = some (some (.int (nI (ab_act P D b ((ab_row D).length - 1)))), S) := by
  have hc := (cw_k h).1
  have hk : ab_ki P b = 0 ∨ ab_ki P b = 1 ∨ ab_ki P b = 2 ∨ ab_ki P b = 3 ∨ ab_ki P b = 4 ∨ ab_ki P b = 5 ∨ ab_ki P b = 6 := by omega
  unfold ab_act
  rcases hk with hk | hk | hk | hk | hk | hk | hk <;> rw [hk]
  · exact s2 h
  · exact s32 h
  · exact s70 h
  · exact s26 h
  · exact s56 h
  · exact s29 h hr
  · exact s66 h
end DO
end
section
/-! ===== turns in the class ===== -/
/-- the row of the day a with place k gone, as far as place i -/
def cd_lv (S : mm_S) (a n k i : Nat) : mm_S := mm_wM S (fun c j => if c = a ∧ j = 11 then nI (n - 1) else if c = a + 6 ∧ k ≤ j ∧ j < i then mm_M S (a + 6) (j + 1) else mm_M S c j)
section LV
variable {S T : mm_S} {a b d n k i c j e : Nat} {P : ab_P} {D : ab_D} {x : Int32} {r : List Nat}
theorem lv_fr : cd_fr a S (cd_lv S a n k i) := by
  refine ⟨rfl, fun c j h => ?_⟩
  show (if c = a ∧ j = 11 then _ else if c = a + 6 ∧ k ≤ j ∧ j < i then _ else mm_M S c j) = _
  have h1 : ¬ (c = a ∧ j = 11) := fun e => h (Or.inl ⟨e.1, by omega⟩)
  have h2 : ¬ (c = a + 6 ∧ k ≤ j ∧ j < i) := fun e => h (Or.inr (Or.inr (Or.inr (Or.inl e.1))))
  rw [if_neg h1, if_neg h2]
theorem s14_loop (hw : mm_W S) (ha : mm_dy a) (hk : k < n) (hn : n ≤ 6) : ∀ q i : Nat, i + q = n - 1 → k ≤ i → mm_ex d 14 25 [.ref a, .int (nI k), .int (nI i)] [] (cd_lv S a n k i) = some (none, cd_lv S a n k (n - 1)) := by
  intro q
  induction q with
  | zero =>
    intro i hi hki
    have hl : mm_M (cd_lv S a n k i) a 11 = nI (n - 1) := if_pos ⟨rfl, rfl⟩
    have e : i = n - 1 := by omega
    subst e
    rw [b14_25 (wd_o (fr_W lv_fr hw) ha), hl, if_pos (nI_le (Nat.le_refl _) (by omega)), b14_53]
  | succ q ih =>
    intro i hi hki
    have hl : mm_M (cd_lv S a n k i) a 11 = nI (n - 1) := if_pos ⟨rfl, rfl⟩
    have w := fr_W (lv_fr (S := S) (a := a) (n := n) (k := k) (i := i)) hw
    have e1 : mm_M (cd_lv S a n k i) (a + 6) (i + 1) = mm_M S (a + 6) (i + 1) := by
      show (if a + 6 = a ∧ i + 1 = 11 then _ else if a + 6 = a + 6 ∧ k ≤ i + 1 ∧ i + 1 < i then _ else _) = _
      rw [if_neg (by omega), if_neg (by omega)]
    rw [b14_25 (wd_o w ha), hl, if_neg (nI_ge (by omega) (by omega)), b14_33 (wd_o w ha) (wd_s5 w ha) (by rw [nI_add]; exact di_5 w ha (by omega)) (dx_5 w ha) (di_5 w ha (by omega)), nI_add, wd_g5 w ha, nI_clamp (by omega), nI_clamp (by omega), e1, ← ih (i + 1) (by omega) (by omega)]
    congr 1
    refine st_ext (fun c j => ?_) (fun _ _ => rfl) (fun _ _ => rfl) (fun _ => rfl) (fun _ => rfl) rfl rfl
    rw [hp_MuM]
    show (if c = a + 6 ∧ j = i then _ else if c = a ∧ j = 11 then _ else if c = a + 6 ∧ k ≤ j ∧ j < i then _ else _) = if c = a ∧ j = 11 then _ else if c = a + 6 ∧ k ≤ j ∧ j < i + 1 then _ else _
    by_cases h1 : c = a + 6
    · subst h1
      have h0 : ¬ (a + 6 = a ∧ j = 11) := by omega
      rw [if_neg h0, if_neg h0]
      by_cases h2 : j = i
      · subst h2
        rw [if_pos ⟨rfl, rfl⟩, if_pos ⟨rfl, hki, by omega⟩]
      · rw [if_neg (fun e => h2 e.2)]
        by_cases h3 : k ≤ j ∧ j < i
        · rw [if_pos ⟨rfl, h3⟩, if_pos ⟨rfl, h3.1, by omega⟩]
        · rw [if_neg (fun e => h3 e.2), if_neg (by omega)]
    · rw [if_neg (fun e => h1 e.1), if_neg (fun e : c = a + 6 ∧ k ≤ j ∧ j < i => h1 e.1), if_neg (fun e : c = a + 6 ∧ k ≤ j ∧ j < i + 1 => h1 e.1)]
theorem s14 (hw : mm_W S) (ha : mm_dy a) (hl : mm_M S a 11 = nI n) (hk : k < n) (hn : n ≤ 6) : mm_cl d 14 [.ref a, .int (nI k)] S = some (none, cd_lv S a n k (n - 1)) := by
  rw [e14, b14_0, if_neg (nI_n0 (by omega)), b14_4 (wd_o hw ha), hl, if_pos (nI_lt hk (by omega)), b14_13 (wd_o hw ha), hl, pk_sub (by omega), ← s14_loop (d := d) hw ha hk hn (n - 1 - k) k (by omega) (Nat.le_refl _)]
  congr 1
  refine st_ext (fun c j => ?_) (fun _ _ => rfl) (fun _ _ => rfl) (fun _ => rfl) (fun _ => rfl) rfl rfl
  rw [hp_MuM]
  show _ = if c = a ∧ j = 11 then _ else if c = a + 6 ∧ k ≤ j ∧ j < k then _ else _
  rw [if_neg (by omega : ¬ (c = a + 6 ∧ k ≤ j ∧ j < k))]
theorem s13 (hw : mm_W S) (ha : mm_dy a) (hl : mm_M S a 11 = nI n) (hn : n < 6) : mm_cl d 13 [.ref a, .int x] S = some (none, mm_uM (mm_uM S (a + 6) n x) a 11 (nI (n + 1))) := by
  have e1 : mm_M (mm_uM S (a + 6) n x) a 11 = nI n := by rw [hp_MuM, if_neg (by omega), hl]
  rw [e13, b13_0 (wd_o hw ha), hl, if_neg (nI_ge hn (by decide)), b13_9 (wd_o hw ha) (wd_s5 hw ha) (dx_5 hw ha) (by rw [hl]; exact di_5 hw ha hn), wd_g5 hw ha, hl, nI_clamp (by omega), b13_21 (S := mm_uM S (a + 6) n x) (wd_o hw ha) (wd_o hw ha), e1, nI_add]
theorem dc_a (h : (11 ≤ j ∧ j ≤ 15) ∨ j = 18 ∨ j = 19) : cd_dc a a j := Or.inl ⟨rfl, h⟩
theorem dc_4 : cd_dc a (a + 4) j := Or.inr (Or.inl rfl)
theorem dc_5 : cd_dc a (a + 5) j := Or.inr (Or.inr (Or.inl rfl))
theorem dc_6 : cd_dc a (a + 6) j := Or.inr (Or.inr (Or.inr (Or.inl rfl)))
theorem dc_8 : cd_dc a (a + 8) j := Or.inr (Or.inr (Or.inr (Or.inr rfl)))
/-- cells of a day apart -/
theorem uM_n {m m2 : Nat} (h : m ≠ m2) : mm_M (mm_uM S (a + m) k x) (a + m2) j = mm_M S (a + m2) j := by rw [hp_MuM, if_neg (by omega)]
theorem uM_n0 {m : Nat} (h : 0 < m) : mm_M (mm_uM S (a + m) k x) a j = mm_M S a j := by rw [hp_MuM, if_neg (by omega)]
theorem uM_0n {m : Nat} (h : 0 < m) : mm_M (mm_uM S a k x) (a + m) j = mm_M S (a + m) j := by rw [hp_MuM, if_neg (by omega)]
theorem uM_k {c : Nat} (h : j ≠ k) : mm_M (mm_uM S c k x) c j = mm_M S c j := by rw [hp_MuM, if_neg (fun e => h e.2)]
theorem uM_s {c : Nat} : mm_M (mm_uM S c k x) c k = x := by rw [hp_MuM, if_pos ⟨rfl, rfl⟩]
theorem lv_0 (h : j ≠ 11) : mm_M (cd_lv S a n k i) a j = mm_M S a j := by
  show (if a = a ∧ j = 11 then _ else if a = a + 6 ∧ k ≤ j ∧ j < i then _ else _) = _
  rw [if_neg (fun e => h e.2), if_neg (by omega)]
theorem lv_11 : mm_M (cd_lv S a n k i) a 11 = nI (n - 1) := if_pos ⟨rfl, rfl⟩
theorem lv_m {m : Nat} (h0 : 0 < m) (h : m ≠ 6) : mm_M (cd_lv S a n k i) (a + m) j = mm_M S (a + m) j := by
  show (if a + m = a ∧ j = 11 then _ else if a + m = a + 6 ∧ k ≤ j ∧ j < i then _ else _) = _
  rw [if_neg (by omega), if_neg (by omega)]
theorem lv_6 (h : k ≤ j) (h2 : j < i) : mm_M (cd_lv S a n k i) (a + 6) j = mm_M S (a + 6) (j + 1) := by
  show (if a + 6 = a ∧ j = 11 then _ else if a + 6 = a + 6 ∧ k ≤ j ∧ j < i then _ else _) = _
  rw [if_neg (by omega), if_pos ⟨rfl, h, h2⟩]
theorem lv_6b (h : j < k) : mm_M (cd_lv S a n k i) (a + 6) j = mm_M S (a + 6) j := by
  show (if a + 6 = a ∧ j = 11 then _ else if a + 6 = a + 6 ∧ k ≤ j ∧ j < i then _ else _) = _
  rw [if_neg (by omega), if_neg (by omega)]
/-- the head goes -/
theorem lv_D (hD : cd_D S a c D) (hr : ab_row D = b :: r) : cd_D (cd_lv S a (r.length + 1) 0 r.length) a c (r, D.2) := by
  obtain ⟨h1, h2, h3, h4, h5, h6, h7, h8⟩ := hD
  refine ⟨lv_11, fun p hp => ?_, fun b hb => (lv_m (by decide) (by decide)).trans (h3 b hb), fun b hb => (lv_m (by decide) (by decide)).trans (h4 b hb), (lv_0 (by decide)).trans h5, (lv_0 (by decide)).trans h6, (lv_0 (by decide)).trans h7, (lv_0 (by decide)).trans h8⟩
  have hp : p < r.length := hp
  have h9 := h2 (p + 1) (by rw [hr]; exact Nat.succ_lt_succ hp)
  rw [hr] at h9
  exact (lv_6 (Nat.zero_le _) hp).trans h9
theorem min_if {u v : Nat} (hu : u < 2 ^ 30) (hv : v < 2 ^ 30) : (if nI u < nI v then nI u else nI v) = nI (min v u) := by
  by_cases h : u < v
  · rw [if_pos (nI_lt h (by omega)), Nat.min_eq_right (by omega)]
  · rw [if_neg (nI_nlt (by omega) (by omega)), Nat.min_eq_left (by omega)]
/-- what a carried out turn leaves: L is the day with its head gone -/
def cd_t1 (L : mm_S) (a b : Nat) (P : ab_P) (D : ab_D) : mm_S := mm_uM (mm_uM (mm_uM (mm_uM (mm_uM L a 14 (ab_ti D + nI (ab_pr D))) a 13 (nI (ab_lo D) - nI 1)) (a + 5) b (ab_ga D b + (nI (ab_val P D b) - nI (ab_pr D)))) a 12 (nI (min 999 (ab_pr D + ab_up P)))) a 15 (ab_tu D + nI 1)
def cd_t2 (L : mm_S) (a b : Nat) (P : ab_P) (D : ab_D) : mm_S := mm_uM (mm_uM (mm_uM (mm_uM L a 14 (ab_ti D + nI (ab_fe P))) (a + 5) b (ab_ga D b - (nI (ab_cost P D b) + nI (ab_fe P)))) a 12 (nI (if ab_down P = 0 then ab_pr D / 2 else ab_down P))) a 15 (ab_tu D + nI 1)
def cd_t3 (L : mm_S) (a b n : Nat) (D : ab_D) : mm_S := mm_uM (mm_uM (mm_uM (mm_uM L (a + 4) b (nI (ab_aw D b + 1))) (a + 6) n (nI b)) a 11 (nI (n + 1))) a 15 (ab_tu D + nI 1)
theorem s22 (hA : cd_A S a P D) (hr : ab_row D = b :: r) (hb : b < ab_kn P) (h18 : mm_M S a 18 = nI (ab_val P D b)) (h19 : mm_M S a 19 = nI (ab_cost P D b)) {act : Nat} (hact : act = 1 ∨ act = 2 ∨ act = 3) : mm_cl (d + 1) 22 [.ref a, .int (nI act)] S = some (none, if act = 1 then cd_t1 (cd_lv S a (r.length + 1) 0 r.length) a b P D else if act = 2 then cd_t2 (cd_lv S a (r.length + 1) 0 r.length) a b P D else cd_t3 (cd_lv S a (r.length + 1) 0 r.length) a b r.length D) := by
  obtain ⟨hw, ha, hP, hD, oP, oD⟩ := hA
  have hlen := row_le oP oD
  rw [hr, List.length_cons] at hlen
  have hb6 := Nat.lt_of_lt_of_le hb oP.1
  have hl := hD.1
  rw [hr, List.length_cons] at hl
  have hh := hD.2.1 0 (by rw [hr]; exact Nat.succ_pos _)
  rw [hr] at hh
  have hh : mm_M S (a + 6) 0 = nI b := hh
  obtain ⟨s, hs, hs2, hs3⟩ := hP.2.2.2.2.2
  have hL := lv_D hD hr
  have fL := lv_fr (S := S) (a := a) (n := r.length + 1) (k := 0) (i := r.length)
  have wL := fr_W fL hw
  have pL := fr_P ha ha fL hP
  have g18 : mm_M (cd_lv S a (r.length + 1) 0 r.length) a 18 = nI (ab_val P D b) := (lv_0 (by decide)).trans h18
  have g19 : mm_M (cd_lv S a (r.length + 1) 0 r.length) a 19 = nI (ab_cost P D b) := (lv_0 (by decide)).trans h19
  have hu := ab_up_lt oP
  have hdn := ab_down_lt oP
  have hpr := oD.2.2.2.1
  have h14 := s14 (d := d) (k := 0) hw ha hl (by omega) hlen
  rw [Nat.add_sub_cancel] at h14
  rw [e22, b22_0 (wd_o hw ha) (wd_s5 hw ha) (di_5 hw ha (by decide)) (dx_5 hw ha) (wd_k hw ha), wd_g5 hw ha, nI_clamp (by decide), hh, h14, hp_bd, hp_tn]
  generalize cd_lv S a (r.length + 1) 0 r.length = L at *
  obtain ⟨s', hs', hs2', hs3'⟩ := pL.2.2.2.2.2
  rw [fr_R fL, hs] at hs'
  cases hs'
  have rg8 : mm_rg L a 8 = s := hp_rg (by rw [fr_R fL]; exact hs)
  have rs8 : (mm_R L a 8).isSome = true := hp_rs (by rw [fr_R fL]; exact hs)
  have os := ws_o wL hs2
  have u0 : mm_M L s 0 = nI (ab_up P) := hs3'.1
  have u1 : mm_M L s 1 = nI (ab_down P) := hs3'.2.1
  have sa : (s = a) = False := eq_false (by unfold mm_dy at ha; unfold mm_sh at hs2; omega)
  have sa5 : (s = a + 5) = False := eq_false (by unfold mm_dy at ha; unfold mm_sh at hs2; omega)
  have hy : ∀ y, 0 < y → (a = a + y) = False := fun y h => eq_false (by omega)
  have hy2 : ∀ y, 0 < y → (a + y = a) = False := fun y h => eq_false (by omega)
  have f9 := pL.2.1
  obtain ⟨l11, l6, l4, l5, l12, l13, l14, l15⟩ := hL
  have l5 := l5 b hb
  have l4 := l4 b hb
  have l11 : mm_M L a 11 = nI r.length := l11
  have l12 : mm_M L a 12 = nI (ab_pr D) := l12
  have l13 : mm_M L a 13 = nI (ab_lo D) := l13
  have l14 : mm_M L a 14 = ab_ti D := l14
  have l15 : mm_M L a 15 = ab_tu D := l15
  have l5 : mm_M L (a + 5) b = ab_ga D b := l5
  have l4 : mm_M L (a + 4) b = nI (ab_aw D b) := l4
  have hbc : (nI b).toNatClampNeg = b := nI_clamp (by omega)
  have hbi : mm_inb (nI b) 6 = true := hp_inb hb6 (by omega)
  have hmin : (if nI (ab_pr D + ab_up P) < nI 999 then nI (ab_pr D + ab_up P) else nI 999) = nI (min 999 (ab_pr D + ab_up P)) := min_if (by omega) (by decide)
  have hdiv : nI (ab_pr D) / nI 2 = nI (ab_pr D / 2) := pk_div (by omega) (by decide) (by decide)
  have hcd0 : (nI (ab_down P) = nI 0) = (ab_down P = 0) := propext (nI_eq (by omega) (by decide))
  have n21 : ¬ nI 2 = nI 1 := by decide
  have n31 : ¬ nI 3 = nI 1 := by decide
  have n32 : ¬ nI 3 = nI 2 := by decide
  rcases hact with rfl | rfl | rfl
  · rw [if_pos rfl]
    simp only [b22_12, b22_17, b22_32, b22_46, b22_63, b22_83, b22_88, b22_107, b22_124, b22_130, b22_139, b22_152, b22_167, b22_169, e22, hp_MuM, hp_LuL, hp_RuR, hp_McpM, hp_LcpL, hp_LuM, hp_RuM, hp_KuM, hp_NuM, hp_nuM, hp_zuM, hp_ouM, hp_auM, hp_kuM, hp_guM, hp_MuL, hp_RuL, hp_KuL, hp_NuL, hp_nuL, hp_zuL, hp_ouL, hp_auL, hp_kuL, hp_guL, hp_MuR, hp_LuR, hp_KuR, hp_NuR, hp_nuR, hp_zuR, hp_ouR, hp_auR, hp_kuR, hp_LcpM, hp_RcpM, hp_KcpM, hp_NcpM, hp_ncpM, hp_zcpM, hp_ocpM, hp_acpM, hp_kcpM, hp_gcpM, hp_McpL, hp_RcpL, hp_KcpL, hp_NcpL, hp_ncpL, hp_zcpL, hp_ocpL, hp_acpL, hp_kcpL, hp_gcpL, hp_MwM, hp_LwM, hp_RwM, hp_KwM, hp_NwM, hp_nwM, hp_zwM, hp_owM, hp_awM, hp_kwM, hp_gwM, hp_MwR, hp_LwR, hp_RwR, hp_KwR, hp_NwR, hp_nwR, hp_zwR, hp_owR, hp_awR, hp_kwR, hp_MwL, hp_LwL, hp_RwL, hp_KwL, hp_NwL, hp_nwL, hp_zwL, hp_owL, hp_awL, hp_kwL, hp_gwL, hp_w2M, hp_w2R, hp_w2L, wd_o wL ha, wd_k wL ha, wd_q wL ha, wd_g0 wL ha, wd_s0 wL ha, wd_N1 wL ha, wd_K1 wL ha, wd_a1 wL ha, wd_g1 wL ha, wd_s1 wL ha, wd_N2 wL ha, wd_a2 wL ha, wd_g2 wL ha, wd_s2 wL ha, wd_N3 wL ha, wd_a3 wL ha, wd_g3 wL ha, wd_s3 wL ha, wd_N4 wL ha, wd_a4 wL ha, wd_g4 wL ha, wd_s4 wL ha, wd_N5 wL ha, wd_a5 wL ha, wd_g5 wL ha, wd_s5 wL ha, wd_N6 wL ha, wd_a6 wL ha, wd_g6 wL ha, wd_s6 wL ha, wd_N7 wL ha, wd_a7 wL ha, wd_g7 wL ha, wd_s7 wL ha, wd_N8 wL ha, wd_a8 wL ha, List.not_mem_nil, false_implies, implies_true, nI_clamp, nI_add, Nat.reducePow, hp_bd, hp_bdi, hp_ts, hp_tn, hp_tsc, hp_tnc, Nat.reduceAdd, Nat.reduceSub, Nat.reduceMul, Nat.reduceLT, Nat.reduceLeDiff, Nat.reduceEqDiff, reduceIte, not_true_eq_false, not_false_eq_true, and_true, true_and, and_self, and_false, false_and, or_true, true_or, or_false, false_or, decide_true, decide_false, Bool.and_true, Bool.true_and, Bool.not_false, Bool.or_false, Bool.false_or, Bool.or_true, Bool.true_or, rg8, rs8, os, u0, u1, sa, sa5, hy, hy2, f9, l5, l12, l13, l14, l15, hbc, hbi, g18, g19, hmin]
    rfl
  · rw [if_neg (by decide), if_pos rfl]
    simp only [b22_12, b22_17, b22_32, b22_46, b22_63, b22_83, b22_88, b22_107, b22_124, b22_130, b22_139, b22_152, b22_167, b22_169, e22, hp_MuM, hp_LuL, hp_RuR, hp_McpM, hp_LcpL, hp_LuM, hp_RuM, hp_KuM, hp_NuM, hp_nuM, hp_zuM, hp_ouM, hp_auM, hp_kuM, hp_guM, hp_MuL, hp_RuL, hp_KuL, hp_NuL, hp_nuL, hp_zuL, hp_ouL, hp_auL, hp_kuL, hp_guL, hp_MuR, hp_LuR, hp_KuR, hp_NuR, hp_nuR, hp_zuR, hp_ouR, hp_auR, hp_kuR, hp_LcpM, hp_RcpM, hp_KcpM, hp_NcpM, hp_ncpM, hp_zcpM, hp_ocpM, hp_acpM, hp_kcpM, hp_gcpM, hp_McpL, hp_RcpL, hp_KcpL, hp_NcpL, hp_ncpL, hp_zcpL, hp_ocpL, hp_acpL, hp_kcpL, hp_gcpL, hp_MwM, hp_LwM, hp_RwM, hp_KwM, hp_NwM, hp_nwM, hp_zwM, hp_owM, hp_awM, hp_kwM, hp_gwM, hp_MwR, hp_LwR, hp_RwR, hp_KwR, hp_NwR, hp_nwR, hp_zwR, hp_owR, hp_awR, hp_kwR, hp_MwL, hp_LwL, hp_RwL, hp_KwL, hp_NwL, hp_nwL, hp_zwL, hp_owL, hp_awL, hp_kwL, hp_gwL, hp_w2M, hp_w2R, hp_w2L, wd_o wL ha, wd_k wL ha, wd_q wL ha, wd_g0 wL ha, wd_s0 wL ha, wd_N1 wL ha, wd_K1 wL ha, wd_a1 wL ha, wd_g1 wL ha, wd_s1 wL ha, wd_N2 wL ha, wd_a2 wL ha, wd_g2 wL ha, wd_s2 wL ha, wd_N3 wL ha, wd_a3 wL ha, wd_g3 wL ha, wd_s3 wL ha, wd_N4 wL ha, wd_a4 wL ha, wd_g4 wL ha, wd_s4 wL ha, wd_N5 wL ha, wd_a5 wL ha, wd_g5 wL ha, wd_s5 wL ha, wd_N6 wL ha, wd_a6 wL ha, wd_g6 wL ha, wd_s6 wL ha, wd_N7 wL ha, wd_a7 wL ha, wd_g7 wL ha, wd_s7 wL ha, wd_N8 wL ha, wd_a8 wL ha, List.not_mem_nil, false_implies, implies_true, nI_clamp, nI_add, Nat.reducePow, hp_bd, hp_bdi, hp_ts, hp_tn, hp_tsc, hp_tnc, Nat.reduceAdd, Nat.reduceSub, Nat.reduceMul, Nat.reduceLT, Nat.reduceLeDiff, Nat.reduceEqDiff, reduceIte, not_true_eq_false, not_false_eq_true, and_true, true_and, and_self, and_false, false_and, or_true, true_or, or_false, false_or, decide_true, decide_false, Bool.and_true, Bool.true_and, Bool.not_false, Bool.or_false, Bool.false_or, Bool.or_true, Bool.true_or, rg8, rs8, os, u0, u1, sa, sa5, hy, hy2, f9, l5, l12, l13, l14, l15, hbc, hbi, g18, g19, n21, hcd0, hdiv]
    unfold cd_t2
    rw [nI_add]
    by_cases hz : ab_down P = 0
    · rw [if_pos hz, if_pos hz]
    · rw [if_neg hz, if_neg hz]
  · rw [if_neg (by decide), if_neg (by decide)]
    have wU : mm_W (mm_uM L (a + 4) b (nI (ab_aw D b + 1))) := wL
    have lU : mm_M (mm_uM L (a + 4) b (nI (ab_aw D b + 1))) a 11 = nI r.length := by rw [uM_n0 (by decide)]; exact l11
    have h13 := s13 (d := d) (x := nI b) wU ha lU (by omega)
    have e15 : mm_M (mm_uM (mm_uM (mm_uM L (a + 4) b (nI (ab_aw D b + 1))) (a + 6) r.length (nI b)) a 11 (nI (r.length + 1))) a 15 = ab_tu D := by rw [uM_k (by decide), uM_n0 (by decide), uM_n0 (by decide)]; exact l15
    rw [b22_12, if_neg n31, b22_83, if_neg n32, b22_152 (wd_o wL ha) (wd_s3 wL ha) (di_3 wL ha hb6) (dx_3 wL ha) (wd_k wL ha), wd_g3 wL ha, hbc, l4, nI_add, h13, hp_bd, hp_tn, b22_167 (wd_o (S := mm_uM (mm_uM (mm_uM L (a + 4) b (nI (ab_aw D b + 1))) (a + 6) r.length (nI b)) a 11 (nI (r.length + 1))) wL ha), e15]
    rfl
/-- what a turn leaves is the day that it should be -/
theorem t1_D (hD : cd_D T a c (r, D.2)) (hlo : 0 < ab_lo D) (hb6 : b < 6) : cd_fr a T (cd_t1 T a b P D) ∧ cd_D (cd_t1 T a b P D) a c (ab_do P D b r 1) := by
  obtain ⟨h1, h2, h3, h4, h5, h6, h7, h8⟩ := hD
  unfold cd_t1
  refine ⟨fr_w (fr_w (fr_w (fr_w (fr_w fr_rf (dc_a (by decide))) (dc_a (by decide))) dc_5) (dc_a (by decide))) (dc_a (by decide)), ?_⟩
  unfold ab_do
  rw [if_pos rfl]
  refine ⟨?_, fun p hp => ?_, fun x hx => ?_, fun x hx => ?_, ?_, ?_, ?_, ?_⟩
  · rw [uM_k (by decide), uM_k (by decide), uM_n0 (by decide), uM_k (by decide), uM_k (by decide)]; exact h1
  · rw [uM_0n (by decide), uM_0n (by decide), uM_n (by decide), uM_0n (by decide), uM_0n (by decide)]; exact h2 p hp
  · rw [uM_0n (by decide), uM_0n (by decide), uM_n (by decide), uM_0n (by decide), uM_0n (by decide)]; exact h3 x hx
  · rw [uM_0n (by decide), uM_0n (by decide)]
    show _ = (if x = b then _ else _)
    by_cases e : x = b
    · rw [e, uM_s, if_pos rfl]
    · rw [uM_k e, if_neg e, uM_0n (by decide), uM_0n (by decide)]; exact h4 x hx
  · rw [uM_k (by decide), uM_s]; rfl
  · rw [uM_k (by decide), uM_k (by decide), uM_n0 (by decide), uM_s]
    show _ = nI (ab_lo D - 1)
    exact pk_sub hlo
  · rw [uM_k (by decide), uM_k (by decide), uM_n0 (by decide), uM_k (by decide), uM_s]; rfl
  · rw [uM_s]; rfl
theorem t2_D (hD : cd_D T a c (r, D.2)) (hb6 : b < 6) : cd_fr a T (cd_t2 T a b P D) ∧ cd_D (cd_t2 T a b P D) a c (ab_do P D b r 2) := by
  obtain ⟨h1, h2, h3, h4, h5, h6, h7, h8⟩ := hD
  unfold cd_t2
  refine ⟨fr_w (fr_w (fr_w (fr_w fr_rf (dc_a (by decide))) dc_5) (dc_a (by decide))) (dc_a (by decide)), ?_⟩
  unfold ab_do
  rw [if_neg (by decide : ¬ 2 = 1), if_pos rfl]
  refine ⟨?_, fun p hp => ?_, fun x hx => ?_, fun x hx => ?_, ?_, ?_, ?_, ?_⟩
  · rw [uM_k (by decide), uM_k (by decide), uM_n0 (by decide), uM_k (by decide)]; exact h1
  · rw [uM_0n (by decide), uM_0n (by decide), uM_n (by decide), uM_0n (by decide)]; exact h2 p hp
  · rw [uM_0n (by decide), uM_0n (by decide), uM_n (by decide), uM_0n (by decide)]; exact h3 x hx
  · rw [uM_0n (by decide), uM_0n (by decide)]
    show _ = (if x = b then _ else _)
    by_cases e : x = b
    · rw [e, uM_s, if_pos rfl]
    · rw [uM_k e, if_neg e, uM_0n (by decide)]; exact h4 x hx
  · rw [uM_k (by decide), uM_s]; rfl
  · rw [uM_k (by decide), uM_k (by decide), uM_n0 (by decide), uM_k (by decide)]; exact h6
  · rw [uM_k (by decide), uM_k (by decide), uM_n0 (by decide), uM_s]; rfl
  · rw [uM_s]; rfl
theorem t3_D (hD : cd_D T a c (r, D.2)) (hb6 : b < 6) : cd_fr a T (cd_t3 T a b r.length D) ∧ cd_D (cd_t3 T a b r.length D) a c (ab_do P D b r 3) := by
  obtain ⟨h1, h2, h3, h4, h5, h6, h7, h8⟩ := hD
  unfold cd_t3
  refine ⟨fr_w (fr_w (fr_w (fr_w fr_rf dc_4) dc_6) (dc_a (by decide))) (dc_a (by decide)), ?_⟩
  unfold ab_do
  rw [if_neg (by decide : ¬ 3 = 1), if_neg (by decide : ¬ 3 = 2)]
  refine ⟨?_, fun p hp => ?_, fun x hx => ?_, fun x hx => ?_, ?_, ?_, ?_, ?_⟩
  · rw [uM_k (by decide), uM_s]
    show _ = nI (r ++ [b]).length
    rw [List.length_append]; rfl
  · have hp : p < (r ++ [b]).length := hp
    rw [List.length_append] at hp
    rw [uM_0n (by decide), uM_0n (by decide)]
    show _ = nI ((r ++ [b]).getD p 0)
    by_cases e : p = r.length
    · rw [e, uM_s, List.getD_eq_getElem?_getD, List.getElem?_append_right (Nat.le_refl _), Nat.sub_self]; rfl
    · have hp2 : p < r.length := by
        have : [b].length = 1 := rfl
        omega
      rw [uM_k e, uM_n (by decide), List.getD_eq_getElem?_getD, List.getElem?_append_left hp2, ← List.getD_eq_getElem?_getD]
      exact h2 p hp2
  · rw [uM_0n (by decide), uM_0n (by decide), uM_n (by decide)]
    show _ = nI (if x = b then _ else _)
    by_cases e : x = b
    · rw [e, uM_s, if_pos rfl]
    · rw [uM_k e, if_neg e]; exact h3 x hx
  · rw [uM_0n (by decide), uM_0n (by decide), uM_n (by decide), uM_n (by decide)]; exact h4 x hx
  · rw [uM_k (by decide), uM_k (by decide), uM_n0 (by decide), uM_n0 (by decide)]; exact h5
  · rw [uM_k (by decide), uM_k (by decide), uM_n0 (by decide), uM_n0 (by decide)]; exact h6
  · rw [uM_k (by decide), uM_k (by decide), uM_n0 (by decide), uM_n0 (by decide)]; exact h7
  · rw [uM_s]; rfl
end LV
end
section
/-! ===== weighing, turns, the day to its end, in the class ===== -/
section WG
variable {S T : mm_S} {a b d n k i c j e : Nat} {P : ab_P} {D : ab_D} {x : Int32} {r : List Nat}
/-- the measures of b in the day a -/
def cd_mw (S : mm_S) (a b : Nat) (P : ab_P) (D : ab_D) : mm_S := mm_uM (mm_uM (mm_uM (mm_uM (mm_uM (mm_uM (mm_uM S (a + 8) 0 (nI b)) (a + 8) 1 (nI (ab_ki P b))) (a + 8) 2 (nI (ab_pr D))) (a + 8) 3 (nI (ab_lo D))) (a + 8) 4 (nI (ab_row D).length)) (a + 8) 5 (nI (ab_aw D b))) (a + 8) 6 (if ab_frn P D b = true then nI 1 else nI 0)
theorem mw_fr : cd_fr a S (cd_mw S a b P D) := fr_w (fr_w (fr_w (fr_w (fr_w (fr_w (fr_w fr_rf dc_8) dc_8) dc_8) dc_8) dc_8) dc_8) dc_8
theorem mw_D (hD : cd_D S a n D) : cd_D (cd_mw S a b P D) a n D := by
  obtain ⟨h1, h2, h3, h4, h5, h6, h7, h8⟩ := hD
  have g0 : ∀ j, mm_M (cd_mw S a b P D) a j = mm_M S a j := fun j => by
    unfold cd_mw
    rw [uM_n0 (by decide), uM_n0 (by decide), uM_n0 (by decide), uM_n0 (by decide), uM_n0 (by decide), uM_n0 (by decide), uM_n0 (by decide)]
  have g : ∀ m j, m ≠ 8 → mm_M (cd_mw S a b P D) (a + m) j = mm_M S (a + m) j := fun m j hm => by
    unfold cd_mw
    rw [uM_n hm.symm, uM_n hm.symm, uM_n hm.symm, uM_n hm.symm, uM_n hm.symm, uM_n hm.symm, uM_n hm.symm]
  exact ⟨(g0 _).trans h1, fun p hp => (g 6 _ (by decide)).trans (h2 p hp), fun b hb => (g 4 _ (by decide)).trans (h3 b hb), fun b hb => (g 5 _ (by decide)).trans (h4 b hb), (g0 _).trans h5, (g0 _).trans h6, (g0 _).trans h7, (g0 _).trans h8⟩
theorem fr_A (h : cd_fr a S T) (hA : cd_A S a P D) (hD : cd_D T a (ab_kn P) D) : cd_A T a P D := ⟨fr_W h hA.1, hA.2.1, fr_P hA.2.1 hA.2.1 h hA.2.2.1, hD, hA.2.2.2.2⟩
theorem mw_me (hA : cd_A S a P D) (hb : b < ab_kn P) : cd_me (cd_mw S a b P D) (a + 8) (ab_ms P D b) := by
  obtain ⟨hw, ha, hP, hD, oP, oD⟩ := hA
  have wT : mm_W (cd_mw S a b P D) := fr_W mw_fr hw
  have k1 := oP.2.2.2.1 b hb
  have k2 := oP.1
  have k3 := oD.2.2.2.2
  have k3' := oD.2.2.2.1
  have k4 := oD.2.2.1 b hb
  have k5 := row_le oP oD
  refine ⟨wd_a8 wT ha, wd_N8 wT ha, fun l hl => ?_⟩
  unfold cd_mw
  rcases (by omega : l = 0 ∨ l = 1 ∨ l = 2 ∨ l = 3 ∨ l = 4 ∨ l = 5 ∨ l = 6) with rfl | rfl | rfl | rfl | rfl | rfl | rfl
  · exact ⟨by rw [uM_k (by decide), uM_k (by decide), uM_k (by decide), uM_k (by decide), uM_k (by decide), uM_k (by decide), uM_s]; rfl, by show b < 2 ^ 31; omega⟩
  · exact ⟨by rw [uM_k (by decide), uM_k (by decide), uM_k (by decide), uM_k (by decide), uM_k (by decide), uM_s]; rfl, by show ab_ki P b < 2 ^ 31; omega⟩
  · exact ⟨by rw [uM_k (by decide), uM_k (by decide), uM_k (by decide), uM_k (by decide), uM_s]; rfl, by show ab_pr D < 2 ^ 31; omega⟩
  · exact ⟨by rw [uM_k (by decide), uM_k (by decide), uM_k (by decide), uM_s]; rfl, by show ab_lo D < 2 ^ 31; omega⟩
  · exact ⟨by rw [uM_k (by decide), uM_k (by decide), uM_s]; rfl, by show (ab_row D).length < 2 ^ 31; omega⟩
  · exact ⟨by rw [uM_k (by decide), uM_s]; rfl, by show ab_aw D b < 2 ^ 31; omega⟩
  · refine ⟨?_, ?_⟩
    · rw [uM_s]
      show _ = nI (if ab_frn P D b = true then 1 else 0)
      split <;> rfl
    · show (if ab_frn P D b = true then 1 else 0) < 2 ^ 31
      split <;> decide
set_option maxHeartbeats 4000000 in
theorem s19 (hA : cd_A S a P D) (hb : b < ab_kn P) : mm_cl (d + 3) 19 [.ref a, .int (nI b)] S = some (none, mm_uM (mm_uM (cd_mw S a b P D) a 18 (nI (ab_val P D b))) a 19 (nI (ab_cost P D b))) := by
  have hA' := hA
  obtain ⟨hw, ha, hP, hD, oP, oD⟩ := hA
  have hb6 := Nat.lt_of_lt_of_le hb oP.1
  obtain ⟨e, he, hy⟩ := hP.2.2.2.2.1 b hb
  have hk := oP.2.2.2.1 b hb
  obtain ⟨s, hs, hs2, hs3⟩ := hP.2.2.2.2.2
  have cl : (nI b).toNatClampNeg = b := nI_clamp (by omega)
  have rgb : mm_rg S (a + 1) b = e := hp_rg he
  have rsb : (mm_R S (a + 1) b).isSome = true := hp_rs he
  have rg8 : mm_rg S a 8 = s := hp_rg hs
  have rs8 : (mm_R S a 8).isSome = true := hp_rs hs
  have oe := by_o hk.1 hy
  -- the states on the way
  have i7 : ∀ k, k < 7 → mm_inb (nI k) (mm_N S (a + 8)) = true := fun k hk => by rw [wd_N8 hw ha]; exact hp_inb hk (by omega)
  have c7 : ∀ k, k < 7 → (nI k).toNatClampNeg = k := fun k hk => nI_clamp (by omega)
  have ea8 : (e = a + 8) = False := eq_false (by have := hy.1; unfold mm_dy at ha; omega)
  have hy1 : ∀ y, 0 < y → (a = a + y) = False := fun y h => eq_false (by omega)
  have hbi : mm_inb (nI b) 6 = true := hp_inb hb6 (by omega)
  have h7i : ∀ k, k < 7 → mm_inb (nI k) 7 = true := fun k hk => hp_inb hk (by omega)
  have l11 := hD.1
  have l12 := hD.2.2.2.2.1
  have l13 := hD.2.2.2.2.2.1
  have l4 := hD.2.2.1 b hb
  have m0 : mm_M S e 0 = nI (ab_ki P b) := hy.2.2.2.1
  have m3 : mm_M S e 3 = nI (ab_wo P b) := hy.2.2.2.2.2.2
  let S1 := mm_uM S (a + 8) 0 (nI b)
  let S2 := mm_uM S1 (a + 8) 1 (nI (ab_ki P b))
  let S3 := mm_uM S2 (a + 8) 2 (nI (ab_pr D))
  let S4 := mm_uM S3 (a + 8) 3 (nI (ab_lo D))
  let S5 := mm_uM S4 (a + 8) 4 (nI (ab_row D).length)
  let S6 := mm_uM S5 (a + 8) 5 (nI (ab_aw D b))
  have f6 : cd_fr a S S6 := fr_w (fr_w (fr_w (fr_w (fr_w (fr_w fr_rf dc_8) dc_8) dc_8) dc_8) dc_8) dc_8
  have g0 : ∀ j, mm_M S6 a j = mm_M S a j := fun j => by
    show mm_M (mm_uM (mm_uM (mm_uM (mm_uM (mm_uM (mm_uM S (a + 8) 0 _) (a + 8) 1 _) (a + 8) 2 _) (a + 8) 3 _) (a + 8) 4 _) (a + 8) 5 _) a j = _
    rw [uM_n0 (by decide), uM_n0 (by decide), uM_n0 (by decide), uM_n0 (by decide), uM_n0 (by decide), uM_n0 (by decide)]
  have g : ∀ m j, m ≠ 8 → mm_M S6 (a + m) j = mm_M S (a + m) j := fun m j hm => by
    show mm_M (mm_uM (mm_uM (mm_uM (mm_uM (mm_uM (mm_uM S (a + 8) 0 _) (a + 8) 1 _) (a + 8) 2 _) (a + 8) 3 _) (a + 8) 4 _) (a + 8) 5 _) (a + m) j = _
    rw [uM_n hm.symm, uM_n hm.symm, uM_n hm.symm, uM_n hm.symm, uM_n hm.symm, uM_n hm.symm]
  have D6 : cd_D S6 a (ab_kn P) D := by
    obtain ⟨h1, h2, h3, h4, h5, h6, h7, h8⟩ := hD
    exact ⟨(g0 _).trans h1, fun p hp => (g 6 _ (by decide)).trans (h2 p hp), fun b hb => (g 4 _ (by decide)).trans (h3 b hb), fun b hb => (g 5 _ (by decide)).trans (h4 b hb), (g0 _).trans h5, (g0 _).trans h6, (g0 _).trans h7, (g0 _).trans h8⟩
  have A6 := fr_A f6 hA' D6
  have Am := fr_A (mw_fr (b := b) (P := P) (D := D)) hA' (mw_D hD)
  have wm : mm_W (cd_mw S a b P D) := Am.1
  have me := mw_me hA' hb
  have hcs : cd_cs (cd_mw S a b P D) s (ab_sh P) := by
    obtain ⟨s', hs', -, h3⟩ := Am.2.2.1.2.2.2.2.2
    rw [show mm_R (cd_mw S a b P D) a 8 = mm_R S a 8 from by rw [fr_R mw_fr], hs] at hs'
    cases hs'
    exact h3
  have k52 := s52 (d := d) (w := 0) wm hs2 me (by decide) oP.2.2.1 hcs
  have em3 : mm_M (cd_mw S a b P D) e 3 = nI (ab_wo P b) := (mw_fr.2 _ _ (dc_x (by have := hy.1; unfold mm_dy at ha; omega))).trans m3
  have go : mm_cl (d + 3) 19 [.ref a, .int (nI b)] S = mm_ex (d + 3) 19 62 [.ref a, .int (nI b)] [.int (nI b), .ref (a + 4), .int (nI 5), .ref (a + 8)] S5 := by
    simp only [b19_0, b19_18, b19_28, b19_38, b19_48, e19, hp_MuM, hp_LuL, hp_RuR, hp_McpM, hp_LcpL, hp_LuM, hp_RuM, hp_KuM, hp_NuM, hp_nuM, hp_zuM, hp_ouM, hp_auM, hp_kuM, hp_guM, hp_MuL, hp_RuL, hp_KuL, hp_NuL, hp_nuL, hp_zuL, hp_ouL, hp_auL, hp_kuL, hp_guL, hp_MuR, hp_LuR, hp_KuR, hp_NuR, hp_nuR, hp_zuR, hp_ouR, hp_auR, hp_kuR, hp_LcpM, hp_RcpM, hp_KcpM, hp_NcpM, hp_ncpM, hp_zcpM, hp_ocpM, hp_acpM, hp_kcpM, hp_gcpM, hp_McpL, hp_RcpL, hp_KcpL, hp_NcpL, hp_ncpL, hp_zcpL, hp_ocpL, hp_acpL, hp_kcpL, hp_gcpL, hp_MwM, hp_LwM, hp_RwM, hp_KwM, hp_NwM, hp_nwM, hp_zwM, hp_owM, hp_awM, hp_kwM, hp_gwM, hp_MwR, hp_LwR, hp_RwR, hp_KwR, hp_NwR, hp_nwR, hp_zwR, hp_owR, hp_awR, hp_kwR, hp_MwL, hp_LwL, hp_RwL, hp_KwL, hp_NwL, hp_nwL, hp_zwL, hp_owL, hp_awL, hp_kwL, hp_gwL, hp_w2M, hp_w2R, hp_w2L, wd_o hw ha, wd_k hw ha, wd_q hw ha, wd_g0 hw ha, wd_s0 hw ha, wd_N1 hw ha, wd_K1 hw ha, wd_a1 hw ha, wd_g1 hw ha, wd_s1 hw ha, wd_N2 hw ha, wd_a2 hw ha, wd_g2 hw ha, wd_s2 hw ha, wd_N3 hw ha, wd_a3 hw ha, wd_g3 hw ha, wd_s3 hw ha, wd_N4 hw ha, wd_a4 hw ha, wd_g4 hw ha, wd_s4 hw ha, wd_N5 hw ha, wd_a5 hw ha, wd_g5 hw ha, wd_s5 hw ha, wd_N6 hw ha, wd_a6 hw ha, wd_g6 hw ha, wd_s6 hw ha, wd_N7 hw ha, wd_a7 hw ha, wd_g7 hw ha, wd_s7 hw ha, wd_N8 hw ha, wd_a8 hw ha, List.not_mem_nil, false_implies, implies_true, nI_clamp, nI_add, Nat.reducePow, hp_bd, hp_bdi, hp_ts, hp_tn, hp_tsc, hp_tnc, Nat.reduceAdd, Nat.reduceSub, Nat.reduceMul, Nat.reduceLT, Nat.reduceLeDiff, Nat.reduceEqDiff, reduceIte, not_true_eq_false, not_false_eq_true, and_true, true_and, and_self, and_false, false_and, or_true, true_or, or_false, false_or, decide_true, decide_false, Bool.and_true, Bool.true_and, Bool.not_false, Bool.or_false, Bool.false_or, Bool.or_true, Bool.true_or, cl, rgb, rsb, oe, hbi, h7i, m0, ea8, hy1, l11, l12, l13]
    rfl
  have a48 : a + 4 ≠ a + 8 := by omega
  have m4 : mm_M S5 (a + 4) b = nI (ab_aw D b) := by
    show mm_M (mm_uM (mm_uM (mm_uM (mm_uM (mm_uM S (a + 8) 0 _) (a + 8) 1 _) (a + 8) 2 _) (a + 8) 3 _) (a + 8) 4 _) (a + 4) b = _
    rw [uM_n (by decide), uM_n (by decide), uM_n (by decide), uM_n (by decide), uM_n (by decide)]
    exact l4
  have w5 : mm_W S5 := hw
  have w6 : mm_W S6 := hw
  have r5 := wd_g0 w5 ha
  have o6 : mm_obj S6 e 0 = true := oe
  have k17 := s17 (d := d + 1) A6 hb
  rw [go, b19_62 (by rw [wd_N4 w5 ha]; exact hbi) (wd_a4 w5 ha) (wd_a8 w5 ha) (i7 5 (by decide)) (wd_o w5 ha) (wd_s7 w5 ha) (wd_k w5 ha), cl, m4, c7 5 (by decide), wd_g7 w5 ha]
  rw [show mm_cl (d + 2) 17 [.ref a, .int (nI b)] (mm_uM S5 (a + 8) 5 (nI (ab_aw D b))) = _ from k17, hp_bd, hp_tsc, b19_75]
  have h82 : (if (if ab_frn P D b = true then nI 1 else nI 0) = nI 0 then mm_ex (d + 3) 19 82 [.ref a, .int (nI b)] [.int (nI 6), .ref (a + 8)] S6 else mm_ex (d + 3) 19 78 [.ref a, .int (nI b)] [.int (nI 6), .ref (a + 8)] S6) = mm_ex (d + 3) 19 91 [.ref a, .int (nI b)] [.ref e, .ref a] (cd_mw S a b P D) := by
    unfold cd_mw
    have i0 : mm_inb (nI b) (mm_N S6 (mm_rg S6 a 0)) = true := di_0 w6 ha hb6
    have rs0 : (mm_R S6 (mm_rg S6 a 0) (nI b).toNatClampNeg).isSome = true := by rw [wd_g0 w6 ha, cl]; exact rsb
    have rge : mm_rg S6 (mm_rg S6 a 0) (nI b).toNatClampNeg = e := by rw [wd_g0 w6 ha, cl]; exact rgb
    cases hf : ab_frn P D b with
    | true => rw [if_neg (by decide), b19_78 (wd_a8 w6 ha) (i7 6 (by decide)) (wd_o w6 ha) (wd_s0 w6 ha) i0 (dx_0 w6 ha) rs0, rge, c7 6 (by decide), if_pos rfl]
    | false => rw [if_pos (by decide), b19_82 (wd_a8 w6 ha) (i7 6 (by decide)) (wd_o w6 ha) (wd_s0 w6 ha) i0 (dx_0 w6 ha) rs0, rge, c7 6 (by decide), if_neg (by decide)]
  rw [h82]
  have rg8m : mm_rg (cd_mw S a b P D) a 8 = s := rg8
  have rs8m : (mm_R (cd_mw S a b P D) a 8).isSome = true := rs8
  have om : mm_obj (cd_mw S a b P D) e 0 = true := oe
  have km : mm_rk (cd_mw S a b P D) (mm_rg (cd_mw S a b P D) a 8) = 6 := by rw [rg8m]; exact ws_k wm hs2
  rw [b19_91 om (wd_o wm ha) rs8m (wd_s7 wm ha) km, rg8m, wd_g7 wm ha, k52, hp_bd, hp_tsc, em3]
  -- the second sum
  let Sv := mm_uM (cd_mw S a b P D) a 18 (nI (ab_val P D b))
  have fv : cd_fr a (cd_mw S a b P D) Sv := fr_w fr_rf (dc_a (by decide))
  have Dv : cd_D Sv a (ab_kn P) D := by
    obtain ⟨h1, h2, h3, h4, h5, h6, h7, h8⟩ := Am.2.2.2.1
    exact ⟨(uM_k (by decide)).trans h1, fun p hp => (uM_0n (by decide)).trans (h2 p hp), fun b hb => (uM_0n (by decide)).trans (h3 b hb), fun b hb => (uM_0n (by decide)).trans (h4 b hb), (uM_k (by decide)).trans h5, (uM_k (by decide)).trans h6, (uM_k (by decide)).trans h7, (uM_k (by decide)).trans h8⟩
  have Av := fr_A fv Am Dv
  have mev : cd_me Sv (a + 8) (ab_ms P D b) := ⟨me.1, me.2.1, fun l hl => ⟨(uM_0n (by decide)).trans (me.2.2 l hl).1, (me.2.2 l hl).2⟩⟩
  have hcv : cd_cs Sv s (ab_sh P) := fr_cs (fun m hm i => fv.2 _ _ (dc_x (by unfold mm_dy at ha; unfold mm_sh at hs2; omega))) hcs
  have k52v := s52 (d := d) (w := 1) Av.1 hs2 mev (by decide) oP.2.2.1 hcv
  have hvv : nI (ab_wo P b) + nI (ab_sum (ab_ms P D b) 0 (ab_sh P) 0) = nI (ab_val P D b) := nI_add _ _
  rw [b19_106 (wd_o wm ha) (wd_o wm ha) rs8m (wd_s7 wm ha) km, rg8m, wd_g7 wm ha, hvv]
  rw [show mm_cl (d + 2) 52 [.ref s, .int (nI 1), .ref (a + 8)] (mm_uM (cd_mw S a b P D) a 18 (nI (ab_val P D b))) = _ from k52v, hp_bd, hp_tsc, b19_123 (S := Sv) (wd_o Av.1 ha)]
  rfl
end WG
end
section
/-! ===== a turn, the day to its end, in the class ===== -/
section TN
variable {S T : mm_S} {a b d n k i c j e : Nat} {P : ab_P} {D : ab_D} {x : Int32} {r : List Nat}
theorem wg_fr : cd_fr a S (mm_uM (mm_uM (cd_mw S a b P D) a 18 (nI (ab_val P D b))) a 19 (nI (ab_cost P D b))) := fr_w (fr_w mw_fr (dc_a (by decide))) (dc_a (by decide))
theorem wg_D (hD : cd_D S a n D) : cd_D (mm_uM (mm_uM (cd_mw S a b P D) a 18 (nI (ab_val P D b))) a 19 (nI (ab_cost P D b))) a n D := by
  obtain ⟨h1, h2, h3, h4, h5, h6, h7, h8⟩ := mw_D (b := b) (P := P) hD
  exact ⟨(uM_k (by decide)).trans ((uM_k (by decide)).trans h1), fun p hp => (uM_0n (by decide)).trans ((uM_0n (by decide)).trans (h2 p hp)), fun b hb => (uM_0n (by decide)).trans ((uM_0n (by decide)).trans (h3 b hb)), fun b hb => (uM_0n (by decide)).trans ((uM_0n (by decide)).trans (h4 b hb)), (uM_k (by decide)).trans ((uM_k (by decide)).trans h5), (uM_k (by decide)).trans ((uM_k (by decide)).trans h6), (uM_k (by decide)).trans ((uM_k (by decide)).trans h7), (uM_k (by decide)).trans ((uM_k (by decide)).trans h8)⟩
/-- b is weighed: what is known then -/
theorem s19w (hA : cd_A S a P D) (hb : b < ab_kn P) : ∃ T e, mm_cl (d + 3) 19 [.ref a, .int (nI b)] S = some (none, T) ∧ cd_fr a S T ∧ cd_w T a e P D b ∧ mm_R T (a + 1) b = some e := by
  have fr := wg_fr (S := S) (a := a) (b := b) (P := P) (D := D)
  have A1 := fr_A fr hA (wg_D hA.2.2.2.1)
  obtain ⟨e, he, hy⟩ := A1.2.2.1.2.2.2.2.1 b hb
  exact ⟨_, e, s19 hA hb, fr, ⟨A1, hb, hy, (uM_k (by decide)).trans uM_s, uM_s⟩, he⟩
theorem s22w (hA : cd_A S a P D) (hr : ab_row D = b :: r) (h18 : mm_M S a 18 = nI (ab_val P D b)) (h19 : mm_M S a 19 = nI (ab_cost P D b)) {act : Nat} (hact : act = 1 ∨ act = 2 ∨ act = 3) (hlo : 0 < ab_lo D) (hm : act = 3 → ab_may P D b = true) : ∃ T, mm_cl (d + 1) 22 [.ref a, .int (nI act)] S = some (none, T) ∧ cd_fr a S T ∧ cd_A T a P (ab_do P D b r act) := by
  have hb : b < ab_kn P := hA.2.2.2.2.2.2.1 b (by rw [hr]; exact List.mem_cons_self)
  have hb6 := Nat.lt_of_lt_of_le hb hA.2.2.2.2.1.1
  have h := s22 (d := d) hA hr hb h18 h19 hact
  have fL := lv_fr (S := S) (a := a) (n := r.length + 1) (k := 0) (i := r.length)
  have hL := lv_D hA.2.2.2.1 hr
  have ok := (ab_do_kn (act := act) hA.2.2.2.2.1 hA.2.2.2.2.2 hr (fun h1 h2 => hm (by omega))).1
  refine ⟨_, h, ?_⟩
  have key : cd_fr a S (if act = 1 then cd_t1 (cd_lv S a (r.length + 1) 0 r.length) a b P D else if act = 2 then cd_t2 (cd_lv S a (r.length + 1) 0 r.length) a b P D else cd_t3 (cd_lv S a (r.length + 1) 0 r.length) a b r.length D) ∧ cd_D (if act = 1 then cd_t1 (cd_lv S a (r.length + 1) 0 r.length) a b P D else if act = 2 then cd_t2 (cd_lv S a (r.length + 1) 0 r.length) a b P D else cd_t3 (cd_lv S a (r.length + 1) 0 r.length) a b r.length D) a (ab_kn P) (ab_do P D b r act) := by
    rcases hact with rfl | rfl | rfl
    · rw [if_pos rfl]
      have := t1_D (P := P) hL hlo hb6
      exact ⟨fr_tr fL this.1, this.2⟩
    · rw [if_neg (by decide), if_pos rfl]
      have := t2_D (P := P) hL hb6
      exact ⟨fr_tr fL this.1, this.2⟩
    · rw [if_neg (by decide), if_neg (by decide)]
      have := t3_D (P := P) hL hb6
      exact ⟨fr_tr fL this.1, this.2⟩
  exact ⟨key.1, fr_W key.1 hA.1, hA.2.1, fr_P hA.2.1 hA.2.1 key.1 hA.2.2.1, key.2, hA.2.2.2.2.1, ok⟩
theorem com_row (h : ab_com D = true) : ∃ b r, ab_row D = b :: r ∧ 0 < ab_lo D := by
  unfold ab_com at h
  rw [Bool.and_eq_true, decide_eq_true_eq, decide_eq_true_eq] at h
  cases hr : ab_row D with
  | nil => rw [hr] at h; exact absurd h.1 (by decide)
  | cons b r => exact ⟨b, r, rfl, h.2⟩
theorem sdow (h : cd_w S a e P D b) (hr : 0 < (ab_row D).length) (he : mm_R S (a + 1) b = some e) : mm_ex (d + 4) 21 12 [.ref a, .int (nI b), .null] [] S = mm_ex (d + 4) 21 22 [.ref a, .int (nI b), .null] [.int (nI (ab_act P D b ((ab_row D).length - 1)))] S := by
  have hc := (cw_k h).1
  have hA := h.1
  have hw := hA.1
  have ha := hA.2.1
  have hb6 := Nat.lt_of_lt_of_le h.2.1 hA.2.2.2.2.1.1
  have sd := sdo (d := d) h hr
  have rk := by_k hc h.2.2.1
  have cl : (nI b).toNatClampNeg = b := nI_clamp (by omega)
  have rge : mm_rg S (mm_rg S a 0) (nI b).toNatClampNeg = e := by rw [wd_g0 hw ha, cl]; exact hp_rg he
  have rse : (mm_R S (mm_rg S a 0) (nI b).toNatClampNeg).isSome = true := by rw [wd_g0 hw ha, cl]; exact hp_rs he
  have i0 := di_0 hw ha hb6
  rcases (by omega : ab_ki P b = 0 ∨ ab_ki P b = 1 ∨ ab_ki P b = 2 ∨ ab_ki P b = 3 ∨ ab_ki P b = 4 ∨ ab_ki P b = 5 ∨ ab_ki P b = 6) with hk | hk | hk | hk | hk | hk | hk <;> rw [hk] at sd rk
  · rw [b21_12_k0 (wd_o hw ha) (wd_s0 hw ha) i0 (dx_0 hw ha) rse (by rw [rge]; exact rk), rge, show mm_cl (d + 3) 2 [.ref e, .ref a] S = _ from sd, hp_bd, hp_ts]
  · rw [b21_12_k4 (wd_o hw ha) (wd_s0 hw ha) i0 (dx_0 hw ha) rse (by rw [rge]; exact rk), rge, show mm_cl (d + 3) 32 [.ref e, .ref a] S = _ from sd, hp_bd, hp_ts]
  · rw [b21_12_k10 (wd_o hw ha) (wd_s0 hw ha) i0 (dx_0 hw ha) rse (by rw [rge]; exact rk), rge, show mm_cl (d + 3) 70 [.ref e, .ref a] S = _ from sd, hp_bd, hp_ts]
  · rw [b21_12_k2 (wd_o hw ha) (wd_s0 hw ha) i0 (dx_0 hw ha) rse (by rw [rge]; exact rk), rge, show mm_cl (d + 3) 26 [.ref e, .ref a] S = _ from sd, hp_bd, hp_ts]
  · rw [b21_12_k7 (wd_o hw ha) (wd_s0 hw ha) i0 (dx_0 hw ha) rse (by rw [rge]; exact rk), rge, show mm_cl (d + 3) 56 [.ref e, .ref a] S = _ from sd, hp_bd, hp_ts]
  · rw [b21_12_k3 (wd_o hw ha) (wd_s0 hw ha) i0 (dx_0 hw ha) rse (by rw [rge]; exact rk), rge, show mm_cl (d + 3) 29 [.ref e, .ref a] S = _ from sd, hp_bd, hp_ts]
  · rw [b21_12_k9 (wd_o hw ha) (wd_s0 hw ha) i0 (dx_0 hw ha) rse (by rw [rge]; exact rk), rge, show mm_cl (d + 3) 66 [.ref e, .ref a] S = _ from sd, hp_bd, hp_ts]
theorem act_123 (h : ab_okP P) (hD : ab_okD P D) (hb : b < ab_kn P) {o : Nat} : ab_act P D b o = 1 ∨ ab_act P D b o = 2 ∨ ab_act P D b o = 3 := by
  have := @ab_act_ok P D b o h hD hb
  omega
theorem s21 (hA : cd_A S a P D) (hc : ab_com D = true) : ∃ T, mm_cl (d + 4) 21 [.ref a] S = some (some (.int (nI (ab_ha P D))), T) ∧ cd_fr a S T ∧ cd_A T a P (ab_turn P D) := by
  obtain ⟨b, r, hr, hlo⟩ := com_row hc
  have hw := hA.1
  have ha := hA.2.1
  have hb : b < ab_kn P := hA.2.2.2.2.2.2.1 b (by rw [hr]; exact List.mem_cons_self)
  have hh := hA.2.2.2.1.2.1 0 (by rw [hr]; exact Nat.succ_pos _)
  rw [hr] at hh
  have hh : mm_M S (a + 6) 0 = nI b := hh
  have hlen : 0 < (ab_row D).length := by rw [hr]; exact Nat.succ_pos _
  have eha : ab_ha P D = ab_act P D b ((ab_row D).length - 1) := by unfold ab_ha; rw [hr]; rfl
  have etu : ab_turn P D = ab_do P D b r (ab_ha P D) := by unfold ab_turn ab_does; rw [hr]
  have ok := @ab_act_ok P D b ((ab_row D).length - 1) hA.2.2.2.2.1 hA.2.2.2.2.2 hb
  obtain ⟨T1, e, g1, g2, g3, g4⟩ := s19w (d := d) hA hb
  obtain ⟨T2, g5, g6, g7⟩ := s22w (d := d + 2) g3.1 hr g3.2.2.2.1 g3.2.2.2.2 (act_123 (o := (ab_row D).length - 1) hA.2.2.2.2.1 hA.2.2.2.2.2 hb) hlo ok.2.2
  refine ⟨T2, ?_, fr_tr g2 g6, ?_⟩
  · rw [e21, b21_0 (wd_o hw ha) (wd_s5 hw ha) (di_5 hw ha (by decide)) (dx_5 hw ha) (wd_k hw ha), wd_g5 hw ha, nI_clamp (by decide), hh, g1, hp_bd, hp_tn, sdow g3 hlen g4, b21_22 (wd_k g3.1.1 ha), g5, hp_bd, hp_tn, b21_28, eha]
  · rw [etu, eha]; exact g7
theorem s20w (hA : cd_A S a P D) : mm_cl d 20 [.ref a] S = some (some (.int (if ab_com D = true then nI 1 else nI 0)), S) := by
  have hl := row_le hA.2.2.2.2.1 hA.2.2.2.2.2
  have h9 := hA.2.2.2.2.2.2.2.2.2
  rw [s20 hA.1 hA.2.1, hA.2.2.2.1.1, hA.2.2.2.1.2.2.2.2.2.1]
  unfold ab_com
  congr 3
  have e1 : (nI (ab_row D).length ≤ nI 0) = ¬ (0 < (ab_row D).length) := propext ((nI_leI (by omega) (by decide)).trans (by omega))
  have e2 : (nI (ab_lo D) ≤ nI 0) = ¬ (0 < ab_lo D) := propext ((nI_leI (by omega) (by decide)).trans (by omega))
  simp only [e1, e2]
  by_cases h1 : 0 < (ab_row D).length <;> by_cases h2 : 0 < ab_lo D <;> simp [h1, h2]
theorem s23_loop : ∀ (k i : Nat) (S : mm_S) (D : ab_D), cd_A S a P D → ab_mea D ≤ k → i + k ≤ 900 → ∃ T, mm_ex (d + 5) 23 2 [.ref a, .int (nI i)] [] S = some (none, T) ∧ cd_fr a S T ∧ cd_A T a P (ab_end P k D) := by
  intro k
  induction k with
  | zero =>
    intro i S D hA hm hi
    have hc : ab_com D = false := by
      cases hc : ab_com D with
      | false => rfl
      | true => have := (ab_turn_ok hA.2.2.2.2.1 hA.2.2.2.2.2 hc).2; omega
    refine ⟨S, ?_, fr_rf, hA⟩
    rw [b23_2, if_neg (nI_ge (by omega) (by decide)), b23_9 (wd_k hA.1 hA.2.1), s20w hA, hp_bd, hp_ts, b23_13, hc, if_pos (by decide), b23_27]
  | succ k ih =>
    intro i S D hA hm hi
    cases hc : ab_com D with
    | false =>
      refine ⟨S, ?_, fr_rf, ?_⟩
      · rw [b23_2, if_neg (nI_ge (by omega) (by decide)), b23_9 (wd_k hA.1 hA.2.1), s20w hA, hp_bd, hp_ts, b23_13, hc, if_pos (by decide), b23_27]
      · unfold ab_end; rw [hc]; exact hA
    | true =>
      have ht := ab_turn_ok hA.2.2.2.2.1 hA.2.2.2.2.2 hc
      obtain ⟨T1, g1, g2, g3⟩ := s21 (d := d) hA hc
      obtain ⟨T2, g4, g5, g6⟩ := ih (i + 1) T1 (ab_turn P D) g3 (by omega) (by omega)
      refine ⟨T2, ?_, fr_tr g2 g5, ?_⟩
      · rw [b23_2, if_neg (nI_ge (by omega) (by decide)), b23_9 (wd_k hA.1 hA.2.1), s20w hA, hp_bd, hp_ts, b23_13, hc, if_neg (by decide), b23_16 (wd_k hA.1 hA.2.1), g1, hp_bd, hp_ts, b23_20, nI_add, g4]
      · unfold ab_end; rw [hc, if_pos rfl]; exact g6
/-- the day at its end -/
def ab_fin (P : ab_P) (D : ab_D) : ab_D := ab_end P 60 D
theorem s23 (hA : cd_A S a P D) : ∃ T, mm_cl (d + 5) 23 [.ref a] S = some (none, T) ∧ cd_fr a S T ∧ cd_A T a P (ab_fin P D) := by
  obtain ⟨T, g1, g2, g3⟩ := s23_loop (d := d) 60 0 S D hA (ab_mea_le hA.2.2.2.2.1.1 hA.2.2.2.2.2) (by decide)
  exact ⟨T, by rw [e23, b23_0, g1], g2, g3⟩
/-- all gained, together -/
def ab_all (n : Nat) (g : Nat → Int32) : Int32 := (List.range n).foldl (fun s b => s + g b) (nI 0)
theorem all_s {n : Nat} {g : Nat → Int32} : ab_all (n + 1) g = ab_all n g + g n := by
  unfold ab_all
  rw [List.range_succ, List.foldl_append]
  rfl
theorem s24_loop (hA : cd_A S a P D) : ∀ k i : Nat, i + k = ab_kn P → mm_ex d 24 4 [.ref a, .int (ab_all i (ab_ga D)), .int (nI i)] [] S = some (some (.int (ab_all (ab_kn P) (ab_ga D))), S) := by
  have hw := hA.1
  have ha := hA.2.1
  have k6 := hA.2.2.2.2.1.1
  intro k
  induction k with
  | zero =>
    intro i hi
    have e : i = ab_kn P := by omega
    rw [b24_4 (wd_o hw ha), hA.2.2.1.1, if_pos (nI_le (by omega) (by omega)), b24_27, e]
  | succ k ih =>
    intro i hi
    rw [b24_4 (wd_o hw ha), hA.2.2.1.1, if_neg (nI_ge (by omega) (by omega)), b24_12 (wd_o hw ha) (wd_s4 hw ha) (di_4 hw ha (by omega)) (dx_4 hw ha), wd_g4 hw ha, nI_clamp (by omega), hA.2.2.2.1.2.2.2.1 i (by omega), nI_add, ← all_s, ih (i + 1) (by omega)]
theorem s24 (hA : cd_A S a P D) : mm_cl d 24 [.ref a] S = some (some (.int (ab_all (ab_kn P) (ab_ga D))), S) := by
  rw [e24, b24_0, ← s24_loop (d := d) hA (ab_kn P) 0 (Nat.zero_add _)]
  rfl
end TN
end
section
/-! ===== the reference's days in cells ===== -/
/-- the cells that questions of the reference change: the stack alone -/
def md_q (S T : mm_S) : Prop := T = mm_wM S (mm_M T) ∧ ∀ c j, c ≠ 117 → mm_M T c j = mm_M S c j
/-- the cells that turns change -/
def md_dc (c j : Nat) : Prop := c = 117 ∨ c = 100 ∨ c = 97 ∨ c = 98 ∨ (c = 92 ∧ (j = 8 ∨ (10 ≤ j ∧ j ≤ 13) ∨ j = 42 ∨ j = 43))
def md_fr (S T : mm_S) : Prop := T = mm_wM S (mm_M T) ∧ ∀ c j, ¬ md_dc c j → mm_M T c j = mm_M S c j
def md_fo : Option Nat → Int32
  | none => -5
  | some f => nI f
def md_en : ab_T → Int32
  | .inl q => nI (1000 * (1 + 3 * q.1 + q.2.1) + q.2.2)
  | .inr o => nI o
def md_co (S : mm_S) : List ab_T → Nat → Prop
  | [], _ => True
  | t :: c, i => mm_M S 107 i = md_en t ∧ md_co S c (i + 1)
def md_cl (S : mm_S) (h : Nat) : List ab_C → Nat → Prop
  | [], _ => True
  | c :: l, k => mm_M S 103 (10 * h + k) = nI c.1 ∧ mm_M S 104 (10 * h + k) = nI c.2.1 ∧ (c.1 < 2 → ∃ f, f + c.2.2.length ≤ 100 ∧ mm_M S 105 (10 * h + k) = nI f ∧ mm_M S 106 (10 * h + k) = nI (f + c.2.2.length) ∧ md_co S c.2.2 (120 * h + f)) ∧ md_cl S h l (k + 1)
def md_sh (S : mm_S) (o : Option Nat) (l : List ab_C) : Prop := match o with
  | none => mm_M S 92 18 = -1 ∧ l = []
  | some h => h < 6 ∧ mm_M S 92 18 = nI h ∧ mm_M S 102 h = nI l.length ∧ md_cl S h l 0
def md_P (S : mm_S) (P : ab_P) : Prop := mm_M S 92 0 = nI (ab_kn P) ∧ (∀ b, b < ab_kn P → mm_M S 93 b = nI (ab_ki P b) ∧ mm_M S 94 b = nI (ab_v P b) ∧ mm_M S 95 b = nI (ab_wo P b) ∧ mm_M S 96 b = md_fo (ab_fr P b)) ∧ (∀ i, i < 3 * ab_kn P → mm_M S 99 i = nI (ab_te P i)) ∧ (∃ o, md_sh S o (ab_sh P)) ∧ ((mm_M S 92 27 = -1 ∧ ab_fe P = ab_law (ab_sh P) 5 0) ∨ mm_M S 92 27 = nI (ab_fe P))
def md_D (S : mm_S) (n : Nat) (D : ab_D) : Prop := mm_M S 92 8 = nI (ab_row D).length ∧ (∀ p, p < (ab_row D).length → mm_M S 100 p = nI ((ab_row D).getD p 0)) ∧ (∀ b, b < n → mm_M S 97 b = nI (ab_aw D b)) ∧ (∀ b, b < n → mm_M S 98 b = ab_ga D b) ∧ mm_M S 92 10 = nI (ab_pr D) ∧ mm_M S 92 11 = nI (ab_lo D) ∧ mm_M S 92 12 = ab_ti D ∧ mm_M S 92 13 = ab_tu D
def md_A (S : mm_S) (P : ab_P) (D : ab_D) : Prop := mm_W S ∧ md_P S P ∧ md_D S (ab_kn P) D ∧ ab_okP P ∧ ab_okD P D
section MD
variable {S T U : mm_S} {b c j k n i d h : Nat} {P : ab_P} {D : ab_D} {x : Int32} {l : List ab_C} {o : Option Nat}
theorem mq_rf : md_q S S := ⟨rfl, fun _ _ _ => rfl⟩
theorem mq_tr (h : md_q S T) (h2 : md_q T U) : md_q S U := by
  refine ⟨?_, fun c j hc => (h2.2 c j hc).trans (h.2 c j hc)⟩
  have e := h2.1
  rw [h.1] at e
  exact e
theorem mq_w (h : md_q S T) : md_q S (mm_uM T 117 j x) := by
  refine ⟨?_, fun c2 j2 h2 => ?_⟩
  · have e := h.1
    conv => lhs; rw [hp_uMw, e]
    rfl
  · rw [hp_MuM, if_neg (fun e => h2 e.1)]
    exact h.2 c2 j2 h2
theorem mf_rf : md_fr S S := ⟨rfl, fun _ _ _ => rfl⟩
theorem mf_tr (h : md_fr S T) (h2 : md_fr T U) : md_fr S U := by
  refine ⟨?_, fun c j hc => (h2.2 c j hc).trans (h.2 c j hc)⟩
  have e := h2.1
  rw [h.1] at e
  exact e
theorem mf_w (h : md_fr S T) (hc : md_dc c j) : md_fr S (mm_uM T c j x) := by
  refine ⟨?_, fun c2 j2 h2 => ?_⟩
  · have e := h.1
    conv => lhs; rw [hp_uMw, e]
    rfl
  · rw [hp_MuM, if_neg (fun e => h2 (by rw [e.1, e.2]; exact hc))]
    exact h.2 c2 j2 h2
theorem mf_q (h : md_q S T) : md_fr S T := ⟨h.1, fun c j hc => h.2 c j (fun e => hc (Or.inl e))⟩
theorem mf_W (h : md_fr S T) (hw : mm_W S) : mm_W T := by rw [h.1]; exact hw
theorem mq_W (h : md_q S T) (hw : mm_W S) : mm_W T := by rw [h.1]; exact hw
theorem mf_co (h : ∀ i, mm_M T 107 i = mm_M S 107 i) : ∀ {l : List ab_T} {i : Nat}, md_co S l i → md_co T l i := by
  intro l
  induction l with
  | nil => intro i _; exact True.intro
  | cons t l ih => intro i hc; exact ⟨(h i).trans hc.1, ih hc.2⟩
theorem mf_cl (h : ∀ c i, 102 ≤ c → c ≤ 107 → mm_M T c i = mm_M S c i) {m : Nat} : ∀ {l : List ab_C} {k : Nat}, md_cl S m l k → md_cl T m l k := by
  intro l
  induction l with
  | nil => intro k _; exact True.intro
  | cons t l ih =>
    intro k hc
    refine ⟨(h _ _ (by decide) (by decide)).trans hc.1, (h _ _ (by decide) (by decide)).trans hc.2.1, fun ht => ?_, ih hc.2.2.2⟩
    obtain ⟨f, h1, h2, h3, h4⟩ := hc.2.2.1 ht
    exact ⟨f, h1, (h _ _ (by decide) (by decide)).trans h2, (h _ _ (by decide) (by decide)).trans h3, mf_co (fun i => h _ _ (by decide) (by decide)) h4⟩
theorem mf_sh (h : ∀ c i, 102 ≤ c → c ≤ 107 → mm_M T c i = mm_M S c i) (h18 : mm_M T 92 18 = mm_M S 92 18) (hs : md_sh S o l) : md_sh T o l := by
  cases o with
  | none => exact ⟨h18.trans hs.1, hs.2⟩
  | some m => exact ⟨hs.1, h18.trans hs.2.1, (h _ _ (by decide) (by decide)).trans hs.2.2.1, mf_cl h hs.2.2.2⟩
theorem mf_P (h : md_fr S T) (hp : md_P S P) : md_P T P := by
  obtain ⟨h1, h2, h3, ⟨o, h4⟩, h5⟩ := hp
  have hx : ∀ c j, ¬ md_dc c j → mm_M T c j = mm_M S c j := h.2
  have g : ∀ c i, 102 ≤ c → c ≤ 107 → mm_M T c i = mm_M S c i := fun c i a b => hx c i (by unfold md_dc; omega)
  have g92 : ∀ j, j = 0 ∨ j = 18 ∨ j = 27 → mm_M T 92 j = mm_M S 92 j := fun j e => hx 92 j (by unfold md_dc; omega)
  have g9 : ∀ c i, 93 ≤ c → c ≤ 96 → mm_M T c i = mm_M S c i := fun c i a b => hx c i (by unfold md_dc; omega)
  refine ⟨(g92 0 (by decide)).trans h1, fun b hb => ?_, fun i hi => (hx 99 i (by unfold md_dc; omega)).trans (h3 i hi), ⟨o, mf_sh g (g92 18 (by decide)) h4⟩, ?_⟩
  · obtain ⟨q1, q2, q3, q4⟩ := h2 b hb
    exact ⟨(g9 _ _ (by decide) (by decide)).trans q1, (g9 _ _ (by decide) (by decide)).trans q2, (g9 _ _ (by decide) (by decide)).trans q3, (g9 _ _ (by decide) (by decide)).trans q4⟩
  · rw [g92 27 (by decide)]; exact h5
theorem mq_D (h : md_q S T) (hp : md_D S n D) : md_D T n D := by
  have g : ∀ c j, c ≠ 117 → mm_M T c j = mm_M S c j := h.2
  obtain ⟨h1, h2, h3, h4, h5, h6, h7, h8⟩ := hp
  exact ⟨(g _ _ (by decide)).trans h1, fun p hp => (g _ _ (by decide)).trans (h2 p hp), fun b hb => (g _ _ (by decide)).trans (h3 b hb), fun b hb => (g _ _ (by decide)).trans (h4 b hb), (g _ _ (by decide)).trans h5, (g _ _ (by decide)).trans h6, (g _ _ (by decide)).trans h7, (g _ _ (by decide)).trans h8⟩
theorem mq_A (h : md_q S T) (hA : md_A S P D) : md_A T P D := ⟨mq_W h hA.1, mf_P (mf_q h) hA.2.1, mq_D h hA.2.2.1, hA.2.2.2⟩
/-- places in the reference -/
theorem s130_loop (hw : mm_W S) {r : List Nat} (hl : mm_M S 92 8 = nI r.length) (h6 : r.length ≤ 6) (hr : ∀ p, p < r.length → mm_M S 100 p = nI (r.getD p 0)) (hb : ∀ y ∈ r, y < 6) (hb6 : b < 6) : ∀ k i : Nat, i + k = r.length → mm_ex d 130 2 [.ref 92, .int (nI b), .int (nI i)] [] S = some (some (.int (md_fo ((ab_at b (r.drop i)).map (· + i)))), S) := by
  intro k
  induction k with
  | zero =>
    intro i hi
    have e : i = r.length := by omega
    subst e
    rw [b130_2 (wf_o92 hw), hl, if_pos (nI_le (Nat.le_refl _) (by omega)), b130_28, List.drop_length]
    rfl
  | succ k ih =>
    intro i hi
    have hi6 : i < r.length := by omega
    have hy : r.getD i 0 < 6 := by
      rw [List.getD_eq_getElem?_getD, List.getElem?_eq_getElem hi6]
      exact hb _ (List.getElem_mem hi6)
    rw [b130_2 (wf_o92 hw), hl, if_neg (nI_ge hi6 (by omega)), b130_10 (wf_o92 hw) (wf_s92_9 hw) (by rw [wf_g92_9 hw, wf_N100 hw]; exact hp_inb (by omega) (by omega)) (by rw [wf_g92_9 hw]; exact wf_a100 hw), wf_g92_9 hw, nI_clamp (by omega), hr i hi6, dr_c hi6]
    by_cases e : r.getD i 0 = b
    · have e2 : ab_at b (b :: r.drop (i + 1)) = some 0 := if_pos rfl
      rw [e, if_pos rfl, b130_20, e2]
      show _ = some (some (Value.int (nI (0 + i))), S)
      rw [Nat.zero_add]
    · rw [if_neg (fun h => e ((nI_eq (by omega) (by omega)).mp h)), b130_22, nI_add, ih (i + 1) (by omega)]
      show some (some (Value.int (md_fo ((ab_at b (r.drop (i + 1))).map (· + (i + 1))))), S) = some (some (Value.int (md_fo ((if r.getD i 0 = b then some 0 else (ab_at b (r.drop (i + 1))).map (· + 1)).map (· + i)))), S)
      rw [if_neg e, Option.map_map]
      congr 6
      funext x
      show x + (i + 1) = x + 1 + i
      omega
theorem s130 (hA : md_A S P D) (hb : b < 6) : mm_cl d 130 [.ref 92, .int (nI b)] S = some (some (.int (md_fo (ab_at b (ab_row D)))), S) := by
  obtain ⟨hw, hP, hD, oP, oD⟩ := hA
  have h := s130_loop (d := d) (r := ab_row D) (b := b) hw hD.1 (row_le oP oD) hD.2.1 (fun y hy => Nat.lt_of_lt_of_le (oD.2.1 y hy) oP.1) hb (ab_row D).length 0 (Nat.zero_add _)
  rw [e130, b130_0, h, List.drop_zero]
  have e : (fun x : Nat => x + 0) = id := rfl
  rw [e, Option.map_id]
  rfl
theorem fo_n5 : md_fo none = -5 := rfl
theorem mo_neg {o : Option Nat} (h : ∀ k, o = some k → k < 2 ^ 31) : (md_fo o = -5) = (o = none) := by
  cases o with
  | none => exact propext ⟨fun _ => rfl, fun _ => rfl⟩
  | some k =>
    refine propext ⟨fun e => ?_, fun e => by cases e⟩
    have h1 := congrArg Int32.toInt e
    have h2 : (md_fo (some k)).toInt = (k : Int) := nI_toInt (h k rfl)
    have h3 : (-5 : Int32).toInt = -5 := rfl
    omega
theorem at_neg (hA : md_A S P D) : (md_fo (ab_at b (ab_row D)) = -5) = ¬ (b ∈ ab_row D) := by
  rw [mo_neg (fun k e => by have := at_lt (row_le hA.2.2.2.1 hA.2.2.2.2) e; omega), at_none]
theorem ms_0 : ab_ms P D b 0 = b := rfl
theorem ms_1 : ab_ms P D b 1 = ab_ki P b := rfl
theorem ms_2 : ab_ms P D b 2 = ab_pr D := rfl
theorem ms_3 : ab_ms P D b 3 = ab_lo D := rfl
theorem ms_4 : ab_ms P D b 4 = (ab_row D).length := rfl
theorem ms_5 : ab_ms P D b 5 = ab_aw D b := rfl
theorem ms_6 : ab_ms P D b 6 = if ab_frn P D b = true then 1 else 0 := rfl
theorem s153 (hA : md_A S P D) (hb : b < ab_kn P) {q : Nat} (hq : q < 7) : mm_cl (d + 1) 153 [.ref 92, .int (nI q), .int (nI b)] S = some (some (.int (nI (ab_ms P D b q))), S) := by
  have hA' := hA
  obtain ⟨hw, hP, hD, oP, oD⟩ := hA
  have hb6 := Nat.lt_of_lt_of_le hb oP.1
  have hB := hP.2.1 b hb
  have hc := nI_clamp (n := b) (by omega)
  rw [e153, b153_0, b153_1]
  rcases (by omega : q = 0 ∨ q = 1 ∨ q = 2 ∨ q = 3 ∨ q = 4 ∨ q = 5 ∨ q = 6) with rfl | rfl | rfl | rfl | rfl | rfl | rfl
  · rw [if_pos rfl, b153_40, ms_0]
  · rw [if_neg (by decide), if_pos rfl, b153_42 (wf_o92 hw) (wf_s92_1 hw) (by rw [wf_g92_1 hw, wf_N93 hw]; exact hp_inb hb6 (by omega)) (by rw [wf_g92_1 hw]; exact wf_a93 hw), wf_g92_1 hw, hc, hB.1, ms_1]
  · rw [if_neg (by decide), if_neg (by decide), if_pos rfl, b153_49 (wf_o92 hw), hD.2.2.2.2.1, ms_2]
  · rw [if_neg (by decide), if_neg (by decide), if_neg (by decide), if_pos rfl, b153_54 (wf_o92 hw), hD.2.2.2.2.2.1, ms_3]
  · rw [if_neg (by decide), if_neg (by decide), if_neg (by decide), if_neg (by decide), if_pos rfl, b153_59 (wf_o92 hw), hD.1, ms_4]
  · rw [if_neg (by decide), if_neg (by decide), if_neg (by decide), if_neg (by decide), if_neg (by decide), if_pos rfl, b153_64 (wf_o92 hw) (wf_s92_5 hw) (by rw [wf_g92_5 hw, wf_N97 hw]; exact hp_inb hb6 (by omega)) (by rw [wf_g92_5 hw]; exact wf_a97 hw), wf_g92_5 hw, hc, hD.2.2.1 b hb, ms_5]
  · have hi : mm_inb (nI b) (mm_N S (mm_rg S 92 4)) = true := by rw [wf_g92_4 hw, wf_N96 hw]; exact hp_inb hb6 (by omega)
    have ha : mm_arr S (mm_rg S 92 4) 13 = true := by rw [wf_g92_4 hw]; exact wf_a96 hw
    rw [if_neg (by decide), if_neg (by decide), if_neg (by decide), if_neg (by decide), if_neg (by decide), if_neg (by decide), b153_71 (wf_o92 hw) (wf_s92_4 hw) hi ha, wf_g92_4 hw, hc, hB.2.2.2, ms_6]
    unfold ab_frn
    cases hf : ab_fr P b with
    | none => rw [if_pos fo_n5, b153_101]; rfl
    | some f =>
      have hf6 := Nat.lt_of_lt_of_le (oP.2.2.2.2.1 b f hb hf).1 oP.1
      have hn : ¬ md_fo (some f) = -5 := fun e => by rw [mo_neg (fun k e => by cases e; omega)] at e; cases e
      rw [if_neg hn, b153_82 (wf_o92 hw) (wf_s92_4 hw) hi ha (wf_k92 hw), wf_g92_4 hw, hc, hB.2.2.2, hf]
      have h130 := s130 (d := d) hA' hf6
      rw [show md_fo (some f) = nI f from rfl, h130, hp_bd, hp_ts, b153_92]
      by_cases hm : f ∈ ab_row D
      · rw [if_neg (by rw [at_neg hA']; exact fun e => e hm), b153_97, if_pos (decide_eq_true hm)]
      · rw [if_pos (by rw [at_neg hA']; exact hm), b153_101, if_neg (fun e => hm (of_decide_eq_true e))]
end MD
end
section
/-! ===== E and sums in the reference ===== -/
def md_st (T : mm_S) : List Bool → Prop
  | [] => True
  | u :: st => mm_M T 117 st.length = (if u = true then nI 1 else nI 0) ∧ md_st T st
theorem nr_b0 : vp_nar .boolean (nI 0) = nI 0 := by decide
theorem nr_b1 : vp_nar .boolean (nI 1) = nI 1 := by decide
theorem b01 {u : Bool} : ((if u = true then nI 1 else nI 0) = nI 0) = (u = false) := by cases u <;> decide
section MC
variable {S T : mm_S} {b c j k n i d h e K : Nat} {P : ab_P} {D : ab_D} {x : Int32} {l : List ab_C} {st : List Bool} {u v : Bool}
theorem st_w : ∀ {st : List Bool}, st.length ≤ j → md_st T st → md_st (mm_uM T 117 j x) st := by
  intro st
  induction st with
  | nil => intro _ _; exact True.intro
  | cons u st ih =>
    intro hj h
    rw [List.length_cons] at hj
    exact ⟨by rw [uM_k (by omega)]; exact h.1, ih (by omega) h.2⟩
theorem st_push (h : md_st T st) : md_st (mm_uM T 117 st.length (if u = true then nI 1 else nI 0)) (u :: st) := ⟨uM_s, st_w (Nat.le_refl _) h⟩
theorem co_hd {t : ab_T} {c : List ab_T} {i : Nat} (hq : md_q S T) (h : md_co S (t :: c) i) : mm_M T 107 i = md_en t := (hq.2 _ _ (by decide)).trans h.1
theorem s154_t (hq : md_q S T) (hA : md_A S P D) (hb : b < ab_kn P) (hh : h < 6) (h18 : mm_M S 92 18 = nI h) (hst : md_st T st) (hl : st.length < 24) (hK : K < 70) {E : Nat} (hE : mm_M S 106 K = nI E) (hiE : i < E) (hE2 : E ≤ 100) {q r m : Nat} (hc : mm_M S 107 (120 * h + i) = md_en (.inl (q, r, m))) (hq7 : q < 7) (hr3 : r < 3) (hm : m < 100) (v5 v6 v7 : Value) : ∃ T' w5 w6 w7, mm_ex (d + 2) 154 10 [.ref 92, .int (nI K), .int (nI b), .int (nI st.length), .int (nI i), v5, v6, v7] [] T = mm_ex (d + 2) 154 10 [.ref 92, .int (nI K), .int (nI b), .int (nI (st.length + 1)), .int (nI (i + 1)), w5, w6, w7] [] T' ∧ md_q S T' ∧ md_st T' (ab_tst (ab_ms P D b q) r m :: st) := by
  have wT := mq_W hq hA.1
  have AT := mq_A hq hA
  have e18 : mm_M T 92 18 = nI h := (hq.2 _ _ (by decide)).trans h18
  have e106 : mm_M T 106 K = nI E := (hq.2 _ _ (by decide)).trans hE
  have e107 : mm_M T 107 (120 * h + i) = nI (1000 * (1 + 3 * q + r) + m) := (hq.2 _ _ (by decide)).trans hc
  have i106 : mm_inb (nI K) (mm_N T (mm_rg T 92 23)) = true := by rw [wf_g92_23 wT, wf_N106 wT]; exact hp_inb hK (by omega)
  have a106 : mm_arr T (mm_rg T 92 23) 13 = true := by rw [wf_g92_23 wT]; exact wf_a106 wT
  have ix : nI 120 * mm_M T 92 18 + nI i = nI (120 * h + i) := by rw [e18, nI_mul, nI_add]
  have i107 : mm_inb (nI 120 * mm_M T 92 18 + nI i) (mm_N T (mm_rg T 92 24)) = true := by rw [ix, wf_g92_24 wT, wf_N107 wT]; exact hp_inb (by omega) (by omega)
  have a107 : mm_arr T (mm_rg T 92 24) 13 = true := by rw [wf_g92_24 wT]; exact wf_a107 wT
  have a117 : mm_arr T (mm_rg T 92 41) 15 = true := by rw [wf_g92_41 wT]; exact wf_a117 wT
  have i117 : mm_inb (nI st.length) (mm_N T (mm_rg T 92 41)) = true := by rw [wf_g92_41 wT, wf_N117 wT]; exact hp_inb (by omega) (by omega)
  have x1 : nI (1000 * (1 + 3 * q + r) + m) / nI 1000 = nI (1 + 3 * q + r) := by rw [pk_div (by omega) (by decide) (by decide)]; congr 1; omega
  have x2 : nI (1 + 3 * q + r) - nI 1 = nI (3 * q + r) := by rw [pk_sub (by omega)]; congr 1; omega
  have x3 : nI (3 * q + r) / nI 3 = nI q := by rw [pk_div (by omega) (by decide) (by decide)]; congr 1; omega
  have x4 : nI (3 * q + r) - nI q * nI 3 = nI r := by rw [nI_mul, pk_sub (by omega)]; congr 1; omega
  have x5 : nI (1000 * (1 + 3 * q + r) + m) - nI (1 + 3 * q + r) * nI 1000 = nI m := by rw [nI_mul, pk_sub (by omega)]; congr 1; omega
  have vb : ab_ms P D b q < 2 ^ 20 := by
    have k1 := hA.2.2.2.1.2.2.2.1 b hb
    have k2 := hA.2.2.2.1.1
    have k3 := hA.2.2.2.2.2.2.2
    have k4 := hA.2.2.2.2.2.2.1 b hb
    have k5 := row_le hA.2.2.2.1 hA.2.2.2.2
    unfold ab_ms
    split
    · omega
    · split
      · omega
      · split
        · omega
        · split
          · omega
          · split
            · omega
            · split
              · omega
              · split <;> omega
  have fin : ∀ u : Bool, md_q S (mm_uM T 117 st.length (if u = true then nI 1 else nI 0)) ∧ md_st (mm_uM T 117 st.length (if u = true then nI 1 else nI 0)) (u :: st) := fun u => ⟨mq_w hq, st_push hst⟩
  have cl : (nI st.length).toNatClampNeg = st.length := nI_clamp (by omega)
  rw [b154_10 (wf_o92 wT) (wf_s92_23 wT) i106 a106, wf_g92_23 wT, nI_clamp (by omega), e106, if_neg (nI_ge hiE (by omega)), b154_21 (wf_o92 wT) (wf_s92_24 wT) i107 a107, ix, wf_g92_24 wT, nI_clamp (by omega), e107, if_neg (nI_nlt (by omega) (by omega)), b154_46 (wf_k92 wT), x1, x2, x3, s153 AT hb hq7, hp_bd, hp_ts, b154_61 (wf_o92 wT) (wf_s92_41 wT), x1, x2, x3, x4, wf_g92_41 wT]
  rw [wf_g92_41 wT] at a117 i117
  have w1 : ∀ v6 v7, mm_ex (d + 2) 154 10 [.ref 92, .int (nI K), .int (nI b), .int (nI st.length + nI 1), .int (nI i + nI 1), .int (nI (1000 * (1 + 3 * q + r) + m)), v6, v7] [] (mm_uM T 117 (nI st.length).toNatClampNeg (vp_nar .boolean (nI 1))) = mm_ex (d + 2) 154 10 [.ref 92, .int (nI K), .int (nI b), .int (nI (st.length + 1)), .int (nI (i + 1)), .int (nI (1000 * (1 + 3 * q + r) + m)), v6, v7] [] (mm_uM T 117 st.length (if true = true then nI 1 else nI 0)) := fun v6 v7 => by rw [nr_b1, cl, nI_add, nI_add, if_pos rfl]
  have w0 : ∀ v6 v7, mm_ex (d + 2) 154 10 [.ref 92, .int (nI K), .int (nI b), .int (nI st.length + nI 1), .int (nI i + nI 1), .int (nI (1000 * (1 + 3 * q + r) + m)), v6, v7] [] (mm_uM T 117 (nI st.length).toNatClampNeg (vp_nar .boolean (nI 0))) = mm_ex (d + 2) 154 10 [.ref 92, .int (nI K), .int (nI b), .int (nI (st.length + 1)), .int (nI (i + 1)), .int (nI (1000 * (1 + 3 * q + r) + m)), v6, v7] [] (mm_uM T 117 st.length (if false = true then nI 1 else nI 0)) := fun v6 v7 => by rw [nr_b0, cl, nI_add, nI_add, if_neg (by decide)]
  rcases (by omega : r = 0 ∨ r = 1 ∨ r = 2) with rfl | rfl | rfl
  · rw [ts_0, if_pos rfl, b154_85, x1, x5]
    by_cases g : ab_ms P D b q < m
    · rw [if_neg (nI_ge g (by omega)), b154_96 a117 i117, w1, decide_eq_true g]
      exact ⟨_, _, _, _, rfl, fin true⟩
    · rw [if_pos (nI_le (Nat.le_of_not_lt g) (by omega)), b154_100 a117 i117, w0, decide_eq_false g]
      exact ⟨_, _, _, _, rfl, fin false⟩
  · rw [ts_1, if_neg (by decide), b154_104, if_pos rfl, b154_110, x1, x5]
    by_cases g : ab_ms P D b q = m
    · rw [if_pos (by rw [g]), b154_121 a117 i117, w1, decide_eq_true g]
      exact ⟨_, _, _, _, rfl, fin true⟩
    · rw [if_neg (fun e => g ((nI_eq (by omega) (by omega)).mp e)), b154_125 a117 i117, w0, decide_eq_false g]
      exact ⟨_, _, _, _, rfl, fin false⟩
  · rw [ts_2, if_neg (by decide), b154_104, if_neg (by decide), b154_129, x1, x5]
    by_cases g : m < ab_ms P D b q
    · rw [if_neg (nI_ge g (by omega)), b154_140 a117 i117, w1, decide_eq_true g]
      exact ⟨_, _, _, _, rfl, fin true⟩
    · rw [if_pos (nI_le (Nat.le_of_not_lt g) (by omega)), b154_144 a117 i117, w0, decide_eq_false g]
      exact ⟨_, _, _, _, rfl, fin false⟩
/-- a step that joins -/
theorem s154_o (hq : md_q S T) (hA : md_A S P D) (hh : h < 6) (h18 : mm_M S 92 18 = nI h) (hst : md_st T st) (hl : st.length ≤ 24) (hK : K < 70) {E : Nat} (hE : mm_M S 106 K = nI E) (hiE : i < E) (hE2 : E ≤ 100) {o : Nat} (hc : mm_M S 107 (120 * h + i) = nI o) (ho : (o = 3 ∧ 1 ≤ st.length) ∨ ((o = 1 ∨ o = 2) ∧ 2 ≤ st.length)) (v5 v6 v7 : Value) : ∃ T' w5 w6 w7, mm_ex (d + 2) 154 10 [.ref 92, .int (nI K), .int (nI b), .int (nI st.length), .int (nI i), v5, v6, v7] [] T = mm_ex (d + 2) 154 10 [.ref 92, .int (nI K), .int (nI b), .int (nI (ab_step (ab_ms P D b) st (.inr o)).length), .int (nI (i + 1)), w5, w6, w7] [] T' ∧ md_q S T' ∧ md_st T' (ab_step (ab_ms P D b) st (.inr o)) := by
  have wT := mq_W hq hA.1
  have e18 : mm_M T 92 18 = nI h := (hq.2 _ _ (by decide)).trans h18
  have e106 : mm_M T 106 K = nI E := (hq.2 _ _ (by decide)).trans hE
  have e107 : mm_M T 107 (120 * h + i) = nI o := (hq.2 _ _ (by decide)).trans hc
  have i106 : mm_inb (nI K) (mm_N T (mm_rg T 92 23)) = true := by rw [wf_g92_23 wT, wf_N106 wT]; exact hp_inb hK (by omega)
  have a106 : mm_arr T (mm_rg T 92 23) 13 = true := by rw [wf_g92_23 wT]; exact wf_a106 wT
  have ix : nI 120 * mm_M T 92 18 + nI i = nI (120 * h + i) := by rw [e18, nI_mul, nI_add]
  have i107 : mm_inb (nI 120 * mm_M T 92 18 + nI i) (mm_N T (mm_rg T 92 24)) = true := by rw [ix, wf_g92_24 wT, wf_N107 wT]; exact hp_inb (by omega) (by omega)
  have a107 : mm_arr T (mm_rg T 92 24) 13 = true := by rw [wf_g92_24 wT]; exact wf_a107 wT
  have a117 : mm_arr T 117 15 = true := wf_a117 wT
  have g41 := wf_g92_41 wT
  have a117' : mm_arr T (mm_rg T 92 41) 15 = true := by rw [g41]; exact a117
  have i117 : ∀ k, k < 110 → mm_inb (nI k) (mm_N T 117) = true := fun k hk => by rw [wf_N117 wT]; exact hp_inb hk (by omega)
  have i117' : ∀ k, k < 110 → mm_inb (nI k) (mm_N T (mm_rg T 92 41)) = true := fun k hk => by rw [g41]; exact i117 k hk
  rw [b154_10 (wf_o92 wT) (wf_s92_23 wT) i106 a106, wf_g92_23 wT, nI_clamp (by omega), e106, if_neg (nI_ge hiE (by omega)), b154_21 (wf_o92 wT) (wf_s92_24 wT) i107 a107, ix, wf_g92_24 wT, nI_clamp (by omega), e107, if_pos (nI_lt (by omega) (by omega)), b154_152]
  rcases ho with ⟨rfl, h1⟩ | ⟨ho, h2⟩
  · cases st with
    | nil => exact absurd h1 (by decide)
    | cons u st =>
      rw [List.length_cons] at hl
      have m1 : nI (u :: st).length - nI 1 = nI st.length := by rw [List.length_cons, pk_sub (by omega)]; congr 1
      have cl : (nI st.length).toNatClampNeg = st.length := nI_clamp (by omega)
      rw [if_pos rfl, b154_158 (wf_o92 wT) (wf_s92_41 wT) (by rw [m1]; exact i117' _ (by omega)) a117', m1, g41, cl, hst.1]
      show ∃ T' w5 w6 w7, _ = mm_ex (d + 2) 154 10 [.ref 92, .int (nI K), .int (nI b), .int (nI ((!u) :: st).length), .int (nI (i + 1)), w5, w6, w7] [] T' ∧ md_q S T' ∧ md_st T' ((!u) :: st)
      cases u with
      | false =>
        rw [if_pos (by decide), b154_176 a117 (i117 _ (by omega)), nr_b1, cl, nI_add]
        exact ⟨_, _, _, _, rfl, mq_w hq, st_push (u := true) hst.2⟩
      | true =>
        rw [if_neg (by decide), b154_180 a117 (i117 _ (by omega)), nr_b0, cl, nI_add]
        exact ⟨_, _, _, _, rfl, mq_w hq, st_push (u := false) hst.2⟩
  · cases st with
    | nil => exact absurd h2 (by decide)
    | cons u st =>
      cases st with
      | nil => exact absurd h2 (by simp)
      | cons v st =>
        simp only [List.length_cons] at hl
        have m1 : nI (u :: v :: st).length + (-1) = nI (st.length + 1) := pk_m1 _
        have m2 : nI (st.length + 1) - nI 1 = nI st.length := by rw [pk_sub (by omega)]; congr 1
        have cl : (nI st.length).toNatClampNeg = st.length := nI_clamp (by omega)
        have cl1 : (nI (st.length + 1)).toNatClampNeg = st.length + 1 := nI_clamp (by omega)
        have hu : mm_M T 117 (st.length + 1) = (if u = true then nI 1 else nI 0) := hst.1
        have hv : mm_M T 117 st.length = (if v = true then nI 1 else nI 0) := hst.2.1
        have q3 : ¬ nI o = nI 3 := fun e => by have := (nI_eq (by omega) (by decide)).mp e; omega
        rw [if_neg q3, b154_185 (wf_o92 wT) (wf_s92_41 wT), m1, m2, g41]
        rcases ho with rfl | rfl
        · show ∃ T' w5 w6 w7, _ = mm_ex (d + 2) 154 10 [.ref 92, .int (nI K), .int (nI b), .int (nI ((v || u) :: st).length), .int (nI (i + 1)), w5, w6, w7] [] T' ∧ md_q S T' ∧ md_st T' ((v || u) :: st)
          rw [if_pos rfl, b154_201 (wf_o92 wT) (wf_s92_41 wT) (by rw [m2]; exact i117' _ (by omega)) a117', m2, g41, cl, hv]
          cases v with
          | true =>
            rw [if_neg (by decide), b154_221 a117 (i117 _ (by omega)), nr_b1, cl, nI_add]
            exact ⟨_, _, _, _, rfl, mq_w hq, st_push (u := true) hst.2.2⟩
          | false =>
            rw [if_pos (by decide), b154_212 (wf_o92 wT) (wf_s92_41 wT) (i117' _ (by omega)) a117', g41, cl1, hu]
            cases u with
            | true =>
              rw [if_neg (by decide), b154_221 a117 (i117 _ (by omega)), nr_b1, cl, nI_add]
              exact ⟨_, _, _, _, rfl, mq_w hq, st_push (u := true) hst.2.2⟩
            | false =>
              rw [if_pos (by decide), b154_225 a117 (i117 _ (by omega)), nr_b0, cl, nI_add]
              exact ⟨_, _, _, _, rfl, mq_w hq, st_push (u := false) hst.2.2⟩
        · show ∃ T' w5 w6 w7, _ = mm_ex (d + 2) 154 10 [.ref 92, .int (nI K), .int (nI b), .int (nI ((v && u) :: st).length), .int (nI (i + 1)), w5, w6, w7] [] T' ∧ md_q S T' ∧ md_st T' ((v && u) :: st)
          rw [if_neg (by decide), b154_229 (wf_o92 wT) (wf_s92_41 wT) (by rw [m2]; exact i117' _ (by omega)) a117', m2, g41, cl, hv]
          cases v with
          | false =>
            rw [if_pos (by decide), b154_253 a117 (i117 _ (by omega)), nr_b0, cl, nI_add]
            exact ⟨_, _, _, _, rfl, mq_w hq, st_push (u := false) hst.2.2⟩
          | true =>
            rw [if_neg (by decide), b154_240 (wf_o92 wT) (wf_s92_41 wT) (i117' _ (by omega)) a117', g41, cl1, hu]
            cases u with
            | true =>
              rw [if_neg (by decide), b154_249 a117 (i117 _ (by omega)), nr_b1, cl, nI_add]
              exact ⟨_, _, _, _, rfl, mq_w hq, st_push (u := true) hst.2.2⟩
            | false =>
              rw [if_pos (by decide), b154_253 a117 (i117 _ (by omega)), nr_b0, cl, nI_add]
              exact ⟨_, _, _, _, rfl, mq_w hq, st_push (u := false) hst.2.2⟩
theorem s154_loop (hA : md_A S P D) (hb : b < ab_kn P) (hh : h < 6) (h18 : mm_M S 92 18 = nI h) (hK : K < 70) {E : Nat} (hE : mm_M S 106 K = nI E) (hE2 : E ≤ 100) : ∀ (c : List ab_T) (i : Nat) (T : mm_S) (st : List Bool) (h' : Nat) (v5 v6 v7 : Value), md_q S T → md_co S c (120 * h + i) → ab_hei c st.length = some h' → md_st T st → st.length ≤ 24 → i + c.length = E → ∃ T' w5 w6 w7, mm_ex (d + 2) 154 10 [.ref 92, .int (nI K), .int (nI b), .int (nI st.length), .int (nI i), v5, v6, v7] [] T = mm_ex (d + 2) 154 10 [.ref 92, .int (nI K), .int (nI b), .int (nI h'), .int (nI E), w5, w6, w7] [] T' ∧ md_q S T' ∧ md_st T' (ab_rn (ab_ms P D b) c st) ∧ (ab_rn (ab_ms P D b) c st).length = h' := by
  intro c
  induction c with
  | nil =>
    intro i T st h' v5 v6 v7 hq _ hhe hst _ hi
    have e1 : i = E := by simpa using hi
    subst e1
    have e2 := Option.some.inj hhe
    subst e2
    exact ⟨T, v5, v6, v7, rfl, hq, hst, rfl⟩
  | cons t c ih =>
    intro i T st h' v5 v6 v7 hq hco hhe hst hst24 hi
    rw [List.length_cons] at hi
    obtain ⟨hc1, hc2⟩ := hco
    cases t with
    | inl t =>
      obtain ⟨q, r, m⟩ := t
      unfold ab_hei at hhe
      by_cases hx : q < 7 ∧ r < 3 ∧ m < 100 ∧ st.length < 24
      · rw [if_pos hx] at hhe
        obtain ⟨T1, w5, w6, w7, g1, g2, g3⟩ := s154_t (d := d) hq hA hb hh h18 hst hx.2.2.2 hK hE (by omega : i < E) hE2 hc1 hx.1 hx.2.1 hx.2.2.1 v5 v6 v7
        obtain ⟨T2, u5, u6, u7, f1, f2, f3⟩ := ih (i + 1) T1 (ab_tst (ab_ms P D b q) r m :: st) h' w5 w6 w7 g2 hc2 hhe g3 (by rw [List.length_cons]; omega) (by omega)
        exact ⟨T2, u5, u6, u7, g1.trans f1, f2, f3⟩
      · rw [if_neg hx] at hhe; cases hhe
    | inr o =>
      have ho : (o = 3 ∧ 1 ≤ st.length) ∨ ((o = 1 ∨ o = 2) ∧ 2 ≤ st.length) := by
        unfold ab_hei at hhe
        by_cases o3 : o = 3
        · rw [if_pos o3] at hhe
          by_cases h1 : 1 ≤ st.length
          · exact Or.inl ⟨o3, h1⟩
          · rw [if_neg h1] at hhe; cases hhe
        · rw [if_neg o3] at hhe
          by_cases h1 : (o = 1 ∨ o = 2) ∧ 2 ≤ st.length
          · exact Or.inr h1
          · rw [if_neg h1] at hhe; cases hhe
      have hlen : ab_hei c (ab_step (ab_ms P D b) st (.inr o)).length = some h' ∧ (ab_step (ab_ms P D b) st (.inr o)).length ≤ 24 := by
        unfold ab_hei at hhe
        rcases ho with ⟨rfl, h1⟩ | ⟨ho, h2⟩
        · rw [if_pos rfl, if_pos h1] at hhe
          cases st with
          | nil => exact absurd h1 (by decide)
          | cons u st => exact ⟨hhe, hst24⟩
        · have o3 : ¬ o = 3 := by omega
          rw [if_neg o3, if_pos ⟨ho, h2⟩] at hhe
          cases st with
          | nil => exact absurd h2 (by decide)
          | cons u st =>
            cases st with
            | nil => exact absurd h2 (by simp)
            | cons v st =>
              simp only [List.length_cons] at hst24
              have e : (ab_step (ab_ms P D b) (u :: v :: st) (.inr o)).length = st.length + 1 := by
                unfold ab_step
                simp only [if_neg o3, List.length_cons]
              rw [e]
              exact ⟨hhe, by omega⟩
      obtain ⟨T1, w5, w6, w7, g1, g2, g3⟩ := s154_o (d := d) (b := b) hq hA hh h18 hst hst24 hK hE (by omega : i < E) hE2 hc1 ho v5 v6 v7
      obtain ⟨T2, u5, u6, u7, f1, f2, f3⟩ := ih (i + 1) T1 _ h' w5 w6 w7 g2 hc2 hlen.1 g3 hlen.2 (by omega)
      exact ⟨T2, u5, u6, u7, g1.trans f1, f2, f3⟩
theorem s154 (hA : md_A S P D) (hb : b < ab_kn P) (hh : h < 6) (h18 : mm_M S 92 18 = nI h) (hK : K < 70) {f : Nat} {c : List ab_T} (hF : mm_M S 105 K = nI f) (hE : mm_M S 106 K = nI (f + c.length)) (hE2 : f + c.length ≤ 100) (hc : md_co S c (120 * h + f)) (hhe : ab_hei c 0 = some 1) : ∃ T, mm_cl (d + 2) 154 [.ref 92, .int (nI K), .int (nI b)] S = some (some (.int (if ab_hold (ab_ms P D b) c = true then nI 1 else nI 0)), T) ∧ md_q S T := by
  have hw := hA.1
  obtain ⟨T, w5, w6, w7, g1, g2, g3, g4⟩ := s154_loop (d := d) hA hb hh h18 hK hE hE2 c f S [] 1 .null .null .null mq_rf hc hhe True.intro (by decide) rfl
  have wT := mq_W g2 hw
  have i105 : mm_inb (nI K) (mm_N S (mm_rg S 92 22)) = true := by rw [wf_g92_22 hw, wf_N105 hw]; exact hp_inb hK (by omega)
  have a105 : mm_arr S (mm_rg S 92 22) 13 = true := by rw [wf_g92_22 hw]; exact wf_a105 hw
  have i106 : mm_inb (nI K) (mm_N T (mm_rg T 92 23)) = true := by rw [wf_g92_23 wT, wf_N106 wT]; exact hp_inb hK (by omega)
  have a106 : mm_arr T (mm_rg T 92 23) 13 = true := by rw [wf_g92_23 wT]; exact wf_a106 wT
  have e106 : mm_M T 106 K = nI (f + c.length) := (g2.2 _ _ (by decide)).trans hE
  have g1 : mm_ex (d + 2) 154 10 [.ref 92, .int (nI K), .int (nI b), .int (nI 0), .int (nI f), .null, .null, .null] [] S = _ := g1
  refine ⟨T, ?_, g2⟩
  rw [e154, b154_0 (wf_o92 hw) (wf_s92_22 hw) i105 a105, wf_g92_22 hw, nI_clamp (by omega), hF, g1, b154_10 (wf_o92 wT) (wf_s92_23 wT) i106 a106, wf_g92_23 wT, nI_clamp (by omega), e106, if_pos (nI_le (Nat.le_refl _) (by omega))]
  unfold ab_hold
  cases hr : ab_rn (ab_ms P D b) c [] with
  | nil => rw [hr] at g4; cases g4
  | cons u st =>
    rw [hr] at g3 g4
    have hst : st = [] := by
      rw [List.length_cons] at g4
      exact List.eq_nil_of_length_eq_zero (by omega)
    subst hst
    have g5 : mm_M T 117 0 = (if u = true then nI 1 else nI 0) := g3.1
    have c0 : (nI 0).toNatClampNeg = 0 := nI_clamp (by decide)
    rw [b154_261 (wf_o92 wT) (wf_s92_41 wT) (by rw [wf_g92_41 wT, wf_N117 wT]; exact hp_inb (by decide) (by decide)) (by rw [wf_g92_41 wT]; exact wf_a117 wT) (by rw [wf_g92_41 wT, c0, g5]; exact nr_fi), wf_g92_41 wT, c0, g5]
    rfl
end MC
end
section
/-! ===== what a BUYER does, in the reference ===== -/
section MS
variable {S T : mm_S} {b k n i d h w L : Nat} {P : ab_P} {D : ab_D} {x : Int32}
theorem s155_loop (hA : md_A S P D) (hb : b < ab_kn P) (hh : h < 6) (h18 : mm_M S 92 18 = nI h) (hw2 : w < 2) (hL : L ≤ 10) (h102 : mm_M S 102 h = nI L) : ∀ (l : List ab_C) (k n : Nat) (T : mm_S), md_q S T → md_cl S h l k → k + l.length = L → (∀ c ∈ l, ab_okC c) → ∃ T', mm_ex (d + 3) 155 11 [.ref 92, .int (nI w), .int (nI b), .int (nI n), .int (nI (10 * h + k))] [] T = some (some (.int (nI (ab_sum (ab_ms P D b) w l n))), T') ∧ md_q S T' := by
  intro l
  induction l with
  | nil =>
    intro k n T hq _ hk _
    have wT := mq_W hq hA.1
    have e1 : k = L := by simpa using hk
    have e18 : mm_M T 92 18 = nI h := (hq.2 _ _ (by decide)).trans h18
    have e102 : mm_M T 102 h = nI L := (hq.2 _ _ (by decide)).trans h102
    have i102 : mm_inb (mm_M T 92 18) (mm_N T (mm_rg T 92 19)) = true := by rw [e18, wf_g92_19 wT, wf_N102 wT]; exact hp_inb (by omega) (by omega)
    refine ⟨T, ?_, hq⟩
    rw [b155_11 (wf_o92 wT), e18, if_neg (nI_n0 (by omega)), b155_18 (wf_o92 wT) (wf_s92_19 wT) i102 (by rw [wf_g92_19 wT]; exact wf_a102 wT), e18, wf_g92_19 wT, nI_clamp (by omega), e102, nI_mul, nI_add, if_pos (nI_le (by omega) (by omega)), b155_81]
    rfl
  | cons c l ih =>
    intro k n T hq hc hk hok
    rw [List.length_cons] at hk
    have wT := mq_W hq hA.1
    have AT := mq_A hq hA
    have e18 : mm_M T 92 18 = nI h := (hq.2 _ _ (by decide)).trans h18
    have e102 : mm_M T 102 h = nI L := (hq.2 _ _ (by decide)).trans h102
    have i102 : mm_inb (mm_M T 92 18) (mm_N T (mm_rg T 92 19)) = true := by rw [e18, wf_g92_19 wT, wf_N102 wT]; exact hp_inb (by omega) (by omega)
    have i103 : mm_inb (nI (10 * h + k)) (mm_N T (mm_rg T 92 20)) = true := by rw [wf_g92_20 wT, wf_N103 wT]; exact hp_inb (by omega) (by omega)
    have a103 : mm_arr T (mm_rg T 92 20) 13 = true := by rw [wf_g92_20 wT]; exact wf_a103 wT
    have e103 : mm_M T 103 (10 * h + k) = nI c.1 := (hq.2 _ _ (by decide)).trans hc.1
    have hok1 := hok c List.mem_cons_self
    have hsum : ab_sum (ab_ms P D b) w (c :: l) n = ab_sum (ab_ms P D b) w l (if c.1 = w ∧ ab_hold (ab_ms P D b) c.2.2 = true then n + c.2.1 else n) := rfl
    have ihq := fun n T hq => ih (k + 1) n T hq hc.2.2.2 (by omega) (fun c hc => hok c (List.mem_cons_of_mem _ hc))
    have cl : (nI (10 * h + k)).toNatClampNeg = 10 * h + k := nI_clamp (by omega)
    rw [b155_11 (wf_o92 wT), e18, if_neg (nI_n0 (by omega)), b155_18 (wf_o92 wT) (wf_s92_19 wT) i102 (by rw [wf_g92_19 wT]; exact wf_a102 wT), e18, wf_g92_19 wT, nI_clamp (by omega), e102, nI_mul, nI_add, if_neg (nI_ge (by omega) (by omega)), b155_40 (wf_o92 wT) (wf_s92_20 wT) i103 a103, wf_g92_20 wT, cl, e103, hsum]
    by_cases hcw : c.1 = w
    · have hc01 : c.1 < 2 := by omega
      obtain ⟨f, f1, f2, f3, f4⟩ := hc.2.2.1 hc01
      have h18T := e18
      obtain ⟨T1, g1, g2⟩ := s154 (S := T) (d := d) (K := 10 * h + k) (c := c.2.2) AT hb hh e18 (by omega) ((hq.2 _ _ (by decide)).trans f2) ((hq.2 _ _ (by decide)).trans f3) f1 (mf_co (fun i => hq.2 _ _ (by decide)) f4) (hok1.2.2 hc01)
      have hq1 := mq_tr hq g2
      have wT1 := mq_W hq1 hA.1
      have i104 : mm_inb (nI (10 * h + k)) (mm_N T1 (mm_rg T1 92 21)) = true := by rw [wf_g92_21 wT1, wf_N104 wT1]; exact hp_inb (by omega) (by omega)
      have a104 : mm_arr T1 (mm_rg T1 92 21) 13 = true := by rw [wf_g92_21 wT1]; exact wf_a104 wT1
      have e104 : mm_M T1 104 (10 * h + k) = nI c.2.1 := (hq1.2 _ _ (by decide)).trans hc.2.1
      rw [if_pos (by rw [hcw]), b155_52 (wf_k92 wT), g1, hp_bd, hp_tsc, b155_59]
      by_cases hhd : ab_hold (ab_ms P D b) c.2.2 = true
      · obtain ⟨T2, u1, u2⟩ := ihq (n + c.2.1) T1 hq1
        rw [if_pos hhd, if_neg (by decide), b155_62 (wf_o92 wT1) (wf_s92_21 wT1) i104 a104, wf_g92_21 wT1, cl, e104, nI_add, nI_add, if_pos ⟨hcw, hhd⟩]
        exact ⟨T2, u1, u2⟩
      · obtain ⟨T2, u1, u2⟩ := ihq n T1 hq1
        rw [if_neg hhd, if_pos rfl, b155_72, nI_add, nI_add, if_neg (fun e => hhd e.2)]
        exact ⟨T2, u1, u2⟩
    · obtain ⟨T2, u1, u2⟩ := ihq n T hq
      have h6 := hok1.1
      rw [if_neg (fun e => hcw ((nI_eq (by omega) (by omega)).mp e)), b155_72, nI_add, nI_add, if_neg (fun e => hcw e.1)]
      exact ⟨T2, u1, u2⟩
theorem s155 (hA : md_A S P D) (hb : b < ab_kn P) (hw2 : w < 2) : ∃ T, mm_cl (d + 3) 155 [.ref 92, .int (nI w), .int (nI b)] S = some (some (.int (nI (ab_sum (ab_ms P D b) w (ab_sh P) 0))), T) ∧ md_q S T := by
  have hw := hA.1
  have hS := hA.2.2.2.1.2.2.1
  obtain ⟨o, ho⟩ := hA.2.1.2.2.2.1
  cases o with
  | none =>
    refine ⟨S, ?_, mq_rf⟩
    rw [e155, b155_0 (wf_o92 hw), b155_11 (wf_o92 hw), ho.1, if_pos (by decide), b155_81, ho.2]
    rfl
  | some h =>
    obtain ⟨T, g1, g2⟩ := s155_loop (d := d) hA hb ho.1 ho.2.1 hw2 hS.1 ho.2.2.1 (ab_sh P) 0 0 S mq_rf ho.2.2.2 (Nat.zero_add _) hS.2
    refine ⟨T, ?_, g2⟩
    rw [e155, b155_0 (wf_o92 hw), ho.2.1, nI_mul]
    exact g1
theorem s156 (hA : md_A S P D) (hb : b < ab_kn P) : ∃ T, mm_cl (d + 4) 156 [.ref 92, .int (nI b)] S = some (some (.int (nI (ab_val P D b))), T) ∧ md_q S T := by
  have hw := hA.1
  have hb6 := Nat.lt_of_lt_of_le hb hA.2.2.2.1.1
  obtain ⟨T, g1, g2⟩ := s155 (d := d) (w := 0) hA hb (by decide)
  refine ⟨T, ?_, g2⟩
  rw [e156, b156_0 (wf_o92 hw) (wf_s92_3 hw) (by rw [wf_g92_3 hw, wf_N95 hw]; exact hp_inb hb6 (by omega)) (by rw [wf_g92_3 hw]; exact wf_a95 hw) (wf_k92 hw), g1, hp_bd, hp_tsc, b156_12, wf_g92_3 hw, nI_clamp (by omega), (hA.2.1.2.1 b hb).2.2.1, nI_add]
  rfl
theorem s157 (hA : md_A S P D) (hb : b < ab_kn P) : ∃ T, mm_cl (d + 4) 157 [.ref 92, .int (nI b)] S = some (some (.int (nI (ab_cost P D b))), T) ∧ md_q S T := by
  have hw := hA.1
  obtain ⟨T, g1, g2⟩ := s155 (d := d) (w := 1) hA hb (by decide)
  refine ⟨T, ?_, g2⟩
  rw [e157, b157_0 (wf_k92 hw), g1, hp_bd, hp_ts, b157_6]
  rfl
theorem s158_loop (hA : md_A S P D) (hh : h < 6) (h18 : mm_M S 92 18 = nI h) (hw6 : w < 6) (hL : L ≤ 10) (h102 : mm_M S 102 h = nI L) : ∀ (l : List ab_C) (k n : Nat), md_cl S h l k → k + l.length = L → (∀ c ∈ l, ab_okC c) → mm_ex d 158 19 [.ref 92, .int (nI w), .int (nI n), .int (nI (10 * h + k))] [] S = mm_ex d 158 74 [.ref 92, .int (nI w), .int (nI (ab_law l w n)), .int (nI (10 * h + L))] [] S := by
  have hw := hA.1
  have i102 : mm_inb (mm_M S 92 18) (mm_N S (mm_rg S 92 19)) = true := by rw [h18, wf_g92_19 hw, wf_N102 hw]; exact hp_inb (by omega) (by omega)
  have a102 : mm_arr S (mm_rg S 92 19) 13 = true := by rw [wf_g92_19 hw]; exact wf_a102 hw
  intro l
  induction l with
  | nil =>
    intro k n _ hk _
    have e1 : k = L := by simpa using hk
    subst e1
    rw [b158_19 (wf_o92 hw), h18, if_neg (nI_n0 (by omega)), b158_26 (wf_o92 hw) (wf_s92_19 hw) i102 a102, h18, wf_g92_19 hw, nI_clamp (by omega), h102, nI_mul, nI_add, if_pos (nI_le (Nat.le_refl _) (by omega))]
    rfl
  | cons c l ih =>
    intro k n hc hk hok
    rw [List.length_cons] at hk
    have i103 : mm_inb (nI (10 * h + k)) (mm_N S (mm_rg S 92 20)) = true := by rw [wf_g92_20 hw, wf_N103 hw]; exact hp_inb (by omega) (by omega)
    have a103 : mm_arr S (mm_rg S 92 20) 13 = true := by rw [wf_g92_20 hw]; exact wf_a103 hw
    have i104 : mm_inb (nI (10 * h + k)) (mm_N S (mm_rg S 92 21)) = true := by rw [wf_g92_21 hw, wf_N104 hw]; exact hp_inb (by omega) (by omega)
    have a104 : mm_arr S (mm_rg S 92 21) 13 = true := by rw [wf_g92_21 hw]; exact wf_a104 hw
    have hok1 := hok c List.mem_cons_self
    have cl : (nI (10 * h + k)).toNatClampNeg = 10 * h + k := nI_clamp (by omega)
    have hlaw : ab_law (c :: l) w n = ab_law l w (if c.1 = w then c.2.1 else n) := rfl
    have ihq := fun n => ih (k + 1) n hc.2.2.2 (by omega) (fun c hc => hok c (List.mem_cons_of_mem _ hc))
    have h6 := hok1.1
    rw [b158_19 (wf_o92 hw), h18, if_neg (nI_n0 (by omega)), b158_26 (wf_o92 hw) (wf_s92_19 hw) i102 a102, h18, wf_g92_19 hw, nI_clamp (by omega), h102, nI_mul, nI_add, if_neg (nI_ge (by omega) (by omega)), b158_47 (wf_o92 hw) (wf_s92_20 hw) i103 a103, wf_g92_20 hw, cl, hc.1, hlaw]
    by_cases hcw : c.1 = w
    · rw [if_pos (by rw [hcw]), b158_57 (wf_o92 hw) (wf_s92_21 hw) i104 a104, wf_g92_21 hw, cl, hc.2.1, nI_add, if_pos hcw]
      exact ihq _
    · rw [if_neg (fun e => hcw ((nI_eq (by omega) (by omega)).mp e)), b158_66, nI_add, if_neg hcw]
      exact ihq _
theorem s158_run (hA : md_A S P D) (hw6 : w < 6) : ∃ x, mm_ex d 158 19 [.ref 92, .int (nI w), .int (nI n), .int (nI 10 * mm_M S 92 18)] [] S = mm_ex d 158 74 [.ref 92, .int (nI w), .int (nI (ab_law (ab_sh P) w n)), .int x] [] S := by
  have hw := hA.1
  have hS := hA.2.2.2.1.2.2.1
  obtain ⟨o, ho⟩ := hA.2.1.2.2.2.1
  cases o with
  | none =>
    refine ⟨nI 10 * (-1), ?_⟩
    rw [b158_19 (wf_o92 hw), ho.1, if_pos (by decide), ho.2]
    rfl
  | some h =>
    refine ⟨nI (10 * h + (ab_sh P).length), ?_⟩
    rw [ho.2.1, nI_mul]
    exact s158_loop (d := d) hA ho.1 ho.2.1 hw6 hS.1 ho.2.2.1 (ab_sh P) 0 n ho.2.2.2 (Nat.zero_add _) hS.2
theorem s158_2 (hA : md_A S P D) : mm_cl d 158 [.ref 92, .int (nI 2)] S = some (some (.int (nI (ab_up P))), S) := by
  have hw := hA.1
  obtain ⟨x, hx⟩ := s158_run (d := d) (w := 2) (n := 1) hA (by decide)
  rw [e158, b158_0, if_neg (by decide), b158_9 (wf_o92 hw), hx, b158_74, if_neg (by decide), b158_92, if_neg (by decide), b158_111]
  rfl
theorem s158_3 (hA : md_A S P D) : mm_cl d 158 [.ref 92, .int (nI 3)] S = some (some (.int (nI (ab_down P))), S) := by
  have hw := hA.1
  obtain ⟨x, hx⟩ := s158_run (d := d) (w := 3) (n := 1) hA (by decide)
  rw [e158, b158_0, if_neg (by decide), b158_9 (wf_o92 hw), hx, b158_74, if_neg (by decide), b158_92, if_neg (by decide), b158_111]
  rfl
theorem s158_4 (hA : md_A S P D) : mm_cl d 158 [.ref 92, .int (nI 4)] S = some (some (.int (nI (ab_away P))), S) := by
  have hw := hA.1
  have hlt : ab_law (ab_sh P) 4 1 < 100 := ab_law_lt (ab_okP_c hA.2.2.2.1) (by decide)
  obtain ⟨x, hx⟩ := s158_run (d := d) (w := 4) (n := 1) hA (by decide)
  rw [e158, b158_0, if_neg (by decide), b158_9 (wf_o92 hw), hx, b158_74, if_pos rfl, b158_79]
  unfold ab_away
  by_cases g : ab_law (ab_sh P) 4 1 ≤ 9
  · rw [if_pos (nI_le g (by decide)), b158_90, Nat.min_eq_right g]
  · rw [if_neg (nI_ge (by omega) (by omega)), b158_85, Nat.min_eq_left (by omega)]
theorem s158_5 (hA : md_A S P D) : mm_cl d 158 [.ref 92, .int (nI 5)] S = some (some (.int (nI (ab_fe P))), S) := by
  have hw := hA.1
  obtain ⟨x, hx⟩ := s158_run (d := d) (w := 5) (n := 0) hA (by decide)
  rw [e158, b158_0, if_pos rfl, b158_5 (wf_o92 hw), hx, b158_74, if_neg (by decide), b158_92, if_pos rfl, b158_97 (wf_o92 hw)]
  rcases hA.2.1.2.2.2.2 with ⟨h1, h2⟩ | h1
  · rw [h1, if_pos (by decide), b158_111, h2]
  · have := hA.2.2.2.1.2.1
    rw [h1, if_neg (nI_n0 (by omega)), b158_104 (wf_o92 hw), h1]
theorem s160 (hA : md_A S P D) (hb : b < ab_kn P) : mm_cl (d + 1) 160 [.ref 92, .int (nI b)] S = some (some (.int (if ab_may P D b = true then nI 1 else nI 0)), S) := by
  have hw := hA.1
  have hb6 := Nat.lt_of_lt_of_le hb hA.2.2.2.1.1
  have h9 := hA.2.2.2.2.2.2.1 b hb
  have h9' := @ab_away_le P
  rw [e160, b160_0 (wf_o92 hw) (wf_s92_5 hw) (by rw [wf_g92_5 hw, wf_N97 hw]; exact hp_inb hb6 (by omega)) (by rw [wf_g92_5 hw]; exact wf_a97 hw) (wf_k92 hw), s158_4 hA, hp_bd, hp_tsc, b160_11, wf_g92_5 hw, nI_clamp (by omega), hA.2.2.1.2.2.1 b hb]
  unfold ab_may
  by_cases g : ab_aw D b < ab_away P
  · rw [if_neg (nI_ge g (by omega)), b160_14, if_pos (decide_eq_true g)]
  · rw [if_pos (nI_le (Nat.le_of_not_lt g) (by omega)), b160_18, if_neg (fun e => g (of_decide_eq_true e))]
theorem s161 (hA : md_A S P D) (hb : b < ab_kn P) : ∃ T, mm_cl (d + 5) 161 [.ref 92, .int (nI b)] S = some (some (.int (nI (ab_val P D b + ab_cost P D b + ab_fe P) - nI (ab_pr D))), T) ∧ md_q S T := by
  have hw := hA.1
  obtain ⟨T, g1, g2⟩ := s156 (d := d) hA hb
  have AT := mq_A g2 hA
  obtain ⟨U, g3, g4⟩ := s157 (d := d) AT hb
  have AU := mq_A g4 AT
  refine ⟨U, ?_, mq_tr g2 g4⟩
  rw [e161, b161_0 (wf_k92 hw), g1, hp_bd, hp_ts, b161_5 (wf_k92 AT.1), g3, hp_bd, hp_tsc, b161_10 (wf_k92 AU.1), s158_5 AU, hp_bd, hp_tsc, b161_16 (wf_o92 AU.1), AU.2.2.1.2.2.2.2.1, nI_add, nI_add]
theorem my_lt (oP : ab_okP P) (oD : ab_okD P D) (hb : b < ab_kn P) {n : Nat} (hn : n < 100) : (nI (ab_val P D b + ab_cost P D b + ab_fe P) - nI (ab_pr D) < nI n) = ¬ (n + ab_pr D ≤ ab_val P D b + ab_cost P D b + ab_fe P) := by
  have v1 := @ab_val_le P D b oP hb
  have v2 := @ab_cost_le P D b oP
  have v3 := oP.2.1
  have v4 := oD.2.2.2.1
  rw [gn_lt (by omega) (by omega) (by omega)]
  exact propext (by omega)
theorem s162 (hA : md_A S P D) (hb : b < ab_kn P) : ∃ T, mm_cl (d + 6) 162 [.ref 92, .int (nI b)] S = some (some (.int (nI (ab_gy P D b 0))), T) ∧ md_q S T := by
  have hw := hA.1
  obtain ⟨T, g1, g2⟩ := s161 (d := d) hA hb
  refine ⟨T, ?_, g2⟩
  rw [e162, b162_0 (wf_k92 hw), g1, hp_bd, hp_ts, b162_5]
  unfold ab_gy
  by_cases g : 0 + ab_pr D ≤ ab_val P D b + ab_cost P D b + ab_fe P
  · rw [if_neg (by rw [my_lt hA.2.2.2.1 hA.2.2.2.2 hb (by decide)]; exact fun n => n g), b162_8, if_pos g]
  · rw [if_pos (by rw [my_lt hA.2.2.2.1 hA.2.2.2.2 hb (by decide)]; exact g), b162_12, if_neg g]
theorem s165 (hA : md_A S P D) (hb : b < ab_kn P) : ∃ T, mm_cl (d + 6) 165 [.ref 92, .int (nI b)] S = some (some (.int (nI (ab_gy P D b (ab_v P b)))), T) ∧ md_q S T := by
  have hw := hA.1
  have hb6 := Nat.lt_of_lt_of_le hb hA.2.2.2.1.1
  have hv := (hA.2.2.2.1.2.2.2.1 b hb).2.1
  obtain ⟨T, g1, g2⟩ := s161 (d := d) hA hb
  have AT := mq_A g2 hA
  have wT := AT.1
  refine ⟨T, ?_, g2⟩
  rw [e165, b165_0 (wf_k92 hw), g1, hp_bd, hp_ts, b165_5 (wf_o92 wT) (wf_s92_2 wT) (by rw [wf_g92_2 wT, wf_N94 wT]; exact hp_inb hb6 (by omega)) (by rw [wf_g92_2 wT]; exact wf_a94 wT), wf_g92_2 wT, nI_clamp (by omega), (AT.2.1.2.1 b hb).2.1]
  unfold ab_gy
  by_cases g : ab_v P b + ab_pr D ≤ ab_val P D b + ab_cost P D b + ab_fe P
  · rw [if_neg (by rw [my_lt hA.2.2.2.1 hA.2.2.2.2 hb (by omega)]; exact fun n => n g), b165_14, if_pos g]
  · rw [if_pos (by rw [my_lt hA.2.2.2.1 hA.2.2.2.2 hb (by omega)]; exact g), b165_18, if_neg g]
theorem s163 (hA : md_A S P D) (hb : b < ab_kn P) : ∃ T, mm_cl (d + 7) 163 [.ref 92, .int (nI b)] S = some (some (.int (nI (ab_wai P D b))), T) ∧ md_q S T := by
  have hw := hA.1
  have v1 := @ab_val_le P D b hA.2.2.2.1 hb
  have v4 := hA.2.2.2.2.2.2.2.1
  obtain ⟨T, g1, g2⟩ := s156 (d := d + 2) hA hb
  have AT := mq_A g2 hA
  have wT := AT.1
  obtain ⟨U, g3, g4⟩ := s162 (d := d) AT hb
  have h24 : mm_ex (d + 7) 163 24 [.ref 92, .int (nI b)] [] T = some (some (.int (nI (ab_gy P D b 0))), U) := by
    rw [b163_24 (wf_k92 wT), g3, hp_bd, hp_ts, b163_29]
  rw [e163, b163_0 (wf_k92 hw), g1, hp_bd, hp_ts, b163_5 (wf_o92 wT), AT.2.2.1.2.2.2.2.1]
  unfold ab_wai
  by_cases g : ab_val P D b < ab_pr D
  · rw [if_neg (nI_ge g (by omega)), b163_12 (wf_k92 wT), s160 AT hb, hp_bd, hp_ts, b163_17]
    cases hm : ab_may P D b with
    | true => exact ⟨T, by rw [if_pos rfl, if_neg (by decide), b163_20, if_pos ⟨g, rfl⟩], g2⟩
    | false => exact ⟨U, by rw [if_pos (by decide), h24, if_neg (fun e => by cases e.2)], mq_tr g2 g4⟩
  · exact ⟨U, by rw [if_pos (nI_le (Nat.le_of_not_lt g) (by omega)), h24, if_neg (fun e => g e.1)], mq_tr g2 g4⟩
theorem s164 (hA : md_A S P D) (hb : b < ab_kn P) : ∃ T, mm_cl (d + 7) 164 [.ref 92, .int (nI b)] S = some (some (.int (nI (ab_fal P D b))), T) ∧ md_q S T := by
  have hw := hA.1
  have hb6 := Nat.lt_of_lt_of_le hb hA.2.2.2.1.1
  have v3 := (hA.2.2.2.1.2.2.2.1 b hb).2.1
  have v4 := hA.2.2.2.2.2.2.2.1
  have hB := hA.2.1.2.1 b hb
  have cl : (nI b).toNatClampNeg = b := nI_clamp (by omega)
  obtain ⟨U, g3, g4⟩ := s162 (d := d) hA hb
  have h53 : ∀ x, mm_ex (d + 7) 164 53 [.ref 92, .int (nI b), .int x] [] S = some (some (.int (nI (ab_gy P D b 0))), U) := by
    intro x
    rw [b164_53 (wf_k92 hw), g3, hp_bd, hp_ts, b164_58]
  have h43 : mm_ex (d + 7) 164 43 [.ref 92, .int (nI b), .null] [] S = some (some (.int (nI (ab_gy P D b 0))), U) := by
    rw [b164_43, if_pos rfl, h53]
  have i96 : mm_inb (nI b) (mm_N S (mm_rg S 92 4)) = true := by rw [wf_g92_4 hw, wf_N96 hw]; exact hp_inb hb6 (by omega)
  have a96 : mm_arr S (mm_rg S 92 4) 13 = true := by rw [wf_g92_4 hw]; exact wf_a96 hw
  rw [e164, b164_0 (wf_o92 hw) (wf_s92_2 hw) (by rw [wf_g92_2 hw, wf_N94 hw]; exact hp_inb hb6 (by omega)) (by rw [wf_g92_2 hw]; exact wf_a94 hw), wf_g92_2 hw, cl, hB.2.1, hA.2.2.1.2.2.2.2.1]
  unfold ab_fal
  by_cases g : ab_v P b < ab_pr D
  · rw [if_neg (nI_ge g (by omega)), b164_13 (wf_o92 hw) (wf_s92_4 hw) i96 a96, wf_g92_4 hw, cl, hB.2.2.2]
    unfold ab_frn
    cases hf : ab_fr P b with
    | none => exact ⟨U, by rw [if_pos fo_n5, h43, if_neg (fun e => by cases e.2)], g4⟩
    | some f =>
      have hf6 := Nat.lt_of_lt_of_le (hA.2.2.2.1.2.2.2.2.1 b f hb hf).1 hA.2.2.2.1.1
      have hn : ¬ md_fo (some f) = -5 := fun e => by rw [mo_neg (fun k e => by cases e; omega)] at e; cases e
      rw [if_neg hn, b164_24 (wf_o92 hw) (wf_s92_4 hw) i96 a96 (wf_k92 hw), wf_g92_4 hw, cl, hB.2.2.2, hf, show md_fo (some f) = nI f from rfl, s130 hA hf6, hp_bd, hp_ts, b164_34]
      by_cases hm : f ∈ ab_row D
      · exact ⟨S, by rw [if_neg (by rw [at_neg hA]; exact fun e => e hm), b164_39, if_neg (by decide), b164_49, if_pos ⟨g, decide_eq_true hm⟩], mq_rf⟩
      · exact ⟨U, by rw [if_pos (by rw [at_neg hA]; exact hm), h43, if_neg (fun e => hm (of_decide_eq_true e.2))], g4⟩
  · exact ⟨U, by rw [if_pos (nI_le (Nat.le_of_not_lt g) (by omega)), h43, if_neg (fun e => g e.1)], g4⟩
end MS
end
section
/-! ===== turns in the reference ===== -/
section MT
variable {S T U : mm_S} {b k n i d h w L c j : Nat} {P : ab_P} {D : ab_D} {x : Int32} {r : List Nat}
/-- how many others stand -/
def ab_oth (D : ab_D) (b : Nat) : Nat := if b ∈ ab_row D then (ab_row D).length - 1 else (ab_row D).length
theorem s166 (hA : md_A S P D) (hb : b < ab_kn P) : ∃ T, mm_cl (d + 8) 166 [.ref 92, .int (nI b)] S = some (some (.int (nI (ab_act P D b (ab_oth D b)))), T) ∧ md_q S T := by
  have hw := hA.1
  have oP := hA.2.2.2.1
  have oD := hA.2.2.2.2
  have hb6 := Nat.lt_of_lt_of_le hb oP.1
  have hB := hA.2.1.2.1 b hb
  have hk := oP.2.2.2.1 b hb
  have v4 := oD.2.2.2.1
  have lo9 := oD.2.2.2.2
  have rl := row_le oP oD
  have k6 := oP.1
  have cl : (nI b).toNatClampNeg = b := nI_clamp (by omega)
  have hix : nI 3 * nI b + (nI (ab_pr D) - nI (ab_pr D) / nI 3 * nI 3) = nI (3 * b + ab_pr D % 3) := by
    rw [pk_rem (by omega) (by decide) (by decide), nI_mul, nI_add]
  have h18 : 3 * b + ab_pr D % 3 < 18 := by omega
  have ht := oP.2.2.2.2.2 (3 * b + ab_pr D % 3) (by omega)
  have i99 : mm_inb (nI 3 * nI b + (mm_M S 92 10 - mm_M S 92 10 / nI 3 * nI 3)) (mm_N S (mm_rg S 92 7)) = true := by
    rw [hA.2.2.1.2.2.2.2.1, hix, wf_g92_7 hw, wf_N99 hw]; exact hp_inb h18 (by omega)
  have a99 : mm_arr S (mm_rg S 92 7) 13 = true := by rw [wf_g92_7 hw]; exact wf_a99 hw
  have i93 : mm_inb (nI b) (mm_N S (mm_rg S 92 1)) = true := by rw [wf_g92_1 hw, wf_N93 hw]; exact hp_inb hb6 (by omega)
  have a93 : mm_arr S (mm_rg S 92 1) 13 = true := by rw [wf_g92_1 hw]; exact wf_a93 hw
  have i94 : mm_inb (nI b) (mm_N S (mm_rg S 92 2)) = true := by rw [wf_g92_2 hw, wf_N94 hw]; exact hp_inb hb6 (by omega)
  have a94 : mm_arr S (mm_rg S 92 2) 13 = true := by rw [wf_g92_2 hw]; exact wf_a94 hw
  have e99 : mm_M S 99 (3 * b + ab_pr D % 3) = nI (ab_te P (3 * b + ab_pr D % 3)) := hA.2.1.2.2.1 _ (by omega)
  have start : mm_cl (d + 8) 166 [.ref 92, .int (nI b)] S = mm_ex (d + 8) 166 43 [.ref 92, .int (nI b), .int (nI (ab_oth D b)), .int (nI (ab_te P (3 * b + ab_pr D % 3)))] [.int (nI (ab_ki P b))] S := by
    rw [e166, b166_0 (wf_o92 hw) (wf_k92 hw), s130 hA hb6, hp_bd, hp_tsc, hA.2.2.1.1, b166_9]
    unfold ab_oth
    by_cases hm : b ∈ ab_row D
    · have : 0 < (ab_row D).length := List.length_pos_of_mem hm
      rw [if_neg (by rw [at_neg hA]; exact fun e => e hm), b166_18 (wf_o92 hw) (wf_s92_7 hw) i99 a99 (wf_s92_1 hw) i93 a93, hA.2.2.1.2.2.2.2.1, hix, wf_g92_7 hw, wf_g92_1 hw, nI_clamp (by omega), cl, e99, hB.1, if_pos hm, pk_sub (by omega)]
    · rw [if_pos (by rw [at_neg hA]; exact hm), b166_14 (wf_o92 hw) (wf_s92_7 hw) i99 a99 (wf_s92_1 hw) i93 a93, hA.2.2.1.2.2.2.2.1, hix, wf_g92_7 hw, wf_g92_1 hw, nI_clamp (by omega), cl, e99, hB.1, if_neg hm, pk_sub (by omega)]
      rfl
  have ol : ab_oth D b ≤ 6 := by unfold ab_oth; split <;> omega
  rw [start, b166_43]
  generalize ab_oth D b = o at ol
  unfold ab_act
  rcases (by omega : ab_ki P b = 0 ∨ ab_ki P b = 1 ∨ ab_ki P b = 2 ∨ ab_ki P b = 3 ∨ ab_ki P b = 4 ∨ ab_ki P b = 5 ∨ ab_ki P b = 6) with h0 | h0 | h0 | h0 | h0 | h0 | h0 <;> rw [h0]
  · obtain ⟨T, g1, g2⟩ := s162 (d := d + 1) hA hb
    exact ⟨T, by rw [if_neg (by decide), if_neg (by decide), if_neg (by decide), if_neg (by decide), if_neg (by decide), if_neg (by decide), b166_176 (wf_k92 hw), g1, hp_bd, hp_ts, b166_181]; rfl, g2⟩
  · obtain ⟨T, g1, g2⟩ := s165 (d := d + 1) hA hb
    exact ⟨T, by rw [if_pos rfl, b166_80 (wf_k92 hw), g1, hp_bd, hp_ts, b166_85]; rfl, g2⟩
  · obtain ⟨T, g1, g2⟩ := s163 (d := d) hA hb
    exact ⟨T, by rw [if_neg (by decide), if_pos rfl, b166_86 (wf_k92 hw), g1, hp_bd, hp_ts, b166_91]; rfl, g2⟩
  · obtain ⟨T, g1, g2⟩ := s164 (d := d) hA hb
    exact ⟨T, by rw [if_neg (by decide), if_neg (by decide), if_pos rfl, b166_92 (wf_k92 hw), g1, hp_bd, hp_ts, b166_97]; rfl, g2⟩
  · rw [if_neg (by decide), if_neg (by decide), if_neg (by decide), if_pos rfl, b166_98 (wf_o92 hw) (wf_s92_2 hw) i94 a94, wf_g92_2 hw, cl, hB.2.1, hA.2.2.1.2.2.2.2.2.1]
    by_cases g : ab_lo D ≤ ab_v P b
    · exact ⟨S, by rw [if_neg (nI_nlt g (by omega)), b166_111]; show _ = some (some (Value.int (nI (if _ then _ else _))), S); rw [if_pos g], mq_rf⟩
    · obtain ⟨T, g1, g2⟩ := s165 (d := d + 1) hA hb
      exact ⟨T, by rw [if_pos (nI_lt (by omega) (by omega)), b166_115 (wf_k92 hw), g1, hp_bd, hp_ts, b166_120]; show _ = some (some (Value.int (nI (if _ then _ else _))), T); rw [if_neg g], g2⟩
  · rw [if_neg (by decide), if_neg (by decide), if_neg (by decide), if_neg (by decide), if_pos rfl, b166_121 (wf_o92 hw) (wf_s92_2 hw) i94 a94, wf_g92_2 hw, cl, hB.2.1]
    obtain ⟨T, g1, g2⟩ := s163 (d := d) hA hb
    have h143 : ∀ x2 x3, mm_ex (d + 8) 166 143 [.ref 92, .int (nI b), .int x2, .int x3] [] S = some (some (.int (nI (ab_wai P D b))), T) := by
      intro x2 x3
      rw [b166_143 (wf_k92 hw), g1, hp_bd, hp_ts, b166_148]
    show ∃ T, _ = some (some (Value.int (nI (if ab_v P b ≤ o ∧ ab_may P D b = true then 3 else ab_wai P D b))), T) ∧ _
    by_cases g : ab_v P b ≤ o
    · rw [if_neg (nI_nlt g (by omega)), b166_131 (wf_k92 hw), s160 hA hb, hp_bd, hp_ts, b166_136]
      cases hm : ab_may P D b with
      | true => exact ⟨S, by rw [if_pos rfl, if_neg (by decide), b166_139, if_pos ⟨g, rfl⟩], mq_rf⟩
      | false => exact ⟨T, by rw [if_pos (by decide), h143, if_neg (fun e => by cases e.2)], g2⟩
    · exact ⟨T, by rw [if_pos (nI_lt (by omega) (by omega)), h143, if_neg (fun e => g e.1)], g2⟩
  · rw [if_neg (by decide), if_neg (by decide), if_neg (by decide), if_neg (by decide), if_neg (by decide), if_pos rfl, b166_149]
    obtain ⟨T, g1, g2⟩ := s164 (d := d) hA hb
    have h166 : ∀ x2 x3, mm_ex (d + 8) 166 166 [.ref 92, .int (nI b), .int x2, .int x3] [] S = some (some (.int (nI (ab_fal P D b))), T) := by
      intro x2 x3
      rw [b166_166 (wf_k92 hw), g1, hp_bd, hp_ts, b166_171]
    show ∃ T, _ = some (some (Value.int (nI (if ab_te P (3 * b + ab_pr D % 3) = 0 ∨ (ab_te P (3 * b + ab_pr D % 3) = 3 ∧ ab_may P D b = false) then ab_fal P D b else ab_te P (3 * b + ab_pr D % 3)))), T) ∧ _
    by_cases g0 : ab_te P (3 * b + ab_pr D % 3) = 0
    · exact ⟨T, by rw [if_pos (by rw [g0]), h166, if_pos (Or.inl g0)], g2⟩
    · rw [if_neg (fun e => g0 ((nI_eq (by omega) (by omega)).mp e)), b166_153]
      by_cases g3 : ab_te P (3 * b + ab_pr D % 3) = 3
      · rw [if_pos (by rw [g3]), b166_158 (wf_k92 hw), s160 hA hb, hp_bd, hp_ts, b166_163]
        cases hm : ab_may P D b with
        | true => exact ⟨S, by rw [if_pos rfl, if_neg (by decide), b166_174, if_neg (fun e => e.elim g0 (fun e => by cases e.2))], mq_rf⟩
        | false => exact ⟨T, by rw [if_pos (by decide), h166, if_pos (Or.inr ⟨g3, rfl⟩)], g2⟩
      · exact ⟨S, by rw [if_neg (fun e => g3 ((nI_eq (by omega) (by omega)).mp e)), b166_174, if_neg (fun e => e.elim g0 (fun e => g3 e.1))], mq_rf⟩
/-- the row of the reference with its head gone, as far as place i (from 1) -/
def md_lv (S : mm_S) (i : Nat) : mm_S := mm_wM S (fun c j => if c = 100 ∧ j + 1 < i then mm_M S 100 (j + 1) else mm_M S c j)
theorem mlv_1 : md_lv S 1 = S := by
  refine st_ext (fun c j => ?_) (fun _ _ => rfl) (fun _ _ => rfl) (fun _ => rfl) (fun _ => rfl) rfl rfl
  show (if c = 100 ∧ j + 1 < 1 then _ else _) = _
  rw [if_neg (by omega)]
theorem mlv_fr : md_fr S (md_lv S i) := by
  refine ⟨rfl, fun c j h => ?_⟩
  show (if c = 100 ∧ j + 1 < i then _ else mm_M S c j) = _
  rw [if_neg (fun e => h (Or.inr (Or.inl e.1)))]
theorem mlv_n (h : c ≠ 100) : mm_M (md_lv S i) c j = mm_M S c j := by
  show (if c = 100 ∧ j + 1 < i then _ else mm_M S c j) = _
  rw [if_neg (fun e => h e.1)]
theorem mlv_6 (h : j + 1 < i) : mm_M (md_lv S i) 100 j = mm_M S 100 (j + 1) := by
  show (if 100 = 100 ∧ j + 1 < i then _ else _) = _
  rw [if_pos ⟨rfl, h⟩]
theorem mlv_6b (h : ¬ j + 1 < i) : mm_M (md_lv S i) 100 j = mm_M S 100 j := by
  show (if 100 = 100 ∧ j + 1 < i then _ else _) = _
  rw [if_neg (fun e => h e.2)]
theorem s169_loop (hw : mm_W S) (h8 : mm_M S 92 8 = nI n) (hn : n ≤ 6) (h1 : 1 ≤ n) {x1 x2 x3 x4 x5 x6 x7 : Int32} : ∀ q i : Nat, i + q = n → 1 ≤ i → mm_ex d 169 44 [.ref 92, .int x1, .int x2, .int x3, .int x4, .int x5, .int x6, .int x7, .int (nI i)] [] (md_lv S i) = mm_ex d 169 75 [.ref 92, .int x1, .int x2, .int x3, .int x4, .int x5, .int x6, .int x7, .int (nI n)] [] (md_lv S n) := by
  intro q
  induction q with
  | zero =>
    intro i hi h1i
    have e : i = n := by omega
    subst e
    rw [b169_44 (wf_o92 (mf_W mlv_fr hw)), mlv_n (by decide), h8, if_pos (nI_le (Nat.le_refl _) (by omega))]
  | succ q ih =>
    intro i hi h1i
    have w := mf_W (mlv_fr (S := S) (i := i)) hw
    have ii : mm_inb (nI i) (mm_N (md_lv S i) (mm_rg (md_lv S i) 92 9)) = true := by rw [wf_g92_9 w, wf_N100 w]; exact hp_inb (by omega) (by omega)
    have i1 : nI i - nI 1 = nI (i - 1) := pk_sub h1i
    have ii1 : mm_inb (nI i - nI 1) (mm_N (md_lv S i) (mm_rg (md_lv S i) 92 9)) = true := by rw [i1, wf_g92_9 w, wf_N100 w]; exact hp_inb (by omega) (by omega)
    rw [b169_44 (wf_o92 w), mlv_n (by decide), h8, if_neg (nI_ge (by omega) (by omega)), b169_53 (wf_o92 w) (wf_s92_9 w) ii (by rw [wf_g92_9 w]; exact wf_a100 w) ii1, i1, wf_g92_9 w, nI_clamp (by omega), nI_clamp (by omega), mlv_6b (by omega), nI_add, ← ih (i + 1) (by omega) (by omega)]
    congr 1
    refine st_ext (fun c j => ?_) (fun _ _ => rfl) (fun _ _ => rfl) (fun _ => rfl) (fun _ => rfl) rfl rfl
    rw [hp_MuM]
    show (if c = 100 ∧ j = i - 1 then _ else if c = 100 ∧ j + 1 < i then _ else _) = if c = 100 ∧ j + 1 < i + 1 then _ else _
    by_cases hc : c = 100
    · by_cases hj : j = i - 1
      · rw [if_pos ⟨hc, hj⟩, if_pos ⟨hc, by omega⟩]
        congr 1
        omega
      · rw [if_neg (fun e => hj e.2)]
        by_cases hl : j + 1 < i
        · rw [if_pos ⟨hc, hl⟩, if_pos ⟨hc, by omega⟩]
        · rw [if_neg (fun e => hl e.2), if_neg (fun e => by omega)]
    · rw [if_neg (fun e => hc e.1), if_neg (fun e : c = 100 ∧ j + 1 < i => hc e.1), if_neg (fun e : c = 100 ∧ j + 1 < i + 1 => hc e.1)]
theorem mlv_D (hD : md_D S n D) (hr : ab_row D = b :: r) : md_D (mm_uM (md_lv S (r.length + 1)) 92 8 (nI r.length)) n (r, D.2) := by
  obtain ⟨h1, h2, h3, h4, h5, h6, h7, h8⟩ := hD
  have g : ∀ c j, c ≠ 100 → (c = 92 → j ≠ 8) → mm_M (mm_uM (md_lv S (r.length + 1)) 92 8 (nI r.length)) c j = mm_M S c j := fun c j hc hj => by
    rw [hp_MuM, if_neg (fun e => hj e.1 e.2), mlv_n hc]
  refine ⟨uM_s, fun p hp => ?_, fun b hb => (g _ _ (by decide) (by omega)).trans (h3 b hb), fun b hb => (g _ _ (by decide) (by omega)).trans (h4 b hb), (g _ _ (by decide) (by decide)).trans h5, (g _ _ (by decide) (by decide)).trans h6, (g _ _ (by decide) (by decide)).trans h7, (g _ _ (by decide) (by decide)).trans h8⟩
  have hp : p < r.length := hp
  have h9 := h2 (p + 1) (by rw [hr]; exact Nat.succ_lt_succ hp)
  rw [hr] at h9
  rw [hp_MuM, if_neg (by omega), mlv_6 (by omega)]
  exact h9
end MT
end
section
/-! ===== what the head does, the day to its end, in the reference ===== -/
section ME
variable {S T U : mm_S} {b k n i d h w L c j : Nat} {P : ab_P} {D : ab_D} {x : Int32} {r : List Nat}
/-- what is left: L is the state with the head gone -/
def md_t1 (L : mm_S) (b : Nat) (P : ab_P) (D : ab_D) : mm_S := mm_uM (mm_uM (mm_uM (mm_uM (mm_uM (mm_uM L 92 13 (ab_tu D + nI 1)) 92 12 (ab_ti D + nI (ab_pr D))) 92 11 (nI (ab_lo D) - nI 1)) 98 b (ab_ga D b + (nI (ab_val P D b) - nI (ab_pr D)))) 92 10 (nI (min 999 (ab_pr D + ab_up P)))) 92 42 (mm_M L 92 42 ||| (nI 1 <<< (nI b &&& 31)))
def md_t2 (L : mm_S) (b : Nat) (P : ab_P) (D : ab_D) : mm_S := mm_uM (mm_uM (mm_uM (mm_uM (mm_uM L 92 13 (ab_tu D + nI 1)) 92 12 (ab_ti D + nI (ab_fe P))) 98 b (ab_ga D b - (nI (ab_cost P D b) + nI (ab_fe P)))) 92 10 (nI (if ab_down P = 0 then ab_pr D / 2 else ab_down P))) 92 43 (mm_M L 92 43 + nI 1)
def md_t3 (L : mm_S) (b n : Nat) (D : ab_D) : mm_S := mm_uM (mm_uM (mm_uM (mm_uM L 92 13 (ab_tu D + nI 1)) 100 n (nI b)) 92 8 (nI (n + 1))) 97 b (nI (ab_aw D b + 1))
theorem s169_go (hA : md_A S P D) (hr : ab_row D = b :: r) {act : Nat} (hact : act = 1 ∨ act = 2 ∨ act = 3) : ∃ U, md_q S U ∧ mm_cl (d + 5) 169 [.ref 92, .int (nI act)] S = some (none, if act = 1 then md_t1 (mm_uM (md_lv U (r.length + 1)) 92 8 (nI r.length)) b P D else if act = 2 then md_t2 (mm_uM (md_lv U (r.length + 1)) 92 8 (nI r.length)) b P D else md_t3 (mm_uM (md_lv U (r.length + 1)) 92 8 (nI r.length)) b r.length D) := by
  have hw := hA.1
  have oP := hA.2.2.2.1
  have oD := hA.2.2.2.2
  have hb : b < ab_kn P := oD.2.1 b (by rw [hr]; exact List.mem_cons_self)
  have hb6 := Nat.lt_of_lt_of_le hb oP.1
  have hlen := row_le oP oD
  rw [hr, List.length_cons] at hlen
  have hh := hA.2.2.1.2.1 0 (by rw [hr]; exact Nat.succ_pos _)
  rw [hr] at hh
  have hh : mm_M S 100 0 = nI b := hh
  obtain ⟨T, g1, g2⟩ := s156 (d := d) hA hb
  have AT := mq_A g2 hA
  obtain ⟨U, g3, g4⟩ := s157 (d := d) AT hb
  have AU := mq_A g4 AT
  have qU := mq_tr g2 g4
  refine ⟨U, qU, ?_⟩
  have wU := AU.1
  have k1 := s158_5 (d := d + 4) AU
  have k2 := s158_2 (d := d + 4) AU
  have k3 := s158_3 (d := d + 4) AU
  have h8 : mm_M U 92 8 = nI (r.length + 1) := by have := AU.2.2.1.1; rw [hr] at this; exact this
  have hl := @s169_loop U (r.length + 1) (d + 5) wU h8 hlen (by omega) (nI act) (nI b) (nI (ab_val P D b)) (nI (ab_cost P D b)) (nI (ab_fe P)) (nI (ab_up P)) (nI (ab_down P)) r.length 1 (by omega) (Nat.le_refl _)
  rw [mlv_1] at hl
  have c0 : (nI 0).toNatClampNeg = 0 := nI_clamp (by decide)
  rw [e169, b169_0 (wf_o92 hw) (wf_s92_9 hw) (by rw [wf_g92_9 hw, wf_N100 hw]; exact hp_inb (by decide) (by decide)) (by rw [wf_g92_9 hw]; exact wf_a100 hw) (wf_k92 hw), wf_g92_9 hw, c0, hh, g1, hp_bd, hp_ts, b169_12 (wf_k92 AT.1), g3, hp_bd, hp_ts, b169_18 (wf_k92 wU), k1, hp_bd, hp_ts, b169_25 (wf_k92 wU), k2, hp_bd, hp_ts, b169_32 (wf_k92 wU), k3, hp_bd, hp_ts, b169_39, hl]
  have hu := ab_up_lt oP
  have hdn := ab_down_lt oP
  have hpr := oD.2.2.2.1
  have hL := mlv_D AU.2.2.1 hr
  have wl : mm_W (md_lv U (r.length + 1)) := wU
  have h8l : mm_M (md_lv U (r.length + 1)) 92 8 = nI (r.length + 1) := (mlv_n (by decide)).trans h8
  have hs8 : nI (r.length + 1) - nI 1 = nI r.length := by rw [pk_sub (by omega)]; congr 1
  rw [b169_75 (wf_o92 wl), h8l, hs8]
  generalize hLL : mm_uM (md_lv U (r.length + 1)) 92 8 (nI r.length) = L at *
  have wL : mm_W L := by rw [← hLL]; exact wU
  obtain ⟨l8, l100, l97, l98, l10, l11, l12, l13⟩ := hL
  have l97 := l97 b hb
  have l98 := l98 b hb
  have l8 : mm_M L 92 8 = nI r.length := l8
  have l10 : mm_M L 92 10 = nI (ab_pr D) := l10
  have l11 : mm_M L 92 11 = nI (ab_lo D) := l11
  have l12 : mm_M L 92 12 = ab_ti D := l12
  have l13 : mm_M L 92 13 = ab_tu D := l13
  have l97 : mm_M L 97 b = nI (ab_aw D b) := l97
  have l98 : mm_M L 98 b = ab_ga D b := l98
  have hbc : (nI b).toNatClampNeg = b := nI_clamp (by omega)
  have hbi : mm_inb (nI b) 6 = true := hp_inb hb6 (by omega)
  have hrc : (nI r.length).toNatClampNeg = r.length := nI_clamp (by omega)
  have hri : mm_inb (nI r.length) 6 = true := hp_inb (by omega) (by omega)
  have hdiv : nI (ab_pr D) / nI 2 = nI (ab_pr D / 2) := pk_div (by omega) (by decide) (by decide)
  have hcd0 : (nI (ab_down P) = nI 0) = (ab_down P = 0) := propext (nI_eq (by omega) (by decide))
  have n13 : ¬ nI 1 = nI 3 := by decide
  have n23 : ¬ nI 2 = nI 3 := by decide
  have n21 : ¬ nI 2 = nI 1 := by decide
  rcases hact with rfl | rfl | rfl
  · rw [if_pos rfl]
    have hle : (nI (ab_pr D + ab_up P) ≤ nI 999) = (ab_pr D + ab_up P ≤ 999) := propext (nI_leI (by omega) (by decide))
    simp only [b169_87, b169_100, b169_112, b169_126, b169_133, b169_138, b169_153, b169_167, b169_178, b169_190, b169_196, b169_208, b169_221, b169_238, b169_252, b169_261, b169_268, e169, hp_MuM, hp_LuL, hp_RuR, hp_McpM, hp_LcpL, hp_LuM, hp_RuM, hp_KuM, hp_NuM, hp_nuM, hp_zuM, hp_ouM, hp_auM, hp_kuM, hp_guM, hp_MuL, hp_RuL, hp_KuL, hp_NuL, hp_nuL, hp_zuL, hp_ouL, hp_auL, hp_kuL, hp_guL, hp_MuR, hp_LuR, hp_KuR, hp_NuR, hp_nuR, hp_zuR, hp_ouR, hp_auR, hp_kuR, hp_LcpM, hp_RcpM, hp_KcpM, hp_NcpM, hp_ncpM, hp_zcpM, hp_ocpM, hp_acpM, hp_kcpM, hp_gcpM, hp_McpL, hp_RcpL, hp_KcpL, hp_NcpL, hp_ncpL, hp_zcpL, hp_ocpL, hp_acpL, hp_kcpL, hp_gcpL, hp_MwM, hp_LwM, hp_RwM, hp_KwM, hp_NwM, hp_nwM, hp_zwM, hp_owM, hp_awM, hp_kwM, hp_gwM, hp_MwR, hp_LwR, hp_RwR, hp_KwR, hp_NwR, hp_nwR, hp_zwR, hp_owR, hp_awR, hp_kwR, hp_MwL, hp_LwL, hp_RwL, hp_KwL, hp_NwL, hp_nwL, hp_zwL, hp_owL, hp_awL, hp_kwL, hp_gwL, hp_w2M, hp_w2R, hp_w2L, wf_o92 wL, wf_g92_5 wL, wf_s92_5 wL, wf_N97 wL, wf_a97 wL, wf_g92_6 wL, wf_s92_6 wL, wf_N98 wL, wf_a98 wL, wf_g92_9 wL, wf_s92_9 wL, wf_N100 wL, wf_a100 wL, List.not_mem_nil, false_implies, implies_true, nI_clamp, nI_add, Nat.reducePow, hp_bd, hp_bdi, hp_ts, hp_tn, hp_tsc, hp_tnc, Nat.reduceAdd, Nat.reduceSub, Nat.reduceMul, Nat.reduceLT, Nat.reduceLeDiff, Nat.reduceEqDiff, reduceIte, not_true_eq_false, not_false_eq_true, and_true, true_and, and_self, and_false, false_and, or_true, true_or, or_false, false_or, decide_true, decide_false, Bool.and_true, Bool.true_and, Bool.not_false, Bool.or_false, Bool.false_or, Bool.or_true, Bool.true_or, l10, l11, l12, l13, l98, hbc, hbi, n13, hle]
    unfold md_t1
    by_cases g : ab_pr D + ab_up P ≤ 999
    · rw [if_pos g, Nat.min_eq_right g]
    · rw [if_neg g, Nat.min_eq_left (by omega)]
  · rw [if_neg (by decide), if_pos rfl]
    simp only [b169_87, b169_100, b169_112, b169_126, b169_133, b169_138, b169_153, b169_167, b169_178, b169_190, b169_196, b169_208, b169_221, b169_238, b169_252, b169_261, b169_268, e169, hp_MuM, hp_LuL, hp_RuR, hp_McpM, hp_LcpL, hp_LuM, hp_RuM, hp_KuM, hp_NuM, hp_nuM, hp_zuM, hp_ouM, hp_auM, hp_kuM, hp_guM, hp_MuL, hp_RuL, hp_KuL, hp_NuL, hp_nuL, hp_zuL, hp_ouL, hp_auL, hp_kuL, hp_guL, hp_MuR, hp_LuR, hp_KuR, hp_NuR, hp_nuR, hp_zuR, hp_ouR, hp_auR, hp_kuR, hp_LcpM, hp_RcpM, hp_KcpM, hp_NcpM, hp_ncpM, hp_zcpM, hp_ocpM, hp_acpM, hp_kcpM, hp_gcpM, hp_McpL, hp_RcpL, hp_KcpL, hp_NcpL, hp_ncpL, hp_zcpL, hp_ocpL, hp_acpL, hp_kcpL, hp_gcpL, hp_MwM, hp_LwM, hp_RwM, hp_KwM, hp_NwM, hp_nwM, hp_zwM, hp_owM, hp_awM, hp_kwM, hp_gwM, hp_MwR, hp_LwR, hp_RwR, hp_KwR, hp_NwR, hp_nwR, hp_zwR, hp_owR, hp_awR, hp_kwR, hp_MwL, hp_LwL, hp_RwL, hp_KwL, hp_NwL, hp_nwL, hp_zwL, hp_owL, hp_awL, hp_kwL, hp_gwL, hp_w2M, hp_w2R, hp_w2L, wf_o92 wL, wf_g92_5 wL, wf_s92_5 wL, wf_N97 wL, wf_a97 wL, wf_g92_6 wL, wf_s92_6 wL, wf_N98 wL, wf_a98 wL, wf_g92_9 wL, wf_s92_9 wL, wf_N100 wL, wf_a100 wL, List.not_mem_nil, false_implies, implies_true, nI_clamp, nI_add, Nat.reducePow, hp_bd, hp_bdi, hp_ts, hp_tn, hp_tsc, hp_tnc, Nat.reduceAdd, Nat.reduceSub, Nat.reduceMul, Nat.reduceLT, Nat.reduceLeDiff, Nat.reduceEqDiff, reduceIte, not_true_eq_false, not_false_eq_true, and_true, true_and, and_self, and_false, false_and, or_true, true_or, or_false, false_or, decide_true, decide_false, Bool.and_true, Bool.true_and, Bool.not_false, Bool.or_false, Bool.false_or, Bool.or_true, Bool.true_or, l10, l11, l12, l13, l98, hbc, hbi, n23, n21, hcd0, hdiv]
    unfold md_t2
    rw [nI_add]
    by_cases g : ab_down P = 0
    · rw [if_pos g, if_pos g]
    · rw [if_neg g, if_neg g]
  · rw [if_neg (by decide), if_neg (by decide)]
    simp only [b169_87, b169_100, b169_112, b169_126, b169_133, b169_138, b169_153, b169_167, b169_178, b169_190, b169_196, b169_208, b169_221, b169_238, b169_252, b169_261, b169_268, e169, hp_MuM, hp_LuL, hp_RuR, hp_McpM, hp_LcpL, hp_LuM, hp_RuM, hp_KuM, hp_NuM, hp_nuM, hp_zuM, hp_ouM, hp_auM, hp_kuM, hp_guM, hp_MuL, hp_RuL, hp_KuL, hp_NuL, hp_nuL, hp_zuL, hp_ouL, hp_auL, hp_kuL, hp_guL, hp_MuR, hp_LuR, hp_KuR, hp_NuR, hp_nuR, hp_zuR, hp_ouR, hp_auR, hp_kuR, hp_LcpM, hp_RcpM, hp_KcpM, hp_NcpM, hp_ncpM, hp_zcpM, hp_ocpM, hp_acpM, hp_kcpM, hp_gcpM, hp_McpL, hp_RcpL, hp_KcpL, hp_NcpL, hp_ncpL, hp_zcpL, hp_ocpL, hp_acpL, hp_kcpL, hp_gcpL, hp_MwM, hp_LwM, hp_RwM, hp_KwM, hp_NwM, hp_nwM, hp_zwM, hp_owM, hp_awM, hp_kwM, hp_gwM, hp_MwR, hp_LwR, hp_RwR, hp_KwR, hp_NwR, hp_nwR, hp_zwR, hp_owR, hp_awR, hp_kwR, hp_MwL, hp_LwL, hp_RwL, hp_KwL, hp_NwL, hp_nwL, hp_zwL, hp_owL, hp_awL, hp_kwL, hp_gwL, hp_w2M, hp_w2R, hp_w2L, wf_o92 wL, wf_g92_5 wL, wf_s92_5 wL, wf_N97 wL, wf_a97 wL, wf_g92_6 wL, wf_s92_6 wL, wf_N98 wL, wf_a98 wL, wf_g92_9 wL, wf_s92_9 wL, wf_N100 wL, wf_a100 wL, List.not_mem_nil, false_implies, implies_true, nI_clamp, nI_add, Nat.reducePow, hp_bd, hp_bdi, hp_ts, hp_tn, hp_tsc, hp_tnc, Nat.reduceAdd, Nat.reduceSub, Nat.reduceMul, Nat.reduceLT, Nat.reduceLeDiff, Nat.reduceEqDiff, reduceIte, not_true_eq_false, not_false_eq_true, and_true, true_and, and_self, and_false, false_and, or_true, true_or, or_false, false_or, decide_true, decide_false, Bool.and_true, Bool.true_and, Bool.not_false, Bool.or_false, Bool.false_or, Bool.or_true, Bool.true_or, l8, l10, l11, l12, l13, l97, hbc, hbi, hrc, hri]
    rfl
theorem mt1_D (hD : md_D T c (r, D.2)) (hlo : 0 < ab_lo D) : md_fr T (md_t1 T b P D) ∧ md_D (md_t1 T b P D) c (ab_do P D b r 1) ∧ mm_M (md_t1 T b P D) 92 42 = mm_M T 92 42 ||| (nI 1 <<< (nI b &&& 31)) ∧ mm_M (md_t1 T b P D) 92 43 = mm_M T 92 43 := by
  obtain ⟨h1, h2, h3, h4, h5, h6, h7, h8⟩ := hD
  have f : ∀ j, j = 8 ∨ (10 ≤ j ∧ j ≤ 13) ∨ j = 42 ∨ j = 43 → md_dc 92 j := fun j h => Or.inr (Or.inr (Or.inr (Or.inr ⟨rfl, h⟩)))
  have f98 : ∀ j, md_dc 98 j := fun j => Or.inr (Or.inr (Or.inr (Or.inl rfl)))
  refine ⟨mf_w (mf_w (mf_w (mf_w (mf_w (mf_w mf_rf (f 13 (by decide))) (f 12 (by decide))) (f 11 (by decide))) (f98 _)) (f 10 (by decide))) (f 42 (by decide)), ?_, ?_, ?_⟩
  · unfold ab_do md_t1
    rw [if_pos rfl]
    refine ⟨?_, fun p hp => ?_, fun x hx => ?_, fun x hx => ?_, ?_, ?_, ?_, ?_⟩
    · simp only [hp_MuM, Nat.reduceEqDiff, false_and, and_false, if_false, true_and, and_true, if_true]; exact h1
    · simp only [hp_MuM, Nat.reduceEqDiff, false_and, if_false]; exact h2 p hp
    · simp only [hp_MuM, Nat.reduceEqDiff, false_and, if_false]; exact h3 x hx
    · simp only [hp_MuM, Nat.reduceEqDiff, false_and, if_false, true_and]
      show (if x = b then _ else _) = (if x = b then _ else _)
      by_cases e : x = b
      · rw [if_pos e, if_pos e]
      · rw [if_neg e, if_neg e]; exact h4 x hx
    · simp only [hp_MuM, Nat.reduceEqDiff, false_and, and_false, if_false, true_and, and_true, if_true]; rfl
    · simp only [hp_MuM, Nat.reduceEqDiff, false_and, and_false, if_false, true_and, and_true, if_true]; exact pk_sub hlo
    · simp only [hp_MuM, Nat.reduceEqDiff, false_and, and_false, if_false, true_and, and_true, if_true]; rfl
    · simp only [hp_MuM, Nat.reduceEqDiff, false_and, and_false, if_false, true_and, and_true, if_true]; rfl
  · unfold md_t1; simp only [hp_MuM, and_self, if_true]
  · unfold md_t1; simp only [hp_MuM, Nat.reduceEqDiff, false_and, and_false, if_false]
theorem mt2_D (hD : md_D T c (r, D.2)) : md_fr T (md_t2 T b P D) ∧ md_D (md_t2 T b P D) c (ab_do P D b r 2) ∧ mm_M (md_t2 T b P D) 92 42 = mm_M T 92 42 ∧ mm_M (md_t2 T b P D) 92 43 = mm_M T 92 43 + nI 1 := by
  obtain ⟨h1, h2, h3, h4, h5, h6, h7, h8⟩ := hD
  have f : ∀ j, j = 8 ∨ (10 ≤ j ∧ j ≤ 13) ∨ j = 42 ∨ j = 43 → md_dc 92 j := fun j h => Or.inr (Or.inr (Or.inr (Or.inr ⟨rfl, h⟩)))
  have f98 : ∀ j, md_dc 98 j := fun j => Or.inr (Or.inr (Or.inr (Or.inl rfl)))
  refine ⟨mf_w (mf_w (mf_w (mf_w (mf_w mf_rf (f 13 (by decide))) (f 12 (by decide))) (f98 _)) (f 10 (by decide))) (f 43 (by decide)), ?_, ?_, ?_⟩
  · unfold ab_do md_t2
    rw [if_neg (by decide : ¬ 2 = 1), if_pos rfl]
    refine ⟨?_, fun p hp => ?_, fun x hx => ?_, fun x hx => ?_, ?_, ?_, ?_, ?_⟩
    · simp only [hp_MuM, Nat.reduceEqDiff, false_and, and_false, if_false, true_and, and_true, if_true]; exact h1
    · simp only [hp_MuM, Nat.reduceEqDiff, false_and, if_false]; exact h2 p hp
    · simp only [hp_MuM, Nat.reduceEqDiff, false_and, if_false]; exact h3 x hx
    · simp only [hp_MuM, Nat.reduceEqDiff, false_and, if_false, true_and]
      show (if x = b then _ else _) = (if x = b then _ else _)
      by_cases e : x = b
      · rw [if_pos e, if_pos e]
      · rw [if_neg e, if_neg e]; exact h4 x hx
    · simp only [hp_MuM, Nat.reduceEqDiff, false_and, and_false, if_false, true_and, and_true, if_true]; rfl
    · simp only [hp_MuM, Nat.reduceEqDiff, false_and, and_false, if_false, true_and, and_true, if_true]; exact h6
    · simp only [hp_MuM, Nat.reduceEqDiff, false_and, and_false, if_false, true_and, and_true, if_true]; rfl
    · simp only [hp_MuM, Nat.reduceEqDiff, false_and, and_false, if_false, true_and, and_true, if_true]; rfl
  · unfold md_t2; simp only [hp_MuM, Nat.reduceEqDiff, false_and, and_false, if_false]
  · unfold md_t2; simp only [hp_MuM, and_self, if_true]
theorem mt3_D (hD : md_D T c (r, D.2)) : md_fr T (md_t3 T b r.length D) ∧ md_D (md_t3 T b r.length D) c (ab_do P D b r 3) ∧ mm_M (md_t3 T b r.length D) 92 42 = mm_M T 92 42 ∧ mm_M (md_t3 T b r.length D) 92 43 = mm_M T 92 43 := by
  obtain ⟨h1, h2, h3, h4, h5, h6, h7, h8⟩ := hD
  have f : ∀ j, j = 8 ∨ (10 ≤ j ∧ j ≤ 13) ∨ j = 42 ∨ j = 43 → md_dc 92 j := fun j h => Or.inr (Or.inr (Or.inr (Or.inr ⟨rfl, h⟩)))
  refine ⟨mf_w (mf_w (mf_w (mf_w mf_rf (f 13 (by decide))) (Or.inr (Or.inl rfl))) (f 8 (by decide))) (Or.inr (Or.inr (Or.inl rfl))), ?_, ?_, ?_⟩
  · unfold ab_do md_t3
    rw [if_neg (by decide : ¬ 3 = 1), if_neg (by decide : ¬ 3 = 2)]
    refine ⟨?_, fun p hp => ?_, fun x hx => ?_, fun x hx => ?_, ?_, ?_, ?_, ?_⟩
    · simp only [hp_MuM, Nat.reduceEqDiff, false_and, and_false, if_false, true_and, and_true, if_true]
      show _ = nI (r ++ [b]).length
      rw [List.length_append]; rfl
    · have hp : p < (r ++ [b]).length := hp
      rw [List.length_append] at hp
      simp only [hp_MuM, Nat.reduceEqDiff, false_and, if_false, true_and]
      show _ = nI ((r ++ [b]).getD p 0)
      by_cases e : p = r.length
      · rw [if_pos e, e, List.getD_eq_getElem?_getD, List.getElem?_append_right (Nat.le_refl _), Nat.sub_self]; rfl
      · have hp2 : p < r.length := by
          have : [b].length = 1 := rfl
          omega
        rw [if_neg e, List.getD_eq_getElem?_getD, List.getElem?_append_left hp2, ← List.getD_eq_getElem?_getD]
        exact h2 p hp2
    · simp only [hp_MuM, Nat.reduceEqDiff, false_and, if_false, true_and]
      show (if x = b then _ else _) = nI (if x = b then _ else _)
      by_cases e : x = b
      · rw [if_pos e, if_pos e]
      · rw [if_neg e, if_neg e]; exact h3 x hx
    · simp only [hp_MuM, Nat.reduceEqDiff, false_and, if_false]; exact h4 x hx
    · simp only [hp_MuM, Nat.reduceEqDiff, false_and, and_false, if_false, true_and, and_true, if_true]; exact h5
    · simp only [hp_MuM, Nat.reduceEqDiff, false_and, and_false, if_false, true_and, and_true, if_true]; exact h6
    · simp only [hp_MuM, Nat.reduceEqDiff, false_and, and_false, if_false, true_and, and_true, if_true]; exact h7
    · simp only [hp_MuM, Nat.reduceEqDiff, false_and, and_false, if_false, true_and, and_true, if_true]; rfl
  · unfold md_t3; simp only [hp_MuM, Nat.reduceEqDiff, false_and, and_false, if_false]
  · unfold md_t3; simp only [hp_MuM, Nat.reduceEqDiff, false_and, and_false, if_false]
theorem s169 (hA : md_A S P D) (hr : ab_row D = b :: r) {act : Nat} (hact : act = 1 ∨ act = 2 ∨ act = 3) (hlo : 0 < ab_lo D) (hm : act = 3 → ab_may P D b = true) : ∃ T, mm_cl (d + 5) 169 [.ref 92, .int (nI act)] S = some (none, T) ∧ md_fr S T ∧ md_A T P (ab_do P D b r act) ∧ mm_M T 92 42 = (if act = 1 then mm_M S 92 42 ||| (nI 1 <<< (nI b &&& 31)) else mm_M S 92 42) ∧ mm_M T 92 43 = (if act = 2 then mm_M S 92 43 + nI 1 else mm_M S 92 43) := by
  obtain ⟨U, q, h⟩ := s169_go (d := d) hA hr hact
  have AU := mq_A q hA
  have hL := mlv_D AU.2.2.1 hr
  have fL : md_fr S (mm_uM (md_lv U (r.length + 1)) 92 8 (nI r.length)) := mf_w (mf_tr (mf_q q) mlv_fr) (Or.inr (Or.inr (Or.inr (Or.inr ⟨rfl, Or.inl rfl⟩))))
  have e42 : mm_M (mm_uM (md_lv U (r.length + 1)) 92 8 (nI r.length)) 92 42 = mm_M S 92 42 := (uM_k (by decide)).trans ((mlv_n (by decide)).trans (q.2 _ _ (by decide)))
  have e43 : mm_M (mm_uM (md_lv U (r.length + 1)) 92 8 (nI r.length)) 92 43 = mm_M S 92 43 := (uM_k (by decide)).trans ((mlv_n (by decide)).trans (q.2 _ _ (by decide)))
  have ok := (ab_do_kn (act := act) hA.2.2.2.1 hA.2.2.2.2 hr (fun h1 h2 => hm (by omega))).1
  refine ⟨_, h, ?_⟩
  rcases hact with rfl | rfl | rfl
  · simp only [if_true]
    obtain ⟨k1, k2, k3, k4⟩ := mt1_D (b := b) (P := P) hL hlo
    have f := mf_tr fL k1
    exact ⟨f, ⟨mf_W f hA.1, mf_P f hA.2.1, k2, hA.2.2.2.1, ok⟩, by rw [k3, e42], by rw [k4, e43, if_neg (by decide)]⟩
  · simp only [if_true, if_neg (by decide : ¬ 2 = 1)]
    obtain ⟨k1, k2, k3, k4⟩ := mt2_D (b := b) (P := P) hL
    have f := mf_tr fL k1
    exact ⟨f, ⟨mf_W f hA.1, mf_P f hA.2.1, k2, hA.2.2.2.1, ok⟩, by rw [k3, e42], by rw [k4, e43]⟩
  · simp only [if_neg (by decide : ¬ 3 = 1), if_neg (by decide : ¬ 3 = 2)]
    obtain ⟨k1, k2, k3, k4⟩ := mt3_D (b := b) (P := P) hL
    have f := mf_tr fL k1
    exact ⟨f, ⟨mf_W f hA.1, mf_P f hA.2.1, k2, hA.2.2.2.1, ok⟩, by rw [k3, e42], by rw [k4, e43]⟩
end ME
end
section
/-! ===== the day to its end, in the reference ===== -/
def ab_bits (l : List (Nat × Nat)) (x : Int32) : Int32 := l.foldl (fun x e => if e.2 = 1 then x ||| (nI 1 <<< (nI e.1 &&& 31)) else x) x
def ab_refs (l : List (Nat × Nat)) (x : Int32) : Int32 := l.foldl (fun x e => if e.2 = 2 then x + nI 1 else x) x
section MF
variable {S T U : mm_S} {b k n i d h w L c j : Nat} {P : ab_P} {D : ab_D} {x : Int32} {r : List Nat}
theorem s168w (hA : md_A S P D) : mm_cl d 168 [.ref 92] S = some (some (.int (if ab_com D = true then nI 1 else nI 0)), S) := by
  have hl := row_le hA.2.2.2.1 hA.2.2.2.2
  have h9 := hA.2.2.2.2.2.2.2.2
  rw [s168 hA.1, hA.2.2.1.1, hA.2.2.1.2.2.2.2.2.1]
  unfold ab_com
  congr 3
  have e1 : (nI (ab_row D).length ≤ nI 0) = ¬ (0 < (ab_row D).length) := propext ((nI_leI (by omega) (by decide)).trans (by omega))
  have e2 : (nI (ab_lo D) ≤ nI 0) = ¬ (0 < ab_lo D) := propext ((nI_leI (by omega) (by decide)).trans (by omega))
  simp only [e1, e2]
  by_cases h1 : 0 < (ab_row D).length <;> by_cases h2 : 0 < ab_lo D <;> simp [h1, h2]
/-- the head's turn, with what it does by its kind -/
theorem s169t (hA : md_A S P D) (hc : ab_com D = true) : ∃ b r U T, ab_row D = b :: r ∧ mm_M S 100 0 = nI b ∧ mm_cl (d + 8) 166 [.ref 92, .int (nI b)] S = some (some (.int (nI (ab_ha P D))), U) ∧ md_q S U ∧ mm_cl (d + 8) 169 [.ref 92, .int (nI (ab_ha P D))] U = some (none, T) ∧ md_fr S T ∧ md_A T P (ab_turn P D) ∧ mm_M T 92 42 = ab_bits [((ab_row D).headD 0, ab_ha P D)] (mm_M S 92 42) ∧ mm_M T 92 43 = ab_refs [((ab_row D).headD 0, ab_ha P D)] (mm_M S 92 43) := by
  obtain ⟨b, r, hr, hlo⟩ := com_row hc
  have hw := hA.1
  have hb : b < ab_kn P := hA.2.2.2.2.2.1 b (by rw [hr]; exact List.mem_cons_self)
  have hh := hA.2.2.1.2.1 0 (by rw [hr]; exact Nat.succ_pos _)
  rw [hr] at hh
  have hh : mm_M S 100 0 = nI b := hh
  have hmem : b ∈ ab_row D := by rw [hr]; exact List.mem_cons_self
  have eo : ab_oth D b = (ab_row D).length - 1 := if_pos hmem
  have eha : ab_ha P D = ab_act P D b ((ab_row D).length - 1) := by unfold ab_ha; rw [hr]; rfl
  have etu : ab_turn P D = ab_do P D b r (ab_ha P D) := by unfold ab_turn ab_does; rw [hr]
  have ok := @ab_act_ok P D b ((ab_row D).length - 1) hA.2.2.2.1 hA.2.2.2.2 hb
  have h3 := act_123 (o := (ab_row D).length - 1) hA.2.2.2.1 hA.2.2.2.2 hb
  obtain ⟨U, g1, g2⟩ := s166 (d := d) hA hb
  rw [eo, ← eha] at g1
  rw [← eha] at ok h3
  obtain ⟨T, g3, g4, g5, g6, g7⟩ := s169 (d := d + 3) (mq_A g2 hA) hr h3 hlo ok.2.2
  have q42 : mm_M U 92 42 = mm_M S 92 42 := g2.2 _ _ (by decide)
  have q43 : mm_M U 92 43 = mm_M S 92 43 := g2.2 _ _ (by decide)
  refine ⟨b, r, U, T, hr, hh, g1, g2, g3, mf_tr (mf_q g2) g4, by rw [etu]; exact g5, ?_, ?_⟩
  · rw [g6, q42, hr]; rfl
  · rw [g7, q43, hr]; rfl
theorem s173_loop : ∀ (k : Nat) (S : mm_S) (D : ab_D), md_A S P D → ab_mea D ≤ k → ∃ T, mm_ex (d + 9) 173 0 [.ref 92] [] S = some (none, T) ∧ md_fr S T ∧ md_A T P (ab_end P k D) ∧ mm_M T 92 42 = ab_bits (ab_log P k D) (mm_M S 92 42) ∧ mm_M T 92 43 = ab_refs (ab_log P k D) (mm_M S 92 43) := by
  intro k
  induction k with
  | zero =>
    intro S D hA hm
    have hc : ab_com D = false := by
      cases hc : ab_com D with
      | false => rfl
      | true => have := (ab_turn_ok hA.2.2.2.1 hA.2.2.2.2 hc).2; omega
    exact ⟨S, by rw [b173_0 (wf_k92 hA.1), s168w hA, hp_bd, hp_ts, b173_4, hc, if_pos (by decide), b173_24], mf_rf, hA, rfl, rfl⟩
  | succ k ih =>
    intro S D hA hm
    cases hc : ab_com D with
    | false =>
      refine ⟨S, by rw [b173_0 (wf_k92 hA.1), s168w hA, hp_bd, hp_ts, b173_4, hc, if_pos (by decide), b173_24], mf_rf, ?_, ?_, ?_⟩
      · unfold ab_end; rw [hc]; exact hA
      · unfold ab_log; rw [hc]; rfl
      · unfold ab_log; rw [hc]; rfl
    | true =>
      have hw := hA.1
      have ht := ab_turn_ok hA.2.2.2.1 hA.2.2.2.2 hc
      obtain ⟨b, r, U, T1, hr, hh, g1, g2, g3, g4, g5, g6, g7⟩ := s169t (d := d) hA hc
      obtain ⟨T2, f1, f2, f3, f4, f5⟩ := ih T1 (ab_turn P D) g5 (by omega)
      have wU := mq_W g2 hw
      have c0 : (nI 0).toNatClampNeg = 0 := nI_clamp (by decide)
      refine ⟨T2, ?_, mf_tr g4 f2, ?_, ?_, ?_⟩
      · rw [b173_0 (wf_k92 hw), s168w hA, hp_bd, hp_ts, b173_4, hc, if_neg (by decide), b173_7 (wf_o92 hw) (wf_s92_9 hw) (by rw [wf_g92_9 hw, wf_N100 hw]; exact hp_inb (by decide) (by decide)) (by rw [wf_g92_9 hw]; exact wf_a100 hw) (wf_k92 hw), wf_g92_9 hw, c0, hh, g1, hp_bd, hp_tsc, b173_18 (wf_k92 wU), g3, hp_bd, hp_tn, b173_21, f1]
      · unfold ab_end; rw [hc, if_pos rfl]; exact f3
      · unfold ab_log; rw [hc, if_pos rfl, f4, g6]; rfl
      · unfold ab_log; rw [hc, if_pos rfl, f5, g7]; rfl
def ab_lgs (P : ab_P) (D : ab_D) : List (Nat × Nat) := ab_log P 60 D
theorem s173 (hA : md_A S P D) : ∃ T, mm_cl (d + 9) 173 [.ref 92] S = some (none, T) ∧ md_fr S T ∧ md_A T P (ab_fin P D) ∧ mm_M T 92 42 = ab_bits (ab_lgs P D) (mm_M S 92 42) ∧ mm_M T 92 43 = ab_refs (ab_lgs P D) (mm_M S 92 43) := by
  obtain ⟨T, g⟩ := s173_loop (d := d) 60 S D hA (ab_mea_le hA.2.2.2.1.1 hA.2.2.2.2)
  exact ⟨T, by rw [e173, g.1], g.2⟩
theorem s174_loop (hA : md_A S P D) : ∀ k i : Nat, i + k = ab_kn P → mm_ex d 174 4 [.ref 92, .int (ab_all i (ab_ga D)), .int (nI i)] [] S = some (some (.int (ab_all (ab_kn P) (ab_ga D))), S) := by
  have hw := hA.1
  have k6 := hA.2.2.2.1.1
  intro k
  induction k with
  | zero =>
    intro i hi
    have e : i = ab_kn P := by omega
    rw [b174_4 (wf_o92 hw), hA.2.1.1, if_pos (nI_le (by omega) (by omega)), b174_27, e]
  | succ k ih =>
    intro i hi
    rw [b174_4 (wf_o92 hw), hA.2.1.1, if_neg (nI_ge (by omega) (by omega)), b174_12 (wf_o92 hw) (wf_s92_6 hw) (by rw [wf_g92_6 hw, wf_N98 hw]; exact hp_inb (by omega) (by omega)) (by rw [wf_g92_6 hw]; exact wf_a98 hw), wf_g92_6 hw, nI_clamp (by omega), hA.2.2.1.2.2.2.1 i (by omega), nI_add, ← all_s, ih (i + 1) (by omega)]
theorem s174 (hA : md_A S P D) : mm_cl d 174 [.ref 92] S = some (some (.int (ab_all (ab_kn P) (ab_ga D))), S) := by
  rw [e174, b174_0, ← s174_loop (d := d) hA (ab_kn P) 0 (Nat.zero_add _)]
  rfl
end MF
end
