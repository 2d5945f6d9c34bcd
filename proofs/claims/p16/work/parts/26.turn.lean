/-! ===== turns in the class ===== -/
/-- the row of the day a with place k gone, as far as place i -/
def cd_lv (S : mm_S) (a n k i : Nat) : mm_S := mm_wM S (fun c j => if c = a ∧ j = 11 then nI (n - 1) else if c = a + 6 ∧ k ≤ j ∧ j < i then mm_M S (a + 6) (j + 1) else mm_M S c j)
section LV
variable {S T : mm_S} {a b d n k i c j e : Nat} {P : ab_P} {D : ab_D} {x : Int32} {r : List Nat}
theorem lv_fr : cd_fr a S (cd_lv S a n k i) := by
  refine ⟨rfl, fun c j h => ?_⟩
  show (if c = a ∧ j = 11 then _ else if c = a + 6 ∧ k ≤ j ∧ j < i then _ else mm_M S c j) = _
  have h1 : ¬ (c = a ∧ j = 11) := fun e => h (Or.inl ⟨e.1, by omega⟩)
  have h2 : ¬ (c = a + 6 ∧ k ≤ j ∧ j < i) := fun e => h (Or.inr (Or.inr (Or.inr (Or.inl e.1))))
  rw [if_neg h1, if_neg h2]
theorem s14_loop (hw : mm_W S) (ha : mm_dy a) (hk : k < n) (hn : n ≤ 6) : ∀ q i : Nat, i + q = n - 1 → k ≤ i → mm_ex d 14 25 [.ref a, .int (nI k), .int (nI i)] [] (cd_lv S a n k i) = some (none, cd_lv S a n k (n - 1)) := by
  intro q
  induction q with
  | zero =>
    intro i hi hki
    have hl : mm_M (cd_lv S a n k i) a 11 = nI (n - 1) := if_pos ⟨rfl, rfl⟩
    have e : i = n - 1 := by omega
    subst e
    rw [b14_25 (wd_o (fr_W lv_fr hw) ha), hl, if_pos (nI_le (Nat.le_refl _) (by omega)), b14_53]
  | succ q ih =>
    intro i hi hki
    have hl : mm_M (cd_lv S a n k i) a 11 = nI (n - 1) := if_pos ⟨rfl, rfl⟩
    have w := fr_W (lv_fr (S := S) (a := a) (n := n) (k := k) (i := i)) hw
    have e1 : mm_M (cd_lv S a n k i) (a + 6) (i + 1) = mm_M S (a + 6) (i + 1) := by
      show (if a + 6 = a ∧ i + 1 = 11 then _ else if a + 6 = a + 6 ∧ k ≤ i + 1 ∧ i + 1 < i then _ else _) = _
      rw [if_neg (by omega), if_neg (by omega)]
    rw [b14_25 (wd_o w ha), hl, if_neg (nI_ge (by omega) (by omega)), b14_33 (wd_o w ha) (wd_s5 w ha) (by rw [nI_add]; exact di_5 w ha (by omega)) (dx_5 w ha) (di_5 w ha (by omega)), nI_add, wd_g5 w ha, nI_clamp (by omega), nI_clamp (by omega), e1, ← ih (i + 1) (by omega) (by omega)]
    congr 1
    refine st_ext (fun c j => ?_) (fun _ _ => rfl) (fun _ _ => rfl) (fun _ => rfl) (fun _ => rfl) rfl rfl
    rw [hp_MuM]
    show (if c = a + 6 ∧ j = i then _ else if c = a ∧ j = 11 then _ else if c = a + 6 ∧ k ≤ j ∧ j < i then _ else _) = if c = a ∧ j = 11 then _ else if c = a + 6 ∧ k ≤ j ∧ j < i + 1 then _ else _
    by_cases h1 : c = a + 6
    · subst h1
      have h0 : ¬ (a + 6 = a ∧ j = 11) := by omega
      rw [if_neg h0, if_neg h0]
      by_cases h2 : j = i
      · subst h2
        rw [if_pos ⟨rfl, rfl⟩, if_pos ⟨rfl, hki, by omega⟩]
      · rw [if_neg (fun e => h2 e.2)]
        by_cases h3 : k ≤ j ∧ j < i
        · rw [if_pos ⟨rfl, h3⟩, if_pos ⟨rfl, h3.1, by omega⟩]
        · rw [if_neg (fun e => h3 e.2), if_neg (by omega)]
    · rw [if_neg (fun e => h1 e.1), if_neg (fun e : c = a + 6 ∧ k ≤ j ∧ j < i => h1 e.1), if_neg (fun e : c = a + 6 ∧ k ≤ j ∧ j < i + 1 => h1 e.1)]
theorem s14 (hw : mm_W S) (ha : mm_dy a) (hl : mm_M S a 11 = nI n) (hk : k < n) (hn : n ≤ 6) : mm_cl d 14 [.ref a, .int (nI k)] S = some (none, cd_lv S a n k (n - 1)) := by
  rw [e14, b14_0, if_neg (nI_n0 (by omega)), b14_4 (wd_o hw ha), hl, if_pos (nI_lt hk (by omega)), b14_13 (wd_o hw ha), hl, pk_sub (by omega), ← s14_loop (d := d) hw ha hk hn (n - 1 - k) k (by omega) (Nat.le_refl _)]
  congr 1
  refine st_ext (fun c j => ?_) (fun _ _ => rfl) (fun _ _ => rfl) (fun _ => rfl) (fun _ => rfl) rfl rfl
  rw [hp_MuM]
  show _ = if c = a ∧ j = 11 then _ else if c = a + 6 ∧ k ≤ j ∧ j < k then _ else _
  rw [if_neg (by omega : ¬ (c = a + 6 ∧ k ≤ j ∧ j < k))]
theorem s13 (hw : mm_W S) (ha : mm_dy a) (hl : mm_M S a 11 = nI n) (hn : n < 6) : mm_cl d 13 [.ref a, .int x] S = some (none, mm_uM (mm_uM S (a + 6) n x) a 11 (nI (n + 1))) := by
  have e1 : mm_M (mm_uM S (a + 6) n x) a 11 = nI n := by rw [hp_MuM, if_neg (by omega), hl]
  rw [e13, b13_0 (wd_o hw ha), hl, if_neg (nI_ge hn (by decide)), b13_9 (wd_o hw ha) (wd_s5 hw ha) (dx_5 hw ha) (by rw [hl]; exact di_5 hw ha hn), wd_g5 hw ha, hl, nI_clamp (by omega), b13_21 (S := mm_uM S (a + 6) n x) (wd_o hw ha) (wd_o hw ha), e1, nI_add]
theorem dc_a (h : (11 ≤ j ∧ j ≤ 15) ∨ j = 18 ∨ j = 19) : cd_dc a a j := Or.inl ⟨rfl, h⟩
theorem dc_4 : cd_dc a (a + 4) j := Or.inr (Or.inl rfl)
theorem dc_5 : cd_dc a (a + 5) j := Or.inr (Or.inr (Or.inl rfl))
theorem dc_6 : cd_dc a (a + 6) j := Or.inr (Or.inr (Or.inr (Or.inl rfl)))
theorem dc_8 : cd_dc a (a + 8) j := Or.inr (Or.inr (Or.inr (Or.inr rfl)))
/-- cells of a day apart -/
theorem uM_n {m m2 : Nat} (h : m ≠ m2) : mm_M (mm_uM S (a + m) k x) (a + m2) j = mm_M S (a + m2) j := by rw [hp_MuM, if_neg (by omega)]
theorem uM_n0 {m : Nat} (h : 0 < m) : mm_M (mm_uM S (a + m) k x) a j = mm_M S a j := by rw [hp_MuM, if_neg (by omega)]
theorem uM_0n {m : Nat} (h : 0 < m) : mm_M (mm_uM S a k x) (a + m) j = mm_M S (a + m) j := by rw [hp_MuM, if_neg (by omega)]
theorem uM_k {c : Nat} (h : j ≠ k) : mm_M (mm_uM S c k x) c j = mm_M S c j := by rw [hp_MuM, if_neg (fun e => h e.2)]
theorem uM_s {c : Nat} : mm_M (mm_uM S c k x) c k = x := by rw [hp_MuM, if_pos ⟨rfl, rfl⟩]
theorem lv_0 (h : j ≠ 11) : mm_M (cd_lv S a n k i) a j = mm_M S a j := by
  show (if a = a ∧ j = 11 then _ else if a = a + 6 ∧ k ≤ j ∧ j < i then _ else _) = _
  rw [if_neg (fun e => h e.2), if_neg (by omega)]
theorem lv_11 : mm_M (cd_lv S a n k i) a 11 = nI (n - 1) := if_pos ⟨rfl, rfl⟩
theorem lv_m {m : Nat} (h0 : 0 < m) (h : m ≠ 6) : mm_M (cd_lv S a n k i) (a + m) j = mm_M S (a + m) j := by
  show (if a + m = a ∧ j = 11 then _ else if a + m = a + 6 ∧ k ≤ j ∧ j < i then _ else _) = _
  rw [if_neg (by omega), if_neg (by omega)]
theorem lv_6 (h : k ≤ j) (h2 : j < i) : mm_M (cd_lv S a n k i) (a + 6) j = mm_M S (a + 6) (j + 1) := by
  show (if a + 6 = a ∧ j = 11 then _ else if a + 6 = a + 6 ∧ k ≤ j ∧ j < i then _ else _) = _
  rw [if_neg (by omega), if_pos ⟨rfl, h, h2⟩]
theorem lv_6b (h : j < k) : mm_M (cd_lv S a n k i) (a + 6) j = mm_M S (a + 6) j := by
  show (if a + 6 = a ∧ j = 11 then _ else if a + 6 = a + 6 ∧ k ≤ j ∧ j < i then _ else _) = _
  rw [if_neg (by omega), if_neg (by omega)]
/-- the head goes -/
theorem lv_D (hD : cd_D S a c D) (hr : ab_row D = b :: r) : cd_D (cd_lv S a (r.length + 1) 0 r.length) a c (r, D.2) := by
  obtain ⟨h1, h2, h3, h4, h5, h6, h7, h8⟩ := hD
  refine ⟨lv_11, fun p hp => ?_, fun b hb => (lv_m (by decide) (by decide)).trans (h3 b hb), fun b hb => (lv_m (by decide) (by decide)).trans (h4 b hb), (lv_0 (by decide)).trans h5, (lv_0 (by decide)).trans h6, (lv_0 (by decide)).trans h7, (lv_0 (by decide)).trans h8⟩
  have hp : p < r.length := hp
  have h9 := h2 (p + 1) (by rw [hr]; exact Nat.succ_lt_succ hp)
  rw [hr] at h9
  exact (lv_6 (Nat.zero_le _) hp).trans h9
theorem min_if {u v : Nat} (hu : u < 2 ^ 30) (hv : v < 2 ^ 30) : (if nI u < nI v then nI u else nI v) = nI (min v u) := by
  by_cases h : u < v
  · rw [if_pos (nI_lt h (by omega)), Nat.min_eq_right (by omega)]
  · rw [if_neg (nI_nlt (by omega) (by omega)), Nat.min_eq_left (by omega)]
/-- what a carried out turn leaves: L is the day with its head gone -/
def cd_t1 (L : mm_S) (a b : Nat) (P : ab_P) (D : ab_D) : mm_S := mm_uM (mm_uM (mm_uM (mm_uM (mm_uM L a 14 (ab_ti D + nI (ab_pr D))) a 13 (nI (ab_lo D) - nI 1)) (a + 5) b (ab_ga D b + (nI (ab_val P D b) - nI (ab_pr D)))) a 12 (nI (min 999 (ab_pr D + ab_up P)))) a 15 (ab_tu D + nI 1)
def cd_t2 (L : mm_S) (a b : Nat) (P : ab_P) (D : ab_D) : mm_S := mm_uM (mm_uM (mm_uM (mm_uM L a 14 (ab_ti D + nI (ab_fe P))) (a + 5) b (ab_ga D b - (nI (ab_cost P D b) + nI (ab_fe P)))) a 12 (nI (if ab_down P = 0 then ab_pr D / 2 else ab_down P))) a 15 (ab_tu D + nI 1)
def cd_t3 (L : mm_S) (a b n : Nat) (D : ab_D) : mm_S := mm_uM (mm_uM (mm_uM (mm_uM L (a + 4) b (nI (ab_aw D b + 1))) (a + 6) n (nI b)) a 11 (nI (n + 1))) a 15 (ab_tu D + nI 1)
theorem s22 (hA : cd_A S a P D) (hr : ab_row D = b :: r) (hb : b < ab_kn P) (h18 : mm_M S a 18 = nI (ab_val P D b)) (h19 : mm_M S a 19 = nI (ab_cost P D b)) {act : Nat} (hact : act = 1 ∨ act = 2 ∨ act = 3) : mm_cl (d + 1) 22 [.ref a, .int (nI act)] S = some (none, if act = 1 then cd_t1 (cd_lv S a (r.length + 1) 0 r.length) a b P D else if act = 2 then cd_t2 (cd_lv S a (r.length + 1) 0 r.length) a b P D else cd_t3 (cd_lv S a (r.length + 1) 0 r.length) a b r.length D) := by
  obtain ⟨hw, ha, hP, hD, oP, oD⟩ := hA
  have hlen := row_le oP oD
  rw [hr, List.length_cons] at hlen
  have hb6 := Nat.lt_of_lt_of_le hb oP.1
  have hl := hD.1
  rw [hr, List.length_cons] at hl
  have hh := hD.2.1 0 (by rw [hr]; exact Nat.succ_pos _)
  rw [hr] at hh
  have hh : mm_M S (a + 6) 0 = nI b := hh
  obtain ⟨s, hs, hs2, hs3⟩ := hP.2.2.2.2.2
  have hL := lv_D hD hr
  have fL := lv_fr (S := S) (a := a) (n := r.length + 1) (k := 0) (i := r.length)
  have wL := fr_W fL hw
  have pL := fr_P ha ha fL hP
  have g18 : mm_M (cd_lv S a (r.length + 1) 0 r.length) a 18 = nI (ab_val P D b) := (lv_0 (by decide)).trans h18
  have g19 : mm_M (cd_lv S a (r.length + 1) 0 r.length) a 19 = nI (ab_cost P D b) := (lv_0 (by decide)).trans h19
  have hu := ab_up_lt oP
  have hdn := ab_down_lt oP
  have hpr := oD.2.2.2.1
  have h14 := s14 (d := d) (k := 0) hw ha hl (by omega) hlen
  rw [Nat.add_sub_cancel] at h14
  rw [e22, b22_0 (wd_o hw ha) (wd_s5 hw ha) (di_5 hw ha (by decide)) (dx_5 hw ha) (wd_k hw ha), wd_g5 hw ha, nI_clamp (by decide), hh, h14, hp_bd, hp_tn]
  generalize cd_lv S a (r.length + 1) 0 r.length = L at *
  obtain ⟨s', hs', hs2', hs3'⟩ := pL.2.2.2.2.2
  rw [fr_R fL, hs] at hs'
  cases hs'
  have rg8 : mm_rg L a 8 = s := hp_rg (by rw [fr_R fL]; exact hs)
  have rs8 : (mm_R L a 8).isSome = true := hp_rs (by rw [fr_R fL]; exact hs)
  have os := ws_o wL hs2
  have u0 : mm_M L s 0 = nI (ab_up P) := hs3'.1
  have u1 : mm_M L s 1 = nI (ab_down P) := hs3'.2.1
  have sa : (s = a) = False := eq_false (by unfold mm_dy at ha; unfold mm_sh at hs2; omega)
  have sa5 : (s = a + 5) = False := eq_false (by unfold mm_dy at ha; unfold mm_sh at hs2; omega)
  have hy : ∀ y, 0 < y → (a = a + y) = False := fun y h => eq_false (by omega)
  have hy2 : ∀ y, 0 < y → (a + y = a) = False := fun y h => eq_false (by omega)
  have f9 := pL.2.1
  obtain ⟨l11, l6, l4, l5, l12, l13, l14, l15⟩ := hL
  have l5 := l5 b hb
  have l4 := l4 b hb
  have l11 : mm_M L a 11 = nI r.length := l11
  have l12 : mm_M L a 12 = nI (ab_pr D) := l12
  have l13 : mm_M L a 13 = nI (ab_lo D) := l13
  have l14 : mm_M L a 14 = ab_ti D := l14
  have l15 : mm_M L a 15 = ab_tu D := l15
  have l5 : mm_M L (a + 5) b = ab_ga D b := l5
  have l4 : mm_M L (a + 4) b = nI (ab_aw D b) := l4
  have hbc : (nI b).toNatClampNeg = b := nI_clamp (by omega)
  have hbi : mm_inb (nI b) 6 = true := hp_inb hb6 (by omega)
  have hmin : (if nI (ab_pr D + ab_up P) < nI 999 then nI (ab_pr D + ab_up P) else nI 999) = nI (min 999 (ab_pr D + ab_up P)) := min_if (by omega) (by decide)
  have hdiv : nI (ab_pr D) / nI 2 = nI (ab_pr D / 2) := pk_div (by omega) (by decide) (by decide)
  have hcd0 : (nI (ab_down P) = nI 0) = (ab_down P = 0) := propext (nI_eq (by omega) (by decide))
  have n21 : ¬ nI 2 = nI 1 := by decide
  have n31 : ¬ nI 3 = nI 1 := by decide
  have n32 : ¬ nI 3 = nI 2 := by decide
  rcases hact with rfl | rfl | rfl
  · rw [if_pos rfl]
    simp only [b22_12, b22_17, b22_32, b22_46, b22_63, b22_83, b22_88, b22_107, b22_124, b22_130, b22_139, b22_152, b22_167, b22_169, e22, hp_MuM, hp_LuL, hp_RuR, hp_McpM, hp_LcpL, hp_LuM, hp_RuM, hp_KuM, hp_NuM, hp_nuM, hp_zuM, hp_ouM, hp_auM, hp_kuM, hp_guM, hp_MuL, hp_RuL, hp_KuL, hp_NuL, hp_nuL, hp_zuL, hp_ouL, hp_auL, hp_kuL, hp_guL, hp_MuR, hp_LuR, hp_KuR, hp_NuR, hp_nuR, hp_zuR, hp_ouR, hp_auR, hp_kuR, hp_LcpM, hp_RcpM, hp_KcpM, hp_NcpM, hp_ncpM, hp_zcpM, hp_ocpM, hp_acpM, hp_kcpM, hp_gcpM, hp_McpL, hp_RcpL, hp_KcpL, hp_NcpL, hp_ncpL, hp_zcpL, hp_ocpL, hp_acpL, hp_kcpL, hp_gcpL, hp_MwM, hp_LwM, hp_RwM, hp_KwM, hp_NwM, hp_nwM, hp_zwM, hp_owM, hp_awM, hp_kwM, hp_gwM, hp_MwR, hp_LwR, hp_RwR, hp_KwR, hp_NwR, hp_nwR, hp_zwR, hp_owR, hp_awR, hp_kwR, hp_MwL, hp_LwL, hp_RwL, hp_KwL, hp_NwL, hp_nwL, hp_zwL, hp_owL, hp_awL, hp_kwL, hp_gwL, hp_w2M, hp_w2R, hp_w2L, wd_o wL ha, wd_k wL ha, wd_q wL ha, wd_g0 wL ha, wd_s0 wL ha, wd_N1 wL ha, wd_K1 wL ha, wd_a1 wL ha, wd_g1 wL ha, wd_s1 wL ha, wd_N2 wL ha, wd_a2 wL ha, wd_g2 wL ha, wd_s2 wL ha, wd_N3 wL ha, wd_a3 wL ha, wd_g3 wL ha, wd_s3 wL ha, wd_N4 wL ha, wd_a4 wL ha, wd_g4 wL ha, wd_s4 wL ha, wd_N5 wL ha, wd_a5 wL ha, wd_g5 wL ha, wd_s5 wL ha, wd_N6 wL ha, wd_a6 wL ha, wd_g6 wL ha, wd_s6 wL ha, wd_N7 wL ha, wd_a7 wL ha, wd_g7 wL ha, wd_s7 wL ha, wd_N8 wL ha, wd_a8 wL ha, List.not_mem_nil, false_implies, implies_true, nI_clamp, nI_add, Nat.reducePow, hp_bd, hp_bdi, hp_ts, hp_tn, hp_tsc, hp_tnc, Nat.reduceAdd, Nat.reduceSub, Nat.reduceMul, Nat.reduceLT, Nat.reduceLeDiff, Nat.reduceEqDiff, reduceIte, not_true_eq_false, not_false_eq_true, and_true, true_and, and_self, and_false, false_and, or_true, true_or, or_false, false_or, decide_true, decide_false, Bool.and_true, Bool.true_and, Bool.not_false, Bool.or_false, Bool.false_or, Bool.or_true, Bool.true_or, rg8, rs8, os, u0, u1, sa, sa5, hy, hy2, f9, l5, l12, l13, l14, l15, hbc, hbi, g18, g19, hmin]
    rfl
  · rw [if_neg (by decide), if_pos rfl]
    simp only [b22_12, b22_17, b22_32, b22_46, b22_63, b22_83, b22_88, b22_107, b22_124, b22_130, b22_139, b22_152, b22_167, b22_169, e22, hp_MuM, hp_LuL, hp_RuR, hp_McpM, hp_LcpL, hp_LuM, hp_RuM, hp_KuM, hp_NuM, hp_nuM, hp_zuM, hp_ouM, hp_auM, hp_kuM, hp_guM, hp_MuL, hp_RuL, hp_KuL, hp_NuL, hp_nuL, hp_zuL, hp_ouL, hp_auL, hp_kuL, hp_guL, hp_MuR, hp_LuR, hp_KuR, hp_NuR, hp_nuR, hp_zuR, hp_ouR, hp_auR, hp_kuR, hp_LcpM, hp_RcpM, hp_KcpM, hp_NcpM, hp_ncpM, hp_zcpM, hp_ocpM, hp_acpM, hp_kcpM, hp_gcpM, hp_McpL, hp_RcpL, hp_KcpL, hp_NcpL, hp_ncpL, hp_zcpL, hp_ocpL, hp_acpL, hp_kcpL, hp_gcpL, hp_MwM, hp_LwM, hp_RwM, hp_KwM, hp_NwM, hp_nwM, hp_zwM, hp_owM, hp_awM, hp_kwM, hp_gwM, hp_MwR, hp_LwR, hp_RwR, hp_KwR, hp_NwR, hp_nwR, hp_zwR, hp_owR, hp_awR, hp_kwR, hp_MwL, hp_LwL, hp_RwL, hp_KwL, hp_NwL, hp_nwL, hp_zwL, hp_owL, hp_awL, hp_kwL, hp_gwL, hp_w2M, hp_w2R, hp_w2L, wd_o wL ha, wd_k wL ha, wd_q wL ha, wd_g0 wL ha, wd_s0 wL ha, wd_N1 wL ha, wd_K1 wL ha, wd_a1 wL ha, wd_g1 wL ha, wd_s1 wL ha, wd_N2 wL ha, wd_a2 wL ha, wd_g2 wL ha, wd_s2 wL ha, wd_N3 wL ha, wd_a3 wL ha, wd_g3 wL ha, wd_s3 wL ha, wd_N4 wL ha, wd_a4 wL ha, wd_g4 wL ha, wd_s4 wL ha, wd_N5 wL ha, wd_a5 wL ha, wd_g5 wL ha, wd_s5 wL ha, wd_N6 wL ha, wd_a6 wL ha, wd_g6 wL ha, wd_s6 wL ha, wd_N7 wL ha, wd_a7 wL ha, wd_g7 wL ha, wd_s7 wL ha, wd_N8 wL ha, wd_a8 wL ha, List.not_mem_nil, false_implies, implies_true, nI_clamp, nI_add, Nat.reducePow, hp_bd, hp_bdi, hp_ts, hp_tn, hp_tsc, hp_tnc, Nat.reduceAdd, Nat.reduceSub, Nat.reduceMul, Nat.reduceLT, Nat.reduceLeDiff, Nat.reduceEqDiff, reduceIte, not_true_eq_false, not_false_eq_true, and_true, true_and, and_self, and_false, false_and, or_true, true_or, or_false, false_or, decide_true, decide_false, Bool.and_true, Bool.true_and, Bool.not_false, Bool.or_false, Bool.false_or, Bool.or_true, Bool.true_or, rg8, rs8, os, u0, u1, sa, sa5, hy, hy2, f9, l5, l12, l13, l14, l15, hbc, hbi, g18, g19, n21, hcd0, hdiv]
    unfold cd_t2
    rw [nI_add]
    by_cases hz : ab_down P = 0
    · rw [if_pos hz, if_pos hz]
    · rw [if_neg hz, if_neg hz]
  · rw [if_neg (by decide), if_neg (by decide)]
    have wU : mm_W (mm_uM L (a + 4) b (nI (ab_aw D b + 1))) := wL
    have lU : mm_M (mm_uM L (a + 4) b (nI (ab_aw D b + 1))) a 11 = nI r.length := by rw [uM_n0 (by decide)]; exact l11
    have h13 := s13 (d := d) (x := nI b) wU ha lU (by omega)
    have e15 : mm_M (mm_uM (mm_uM (mm_uM L (a + 4) b (nI (ab_aw D b + 1))) (a + 6) r.length (nI b)) a 11 (nI (r.length + 1))) a 15 = ab_tu D := by rw [uM_k (by decide), uM_n0 (by decide), uM_n0 (by decide)]; exact l15
    rw [b22_12, if_neg n31, b22_83, if_neg n32, b22_152 (wd_o wL ha) (wd_s3 wL ha) (di_3 wL ha hb6) (dx_3 wL ha) (wd_k wL ha), wd_g3 wL ha, hbc, l4, nI_add, h13, hp_bd, hp_tn, b22_167 (wd_o (S := mm_uM (mm_uM (mm_uM L (a + 4) b (nI (ab_aw D b + 1))) (a + 6) r.length (nI b)) a 11 (nI (r.length + 1))) wL ha), e15]
    rfl
/-- what a turn leaves is the day that it should be -/
theorem t1_D (hD : cd_D T a c (r, D.2)) (hlo : 0 < ab_lo D) (hb6 : b < 6) : cd_fr a T (cd_t1 T a b P D) ∧ cd_D (cd_t1 T a b P D) a c (ab_do P D b r 1) := by
  obtain ⟨h1, h2, h3, h4, h5, h6, h7, h8⟩ := hD
  unfold cd_t1
  refine ⟨fr_w (fr_w (fr_w (fr_w (fr_w fr_rf (dc_a (by decide))) (dc_a (by decide))) dc_5) (dc_a (by decide))) (dc_a (by decide)), ?_⟩
  unfold ab_do
  rw [if_pos rfl]
  refine ⟨?_, fun p hp => ?_, fun x hx => ?_, fun x hx => ?_, ?_, ?_, ?_, ?_⟩
  · rw [uM_k (by decide), uM_k (by decide), uM_n0 (by decide), uM_k (by decide), uM_k (by decide)]; exact h1
  · rw [uM_0n (by decide), uM_0n (by decide), uM_n (by decide), uM_0n (by decide), uM_0n (by decide)]; exact h2 p hp
  · rw [uM_0n (by decide), uM_0n (by decide), uM_n (by decide), uM_0n (by decide), uM_0n (by decide)]; exact h3 x hx
  · rw [uM_0n (by decide), uM_0n (by decide)]
    show _ = (if x = b then _ else _)
    by_cases e : x = b
    · rw [e, uM_s, if_pos rfl]
    · rw [uM_k e, if_neg e, uM_0n (by decide), uM_0n (by decide)]; exact h4 x hx
  · rw [uM_k (by decide), uM_s]; rfl
  · rw [uM_k (by decide), uM_k (by decide), uM_n0 (by decide), uM_s]
    show _ = nI (ab_lo D - 1)
    exact pk_sub hlo
  · rw [uM_k (by decide), uM_k (by decide), uM_n0 (by decide), uM_k (by decide), uM_s]; rfl
  · rw [uM_s]; rfl
theorem t2_D (hD : cd_D T a c (r, D.2)) (hb6 : b < 6) : cd_fr a T (cd_t2 T a b P D) ∧ cd_D (cd_t2 T a b P D) a c (ab_do P D b r 2) := by
  obtain ⟨h1, h2, h3, h4, h5, h6, h7, h8⟩ := hD
  unfold cd_t2
  refine ⟨fr_w (fr_w (fr_w (fr_w fr_rf (dc_a (by decide))) dc_5) (dc_a (by decide))) (dc_a (by decide)), ?_⟩
  unfold ab_do
  rw [if_neg (by decide : ¬ 2 = 1), if_pos rfl]
  refine ⟨?_, fun p hp => ?_, fun x hx => ?_, fun x hx => ?_, ?_, ?_, ?_, ?_⟩
  · rw [uM_k (by decide), uM_k (by decide), uM_n0 (by decide), uM_k (by decide)]; exact h1
  · rw [uM_0n (by decide), uM_0n (by decide), uM_n (by decide), uM_0n (by decide)]; exact h2 p hp
  · rw [uM_0n (by decide), uM_0n (by decide), uM_n (by decide), uM_0n (by decide)]; exact h3 x hx
  · rw [uM_0n (by decide), uM_0n (by decide)]
    show _ = (if x = b then _ else _)
    by_cases e : x = b
    · rw [e, uM_s, if_pos rfl]
    · rw [uM_k e, if_neg e, uM_0n (by decide)]; exact h4 x hx
  · rw [uM_k (by decide), uM_s]; rfl
  · rw [uM_k (by decide), uM_k (by decide), uM_n0 (by decide), uM_k (by decide)]; exact h6
  · rw [uM_k (by decide), uM_k (by decide), uM_n0 (by decide), uM_s]; rfl
  · rw [uM_s]; rfl
theorem t3_D (hD : cd_D T a c (r, D.2)) (hb6 : b < 6) : cd_fr a T (cd_t3 T a b r.length D) ∧ cd_D (cd_t3 T a b r.length D) a c (ab_do P D b r 3) := by
  obtain ⟨h1, h2, h3, h4, h5, h6, h7, h8⟩ := hD
  unfold cd_t3
  refine ⟨fr_w (fr_w (fr_w (fr_w fr_rf dc_4) dc_6) (dc_a (by decide))) (dc_a (by decide)), ?_⟩
  unfold ab_do
  rw [if_neg (by decide : ¬ 3 = 1), if_neg (by decide : ¬ 3 = 2)]
  refine ⟨?_, fun p hp => ?_, fun x hx => ?_, fun x hx => ?_, ?_, ?_, ?_, ?_⟩
  · rw [uM_k (by decide), uM_s]
    show _ = nI (r ++ [b]).length
    rw [List.length_append]; rfl
  · have hp : p < (r ++ [b]).length := hp
    rw [List.length_append] at hp
    rw [uM_0n (by decide), uM_0n (by decide)]
    show _ = nI ((r ++ [b]).getD p 0)
    by_cases e : p = r.length
    · rw [e, uM_s, List.getD_eq_getElem?_getD, List.getElem?_append_right (Nat.le_refl _), Nat.sub_self]; rfl
    · have hp2 : p < r.length := by
        have : [b].length = 1 := rfl
        omega
      rw [uM_k e, uM_n (by decide), List.getD_eq_getElem?_getD, List.getElem?_append_left hp2, ← List.getD_eq_getElem?_getD]
      exact h2 p hp2
  · rw [uM_0n (by decide), uM_0n (by decide), uM_n (by decide)]
    show _ = nI (if x = b then _ else _)
    by_cases e : x = b
    · rw [e, uM_s, if_pos rfl]
    · rw [uM_k e, if_neg e]; exact h3 x hx
  · rw [uM_0n (by decide), uM_0n (by decide), uM_n (by decide), uM_n (by decide)]; exact h4 x hx
  · rw [uM_k (by decide), uM_k (by decide), uM_n0 (by decide), uM_n0 (by decide)]; exact h5
  · rw [uM_k (by decide), uM_k (by decide), uM_n0 (by decide), uM_n0 (by decide)]; exact h6
  · rw [uM_k (by decide), uM_k (by decide), uM_n0 (by decide), uM_n0 (by decide)]; exact h7
  · rw [uM_s]; rfl
end LV
