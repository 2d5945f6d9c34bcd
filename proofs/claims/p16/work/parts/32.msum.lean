/-! ===== what a BUYER does, in the reference ===== -/
section MS
variable {S T : mm_S} {b k n i d h w L : Nat} {P : ab_P} {D : ab_D} {x : Int32}
theorem s155_loop (hA : md_A S P D) (hb : b < ab_kn P) (hh : h < 6) (h18 : mm_M S 92 18 = nI h) (hw2 : w < 2) (hL : L ≤ 10) (h102 : mm_M S 102 h = nI L) : ∀ (l : List ab_C) (k n : Nat) (T : mm_S), md_q S T → md_cl S h l k → k + l.length = L → (∀ c ∈ l, ab_okC c) → ∃ T', mm_ex (d + 3) 155 11 [.ref 92, .int (nI w), .int (nI b), .int (nI n), .int (nI (10 * h + k))] [] T = some (some (.int (nI (ab_sum (ab_ms P D b) w l n))), T') ∧ md_q S T' := by
  intro l
  induction l with
  | nil =>
    intro k n T hq _ hk _
    have wT := mq_W hq hA.1
    have e1 : k = L := by simpa using hk
    have e18 : mm_M T 92 18 = nI h := (hq.2 _ _ (by decide)).trans h18
    have e102 : mm_M T 102 h = nI L := (hq.2 _ _ (by decide)).trans h102
    have i102 : mm_inb (mm_M T 92 18) (mm_N T (mm_rg T 92 19)) = true := by rw [e18, wf_g92_19 wT, wf_N102 wT]; exact hp_inb (by omega) (by omega)
    refine ⟨T, ?_, hq⟩
    rw [b155_11 (wf_o92 wT), e18, if_neg (nI_n0 (by omega)), b155_18 (wf_o92 wT) (wf_s92_19 wT) i102 (by rw [wf_g92_19 wT]; exact wf_a102 wT), e18, wf_g92_19 wT, nI_clamp (by omega), e102, nI_mul, nI_add, if_pos (nI_le (by omega) (by omega)), b155_81]
    rfl
  | cons c l ih =>
    intro k n T hq hc hk hok
    rw [List.length_cons] at hk
    have wT := mq_W hq hA.1
    have AT := mq_A hq hA
    have e18 : mm_M T 92 18 = nI h := (hq.2 _ _ (by decide)).trans h18
    have e102 : mm_M T 102 h = nI L := (hq.2 _ _ (by decide)).trans h102
    have i102 : mm_inb (mm_M T 92 18) (mm_N T (mm_rg T 92 19)) = true := by rw [e18, wf_g92_19 wT, wf_N102 wT]; exact hp_inb (by omega) (by omega)
    have i103 : mm_inb (nI (10 * h + k)) (mm_N T (mm_rg T 92 20)) = true := by rw [wf_g92_20 wT, wf_N103 wT]; exact hp_inb (by omega) (by omega)
    have a103 : mm_arr T (mm_rg T 92 20) 13 = true := by rw [wf_g92_20 wT]; exact wf_a103 wT
    have e103 : mm_M T 103 (10 * h + k) = nI c.1 := (hq.2 _ _ (by decide)).trans hc.1
    have hok1 := hok c List.mem_cons_self
    have hsum : ab_sum (ab_ms P D b) w (c :: l) n = ab_sum (ab_ms P D b) w l (if c.1 = w ∧ ab_hold (ab_ms P D b) c.2.2 = true then n + c.2.1 else n) := rfl
    have ihq := fun n T hq => ih (k + 1) n T hq hc.2.2.2 (by omega) (fun c hc => hok c (List.mem_cons_of_mem _ hc))
    have cl : (nI (10 * h + k)).toNatClampNeg = 10 * h + k := nI_clamp (by omega)
    rw [b155_11 (wf_o92 wT), e18, if_neg (nI_n0 (by omega)), b155_18 (wf_o92 wT) (wf_s92_19 wT) i102 (by rw [wf_g92_19 wT]; exact wf_a102 wT), e18, wf_g92_19 wT, nI_clamp (by omega), e102, nI_mul, nI_add, if_neg (nI_ge (by omega) (by omega)), b155_40 (wf_o92 wT) (wf_s92_20 wT) i103 a103, wf_g92_20 wT, cl, e103, hsum]
    by_cases hcw : c.1 = w
    · have hc01 : c.1 < 2 := by omega
      obtain ⟨f, f1, f2, f3, f4⟩ := hc.2.2.1 hc01
      have h18T := e18
      obtain ⟨T1, g1, g2⟩ := s154 (S := T) (d := d) (K := 10 * h + k) (c := c.2.2) AT hb hh e18 (by omega) ((hq.2 _ _ (by decide)).trans f2) ((hq.2 _ _ (by decide)).trans f3) f1 (mf_co (fun i => hq.2 _ _ (by decide)) f4) (hok1.2.2 hc01)
      have hq1 := mq_tr hq g2
      have wT1 := mq_W hq1 hA.1
      have i104 : mm_inb (nI (10 * h + k)) (mm_N T1 (mm_rg T1 92 21)) = true := by rw [wf_g92_21 wT1, wf_N104 wT1]; exact hp_inb (by omega) (by omega)
      have a104 : mm_arr T1 (mm_rg T1 92 21) 13 = true := by rw [wf_g92_21 wT1]; exact wf_a104 wT1
      have e104 : mm_M T1 104 (10 * h + k) = nI c.2.1 := (hq1.2 _ _ (by decide)).trans hc.2.1
      rw [if_pos (by rw [hcw]), b155_52 (wf_k92 wT), g1, hp_bd, hp_tsc, b155_59]
      by_cases hhd : ab_hold (ab_ms P D b) c.2.2 = true
      · obtain ⟨T2, u1, u2⟩ := ihq (n + c.2.1) T1 hq1
        rw [if_pos hhd, if_neg (by decide), b155_62 (wf_o92 wT1) (wf_s92_21 wT1) i104 a104, wf_g92_21 wT1, cl, e104, nI_add, nI_add, if_pos ⟨hcw, hhd⟩]
        exact ⟨T2, u1, u2⟩
      · obtain ⟨T2, u1, u2⟩ := ihq n T1 hq1
        rw [if_neg hhd, if_pos rfl, b155_72, nI_add, nI_add, if_neg (fun e => hhd e.2)]
        exact ⟨T2, u1, u2⟩
    · obtain ⟨T2, u1, u2⟩ := ihq n T hq
      have h6 := hok1.1
      rw [if_neg (fun e => hcw ((nI_eq (by omega) (by omega)).mp e)), b155_72, nI_add, nI_add, if_neg (fun e => hcw e.1)]
      exact ⟨T2, u1, u2⟩
theorem s155 (hA : md_A S P D) (hb : b < ab_kn P) (hw2 : w < 2) : ∃ T, mm_cl (d + 3) 155 [.ref 92, .int (nI w), .int (nI b)] S = some (some (.int (nI (ab_sum (ab_ms P D b) w (ab_sh P) 0))), T) ∧ md_q S T := by
  have hw := hA.1
  have hS := hA.2.2.2.1.2.2.1
  obtain ⟨o, ho⟩ := hA.2.1.2.2.2.1
  cases o with
  | none =>
    refine ⟨S, ?_, mq_rf⟩
    rw [e155, b155_0 (wf_o92 hw), b155_11 (wf_o92 hw), ho.1, if_pos (by decide), b155_81, ho.2]
    rfl
  | some h =>
    obtain ⟨T, g1, g2⟩ := s155_loop (d := d) hA hb ho.1 ho.2.1 hw2 hS.1 ho.2.2.1 (ab_sh P) 0 0 S mq_rf ho.2.2.2 (Nat.zero_add _) hS.2
    refine ⟨T, ?_, g2⟩
    rw [e155, b155_0 (wf_o92 hw), ho.2.1, nI_mul]
    exact g1
theorem s156 (hA : md_A S P D) (hb : b < ab_kn P) : ∃ T, mm_cl (d + 4) 156 [.ref 92, .int (nI b)] S = some (some (.int (nI (ab_val P D b))), T) ∧ md_q S T := by
  have hw := hA.1
  have hb6 := Nat.lt_of_lt_of_le hb hA.2.2.2.1.1
  obtain ⟨T, g1, g2⟩ := s155 (d := d) (w := 0) hA hb (by decide)
  refine ⟨T, ?_, g2⟩
  rw [e156, b156_0 (wf_o92 hw) (wf_s92_3 hw) (by rw [wf_g92_3 hw, wf_N95 hw]; exact hp_inb hb6 (by omega)) (by rw [wf_g92_3 hw]; exact wf_a95 hw) (wf_k92 hw), g1, hp_bd, hp_tsc, b156_12, wf_g92_3 hw, nI_clamp (by omega), (hA.2.1.2.1 b hb).2.2.1, nI_add]
  rfl
theorem s157 (hA : md_A S P D) (hb : b < ab_kn P) : ∃ T, mm_cl (d + 4) 157 [.ref 92, .int (nI b)] S = some (some (.int (nI (ab_cost P D b))), T) ∧ md_q S T := by
  have hw := hA.1
  obtain ⟨T, g1, g2⟩ := s155 (d := d) (w := 1) hA hb (by decide)
  refine ⟨T, ?_, g2⟩
  rw [e157, b157_0 (wf_k92 hw), g1, hp_bd, hp_ts, b157_6]
  rfl
theorem s158_loop (hA : md_A S P D) (hh : h < 6) (h18 : mm_M S 92 18 = nI h) (hw6 : w < 6) (hL : L ≤ 10) (h102 : mm_M S 102 h = nI L) : ∀ (l : List ab_C) (k n : Nat), md_cl S h l k → k + l.length = L → (∀ c ∈ l, ab_okC c) → mm_ex d 158 19 [.ref 92, .int (nI w), .int (nI n), .int (nI (10 * h + k))] [] S = mm_ex d 158 74 [.ref 92, .int (nI w), .int (nI (ab_law l w n)), .int (nI (10 * h + L))] [] S := by
  have hw := hA.1
  have i102 : mm_inb (mm_M S 92 18) (mm_N S (mm_rg S 92 19)) = true := by rw [h18, wf_g92_19 hw, wf_N102 hw]; exact hp_inb (by omega) (by omega)
  have a102 : mm_arr S (mm_rg S 92 19) 13 = true := by rw [wf_g92_19 hw]; exact wf_a102 hw
  intro l
  induction l with
  | nil =>
    intro k n _ hk _
    have e1 : k = L := by simpa using hk
    subst e1
    rw [b158_19 (wf_o92 hw), h18, if_neg (nI_n0 (by omega)), b158_26 (wf_o92 hw) (wf_s92_19 hw) i102 a102, h18, wf_g92_19 hw, nI_clamp (by omega), h102, nI_mul, nI_add, if_pos (nI_le (Nat.le_refl _) (by omega))]
    rfl
  | cons c l ih =>
    intro k n hc hk hok
    rw [List.length_cons] at hk
    have i103 : mm_inb (nI (10 * h + k)) (mm_N S (mm_rg S 92 20)) = true := by rw [wf_g92_20 hw, wf_N103 hw]; exact hp_inb (by omega) (by omega)
    have a103 : mm_arr S (mm_rg S 92 20) 13 = true := by rw [wf_g92_20 hw]; exact wf_a103 hw
    have i104 : mm_inb (nI (10 * h + k)) (mm_N S (mm_rg S 92 21)) = true := by rw [wf_g92_21 hw, wf_N104 hw]; exact hp_inb (by omega) (by omega)
    have a104 : mm_arr S (mm_rg S 92 21) 13 = true := by rw [wf_g92_21 hw]; exact wf_a104 hw
    have hok1 := hok c List.mem_cons_self
    have cl : (nI (10 * h + k)).toNatClampNeg = 10 * h + k := nI_clamp (by omega)
    have hlaw : ab_law (c :: l) w n = ab_law l w (if c.1 = w then c.2.1 else n) := rfl
    have ihq := fun n => ih (k + 1) n hc.2.2.2 (by omega) (fun c hc => hok c (List.mem_cons_of_mem _ hc))
    have h6 := hok1.1
    rw [b158_19 (wf_o92 hw), h18, if_neg (nI_n0 (by omega)), b158_26 (wf_o92 hw) (wf_s92_19 hw) i102 a102, h18, wf_g92_19 hw, nI_clamp (by omega), h102, nI_mul, nI_add, if_neg (nI_ge (by omega) (by omega)), b158_47 (wf_o92 hw) (wf_s92_20 hw) i103 a103, wf_g92_20 hw, cl, hc.1, hlaw]
    by_cases hcw : c.1 = w
    · rw [if_pos (by rw [hcw]), b158_57 (wf_o92 hw) (wf_s92_21 hw) i104 a104, wf_g92_21 hw, cl, hc.2.1, nI_add, if_pos hcw]
      exact ihq _
    · rw [if_neg (fun e => hcw ((nI_eq (by omega) (by omega)).mp e)), b158_66, nI_add, if_neg hcw]
      exact ihq _
theorem s158_run (hA : md_A S P D) (hw6 : w < 6) : ∃ x, mm_ex d 158 19 [.ref 92, .int (nI w), .int (nI n), .int (nI 10 * mm_M S 92 18)] [] S = mm_ex d 158 74 [.ref 92, .int (nI w), .int (nI (ab_law (ab_sh P) w n)), .int x] [] S := by
  have hw := hA.1
  have hS := hA.2.2.2.1.2.2.1
  obtain ⟨o, ho⟩ := hA.2.1.2.2.2.1
  cases o with
  | none =>
    refine ⟨nI 10 * (-1), ?_⟩
    rw [b158_19 (wf_o92 hw), ho.1, if_pos (by decide), ho.2]
    rfl
  | some h =>
    refine ⟨nI (10 * h + (ab_sh P).length), ?_⟩
    rw [ho.2.1, nI_mul]
    exact s158_loop (d := d) hA ho.1 ho.2.1 hw6 hS.1 ho.2.2.1 (ab_sh P) 0 n ho.2.2.2 (Nat.zero_add _) hS.2
theorem s158_2 (hA : md_A S P D) : mm_cl d 158 [.ref 92, .int (nI 2)] S = some (some (.int (nI (ab_up P))), S) := by
  have hw := hA.1
  obtain ⟨x, hx⟩ := s158_run (d := d) (w := 2) (n := 1) hA (by decide)
  rw [e158, b158_0, if_neg (by decide), b158_9 (wf_o92 hw), hx, b158_74, if_neg (by decide), b158_92, if_neg (by decide), b158_111]
  rfl
theorem s158_3 (hA : md_A S P D) : mm_cl d 158 [.ref 92, .int (nI 3)] S = some (some (.int (nI (ab_down P))), S) := by
  have hw := hA.1
  obtain ⟨x, hx⟩ := s158_run (d := d) (w := 3) (n := 1) hA (by decide)
  rw [e158, b158_0, if_neg (by decide), b158_9 (wf_o92 hw), hx, b158_74, if_neg (by decide), b158_92, if_neg (by decide), b158_111]
  rfl
theorem s158_4 (hA : md_A S P D) : mm_cl d 158 [.ref 92, .int (nI 4)] S = some (some (.int (nI (ab_away P))), S) := by
  have hw := hA.1
  have hlt : ab_law (ab_sh P) 4 1 < 100 := ab_law_lt (ab_okP_c hA.2.2.2.1) (by decide)
  obtain ⟨x, hx⟩ := s158_run (d := d) (w := 4) (n := 1) hA (by decide)
  rw [e158, b158_0, if_neg (by decide), b158_9 (wf_o92 hw), hx, b158_74, if_pos rfl, b158_79]
  unfold ab_away
  by_cases g : ab_law (ab_sh P) 4 1 ≤ 9
  · rw [if_pos (nI_le g (by decide)), b158_90, Nat.min_eq_right g]
  · rw [if_neg (nI_ge (by omega) (by omega)), b158_85, Nat.min_eq_left (by omega)]
theorem s158_5 (hA : md_A S P D) : mm_cl d 158 [.ref 92, .int (nI 5)] S = some (some (.int (nI (ab_fe P))), S) := by
  have hw := hA.1
  obtain ⟨x, hx⟩ := s158_run (d := d) (w := 5) (n := 0) hA (by decide)
  rw [e158, b158_0, if_pos rfl, b158_5 (wf_o92 hw), hx, b158_74, if_neg (by decide), b158_92, if_pos rfl, b158_97 (wf_o92 hw)]
  rcases hA.2.1.2.2.2.2 with ⟨h1, h2⟩ | h1
  · rw [h1, if_pos (by decide), b158_111, h2]
  · have := hA.2.2.2.1.2.1
    rw [h1, if_neg (nI_n0 (by omega)), b158_104 (wf_o92 hw), h1]
theorem s160 (hA : md_A S P D) (hb : b < ab_kn P) : mm_cl (d + 1) 160 [.ref 92, .int (nI b)] S = some (some (.int (if ab_may P D b = true then nI 1 else nI 0)), S) := by
  have hw := hA.1
  have hb6 := Nat.lt_of_lt_of_le hb hA.2.2.2.1.1
  have h9 := hA.2.2.2.2.2.2.1 b hb
  have h9' := @ab_away_le P
  rw [e160, b160_0 (wf_o92 hw) (wf_s92_5 hw) (by rw [wf_g92_5 hw, wf_N97 hw]; exact hp_inb hb6 (by omega)) (by rw [wf_g92_5 hw]; exact wf_a97 hw) (wf_k92 hw), s158_4 hA, hp_bd, hp_tsc, b160_11, wf_g92_5 hw, nI_clamp (by omega), hA.2.2.1.2.2.1 b hb]
  unfold ab_may
  by_cases g : ab_aw D b < ab_away P
  · rw [if_neg (nI_ge g (by omega)), b160_14, if_pos (decide_eq_true g)]
  · rw [if_pos (nI_le (Nat.le_of_not_lt g) (by omega)), b160_18, if_neg (fun e => g (of_decide_eq_true e))]
theorem s161 (hA : md_A S P D) (hb : b < ab_kn P) : ∃ T, mm_cl (d + 5) 161 [.ref 92, .int (nI b)] S = some (some (.int (nI (ab_val P D b + ab_cost P D b + ab_fe P) - nI (ab_pr D))), T) ∧ md_q S T := by
  have hw := hA.1
  obtain ⟨T, g1, g2⟩ := s156 (d := d) hA hb
  have AT := mq_A g2 hA
  obtain ⟨U, g3, g4⟩ := s157 (d := d) AT hb
  have AU := mq_A g4 AT
  refine ⟨U, ?_, mq_tr g2 g4⟩
  rw [e161, b161_0 (wf_k92 hw), g1, hp_bd, hp_ts, b161_5 (wf_k92 AT.1), g3, hp_bd, hp_tsc, b161_10 (wf_k92 AU.1), s158_5 AU, hp_bd, hp_tsc, b161_16 (wf_o92 AU.1), AU.2.2.1.2.2.2.2.1, nI_add, nI_add]
theorem my_lt (oP : ab_okP P) (oD : ab_okD P D) (hb : b < ab_kn P) {n : Nat} (hn : n < 100) : (nI (ab_val P D b + ab_cost P D b + ab_fe P) - nI (ab_pr D) < nI n) = ¬ (n + ab_pr D ≤ ab_val P D b + ab_cost P D b + ab_fe P) := by
  have v1 := @ab_val_le P D b oP hb
  have v2 := @ab_cost_le P D b oP
  have v3 := oP.2.1
  have v4 := oD.2.2.2.1
  rw [gn_lt (by omega) (by omega) (by omega)]
  exact propext (by omega)
theorem s162 (hA : md_A S P D) (hb : b < ab_kn P) : ∃ T, mm_cl (d + 6) 162 [.ref 92, .int (nI b)] S = some (some (.int (nI (ab_gy P D b 0))), T) ∧ md_q S T := by
  have hw := hA.1
  obtain ⟨T, g1, g2⟩ := s161 (d := d) hA hb
  refine ⟨T, ?_, g2⟩
  rw [e162, b162_0 (wf_k92 hw), g1, hp_bd, hp_ts, b162_5]
  unfold ab_gy
  by_cases g : 0 + ab_pr D ≤ ab_val P D b + ab_cost P D b + ab_fe P
  · rw [if_neg (by rw [my_lt hA.2.2.2.1 hA.2.2.2.2 hb (by decide)]; exact fun n => n g), b162_8, if_pos g]
  · rw [if_pos (by rw [my_lt hA.2.2.2.1 hA.2.2.2.2 hb (by decide)]; exact g), b162_12, if_neg g]
theorem s165 (hA : md_A S P D) (hb : b < ab_kn P) : ∃ T, mm_cl (d + 6) 165 [.ref 92, .int (nI b)] S = some (some (.int (nI (ab_gy P D b (ab_v P b)))), T) ∧ md_q S T := by
  have hw := hA.1
  have hb6 := Nat.lt_of_lt_of_le hb hA.2.2.2.1.1
  have hv := (hA.2.2.2.1.2.2.2.1 b hb).2.1
  obtain ⟨T, g1, g2⟩ := s161 (d := d) hA hb
  have AT := mq_A g2 hA
  have wT := AT.1
  refine ⟨T, ?_, g2⟩
  rw [e165, b165_0 (wf_k92 hw), g1, hp_bd, hp_ts, b165_5 (wf_o92 wT) (wf_s92_2 wT) (by rw [wf_g92_2 wT, wf_N94 wT]; exact hp_inb hb6 (by omega)) (by rw [wf_g92_2 wT]; exact wf_a94 wT), wf_g92_2 wT, nI_clamp (by omega), (AT.2.1.2.1 b hb).2.1]
  unfold ab_gy
  by_cases g : ab_v P b + ab_pr D ≤ ab_val P D b + ab_cost P D b + ab_fe P
  · rw [if_neg (by rw [my_lt hA.2.2.2.1 hA.2.2.2.2 hb (by omega)]; exact fun n => n g), b165_14, if_pos g]
  · rw [if_pos (by rw [my_lt hA.2.2.2.1 hA.2.2.2.2 hb (by omega)]; exact g), b165_18, if_neg g]
theorem s163 (hA : md_A S P D) (hb : b < ab_kn P) : ∃ T, mm_cl (d + 7) 163 [.ref 92, .int (nI b)] S = some (some (.int (nI (ab_wai P D b))), T) ∧ md_q S T := by
  have hw := hA.1
  have v1 := @ab_val_le P D b hA.2.2.2.1 hb
  have v4 := hA.2.2.2.2.2.2.2.1
  obtain ⟨T, g1, g2⟩ := s156 (d := d + 2) hA hb
  have AT := mq_A g2 hA
  have wT := AT.1
  obtain ⟨U, g3, g4⟩ := s162 (d := d) AT hb
  have h24 : mm_ex (d + 7) 163 24 [.ref 92, .int (nI b)] [] T = some (some (.int (nI (ab_gy P D b 0))), U) := by
    rw [b163_24 (wf_k92 wT), g3, hp_bd, hp_ts, b163_29]
  rw [e163, b163_0 (wf_k92 hw), g1, hp_bd, hp_ts, b163_5 (wf_o92 wT), AT.2.2.1.2.2.2.2.1]
  unfold ab_wai
  by_cases g : ab_val P D b < ab_pr D
  · rw [if_neg (nI_ge g (by omega)), b163_12 (wf_k92 wT), s160 AT hb, hp_bd, hp_ts, b163_17]
    cases hm : ab_may P D b with
    | true => exact ⟨T, by rw [if_pos rfl, if_neg (by decide), b163_20, if_pos ⟨g, rfl⟩], g2⟩
    | false => exact ⟨U, by rw [if_pos (by decide), h24, if_neg (fun e => by cases e.2)], mq_tr g2 g4⟩
  · exact ⟨U, by rw [if_pos (nI_le (Nat.le_of_not_lt g) (by omega)), h24, if_neg (fun e => g e.1)], mq_tr g2 g4⟩
theorem s164 (hA : md_A S P D) (hb : b < ab_kn P) : ∃ T, mm_cl (d + 7) 164 [.ref 92, .int (nI b)] S = some (some (.int (nI (ab_fal P D b))), T) ∧ md_q S T := by
  have hw := hA.1
  have hb6 := Nat.lt_of_lt_of_le hb hA.2.2.2.1.1
  have v3 := (hA.2.2.2.1.2.2.2.1 b hb).2.1
  have v4 := hA.2.2.2.2.2.2.2.1
  have hB := hA.2.1.2.1 b hb
  have cl : (nI b).toNatClampNeg = b := nI_clamp (by omega)
  obtain ⟨U, g3, g4⟩ := s162 (d := d) hA hb
  have h53 : ∀ x, mm_ex (d + 7) 164 53 [.ref 92, .int (nI b), .int x] [] S = some (some (.int (nI (ab_gy P D b 0))), U) := by
    intro x
    rw [b164_53 (wf_k92 hw), g3, hp_bd, hp_ts, b164_58]
  have h43 : mm_ex (d + 7) 164 43 [.ref 92, .int (nI b), .null] [] S = some (some (.int (nI (ab_gy P D b 0))), U) := by
    rw [b164_43, if_pos rfl, h53]
  have i96 : mm_inb (nI b) (mm_N S (mm_rg S 92 4)) = true := by rw [wf_g92_4 hw, wf_N96 hw]; exact hp_inb hb6 (by omega)
  have a96 : mm_arr S (mm_rg S 92 4) 13 = true := by rw [wf_g92_4 hw]; exact wf_a96 hw
  rw [e164, b164_0 (wf_o92 hw) (wf_s92_2 hw) (by rw [wf_g92_2 hw, wf_N94 hw]; exact hp_inb hb6 (by omega)) (by rw [wf_g92_2 hw]; exact wf_a94 hw), wf_g92_2 hw, cl, hB.2.1, hA.2.2.1.2.2.2.2.1]
  unfold ab_fal
  by_cases g : ab_v P b < ab_pr D
  · rw [if_neg (nI_ge g (by omega)), b164_13 (wf_o92 hw) (wf_s92_4 hw) i96 a96, wf_g92_4 hw, cl, hB.2.2.2]
    unfold ab_frn
    cases hf : ab_fr P b with
    | none => exact ⟨U, by rw [if_pos fo_n5, h43, if_neg (fun e => by cases e.2)], g4⟩
    | some f =>
      have hf6 := Nat.lt_of_lt_of_le (hA.2.2.2.1.2.2.2.2.1 b f hb hf).1 hA.2.2.2.1.1
      have hn : ¬ md_fo (some f) = -5 := fun e => by rw [mo_neg (fun k e => by cases e; omega)] at e; cases e
      rw [if_neg hn, b164_24 (wf_o92 hw) (wf_s92_4 hw) i96 a96 (wf_k92 hw), wf_g92_4 hw, cl, hB.2.2.2, hf, show md_fo (some f) = nI f from rfl, s130 hA hf6, hp_bd, hp_ts, b164_34]
      by_cases hm : f ∈ ab_row D
      · exact ⟨S, by rw [if_neg (by rw [at_neg hA]; exact fun e => e hm), b164_39, if_neg (by decide), b164_49, if_pos ⟨g, decide_eq_true hm⟩], mq_rf⟩
      · exact ⟨U, by rw [if_pos (by rw [at_neg hA]; exact hm), h43, if_neg (fun e => hm (of_decide_eq_true e.2))], g4⟩
  · exact ⟨U, by rw [if_pos (nI_le (Nat.le_of_not_lt g) (by omega)), h43, if_neg (fun e => g e.1)], g4⟩
end MS
