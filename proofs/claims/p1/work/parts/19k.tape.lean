section TPF
variable {S : mm_S} {t d : Nat}
theorem ft_1 (hF : mm_Fr S) (ht : t < 6) : mm_M S (76 + 2 * t) 1 = -1 := by
  rcases tp_cases ht with rfl | rfl | rfl | rfl | rfl | rfl
  · exact ff_76_1 (hF.2.2.1 76 (by decide))
  · exact ff_78_1 (hF.2.2.1 78 (by decide))
  · exact ff_80_1 (hF.2.2.1 80 (by decide))
  · exact ff_82_1 (hF.2.2.1 82 (by decide))
  · exact ff_84_1 (hF.2.2.1 84 (by decide))
  · exact ff_86_1 (hF.2.2.1 86 (by decide))
theorem fm_1 (hG : mm_Gd S) (ht : t < 6) : mm_M S 110 t = -1 := by
  rcases tp_cases ht with rfl | rfl | rfl | rfl | rfl | rfl
  · exact ff_110_0 hG.2.2.1
  · exact ff_110_1 hG.2.2.1
  · exact ff_110_2 hG.2.2.1
  · exact ff_110_3 hG.2.2.1
  · exact ff_110_4 hG.2.2.1
  · exact ff_110_5 hG.2.2.1
theorem g_be (hG : mm_Gd S) (ht : t < 6) {s n : Int32} : mm_Gd (mm_be S t s n) := by
  have h : mm_Gd (mm_uM (mm_uM S (76 + 2 * t) 1 s) (76 + 2 * t) 2 n) := g_uM (by omega) (g_uM (by omega) hG)
  exact h
theorem bad109 {x : Int32} (h : x < nI 0 ∨ nI 5 < x) : (if x < nI 0 ∨ nI 6 ≤ x then nI 0 else nI 1) = nI 0 := by
  rcases i_rg x 5 6 (by decide) rfl with ⟨q, -, r⟩ | ⟨-, p, q, r⟩ | ⟨j, hj, rfl⟩
  · exact if_pos (Or.inl q)
  · exact if_pos (Or.inr (Int32.not_lt.mp p))
  · exfalso
    rcases h with h | h
    · exact nI_pos (n := j) (by omega) h
    · exact nI_nlt hj (by decide) h
theorem ok109 (ht : t < 6) : (if nI t < nI 0 ∨ nI 6 ≤ nI t then nI 0 else nI 1) = nI 1 := if_neg (fun h => by
  rcases h with h | h
  · exact nI_pos (n := t) (by omega) h
  · exact nI_ge ht (by decide) h)
theorem ok194 (ht : t < 6) : (if nI t < nI 0 ∨ nI 5 < nI t then nI 0 else nI 1) = nI 1 := if_neg (fun h => by
  rcases h with h | h
  · exact nI_pos (n := t) (by omega) h
  · exact nI_nlt (by omega) (by decide) h)
theorem i_t (x : Int32) : (x < nI 0 ∨ nI 5 < x) ∨ ∃ t, t < 6 ∧ x = nI t := by
  rcases i_rg x 5 6 (by decide) rfl with ⟨q, -, r⟩ | ⟨-, p, q, r⟩ | ⟨j, hj, rfl⟩
  · exact Or.inl (Or.inl q)
  · exact Or.inl (Or.inr q)
  · exact Or.inr ⟨j, by omega, rfl⟩
theorem not_t (ht : t < 6) : ¬ (nI t < nI 0 ∨ nI 5 < nI t) := fun h => by
  rcases h with h | h
  · exact nI_pos (n := t) (by omega) h
  · exact nI_nlt (by omega) (by decide) h
theorem pc_34 (hF : mm_Fr S) {t i o j n : Int32} : ∃ S1, mm_cl 29 107 [.ref 0, .int t, .int i, .int o, .int j, .int n] S = some (some (.int (if (t < nI 0 ∨ nI 5 < t) ∨ (o < nI 0 ∨ nI 5 < o) then -1 else -11)), S1) ∧ mm_Gd S1 := by
  have hw := hF.2.2.2
  refine ⟨S, ?_, gF hF⟩
  rw [e107, b107_0, s109, hp_bd, hp_ts, b107_4]
  rcases i_t t with h | ⟨t, ht, rfl⟩
  · rw [bad109 h, if_pos rfl, b107_14, if_pos (Or.inl h)]
  · rw [ok109 ht, if_neg i01, b107_7, s109, hp_bd, hp_ts, b107_11]
    rcases i_t o with h | ⟨u, hu, rfl⟩
    · rw [bad109 h, if_pos rfl, b107_14, if_pos (Or.inr h)]
    · have c1 := nI_clamp (tp_n ht)
      have c2 := nI_clamp (tp_n hu)
      rw [ok109 hu, if_neg i01, b107_16 (wf_o0 hw) (wf_s0_6 hw) (by rw [wf_g0_6 hw, wf_N75 hw]; exact tp_in ht) (by rw [wf_g0_6 hw]; exact wf_a75 hw) (by rw [wf_g0_6 hw, c1]; exact tp_s hw ht) (by rw [wf_g0_6 hw, wf_N75 hw]; exact tp_in hu) (by rw [wf_g0_6 hw, c2]; exact tp_s hw hu) (by rw [wf_g0_6 hw, c1, tp_g hw ht]; exact tp_k hw ht), wf_g0_6 hw, c1, tp_g hw ht, s61 hw (tp_o hw ht), ft_1 hF ht, if_pos rfl, hp_bd, hp_ts, b107_37, if_neg i01, b107_48, if_neg (fun e => e.elim (not_t ht) (not_t hu))]
theorem pm_34 (hG : mm_Gd S) {t i o j n : Int32} : ∃ S1, mm_cl 29 211 [.ref 92, .int t, .int i, .int o, .int j, .int n] S = some (some (.int (if (t < nI 0 ∨ nI 5 < t) ∨ (o < nI 0 ∨ nI 5 < o) then -1 else -11)), S1) ∧ mm_n S1 ≤ 600000 ∧ mm_z S1 ≤ 7302250 := by
  have hw := hG.1
  have z1 := hG.2.2.2.2.2.2.1
  have z2 := hG.2.2.2.2.2.2.2
  refine ⟨S, ?_, by omega, by omega⟩
  rw [e211, b211_0 (wf_k92 hw), s194, hp_bd, hp_ts, b211_5]
  rcases i_t t with h | ⟨t, ht, rfl⟩
  · rw [if_pos h, if_pos rfl, b211_16, if_pos (Or.inl h)]
  · rw [ok194 ht, if_neg i01, b211_8 (wf_k92 hw), s194, hp_bd, hp_ts, b211_13]
    rcases i_t o with h | ⟨u, hu, rfl⟩
    · rw [if_pos h, if_pos rfl, b211_16, if_pos (Or.inr h)]
    · rw [ok194 hu, if_neg i01, b211_18 (wf_o92 hw) (wf_s92_30 hw) (by rw [wf_g92_30 hw, wf_N110 hw]; exact tp_in ht) (by rw [wf_g92_30 hw]; exact wf_a110 hw), wf_g92_30 hw, nI_clamp (tp_n ht), fm_1 hG ht, if_pos rfl, b211_38, if_neg (fun e => e.elim (not_t ht) (not_t hu))]
theorem g104 (hF : mm_Fr S) (ht : t < 6) {s n x2 x3 : Int32} : mm_W (mm_be S t s n) ∧ mm_Gd (mm_be S t s n) := ⟨(g_be (gF hF) ht).1, g_be (gF hF) ht⟩
theorem pc_31 (hF : mm_Fr S) {t s n : Int32} : ∃ S1, mm_cl 29 104 [.ref 0, .int t, .int s, .int n] S = some (some (.int (if t < nI 0 ∨ nI 5 < t then -1 else if s = -1 then nI 1 else if s < nI 0 ∨ nI 4 < s ∨ nI 60 < n then -2 else if n < nI 0 then -14 else nI 1)), S1) ∧ mm_Gd S1 := by
  have hw := hF.2.2.2
  have st : mm_cl 29 104 [.ref 0, .int t, .int s, .int n] S = if (if t < nI 0 ∨ nI 6 ≤ t then nI 0 else nI 1) = nI 0 then mm_ex 29 104 7 [.ref 0, .int t, .int s, .int n] [] S else mm_ex 29 104 9 [.ref 0, .int t, .int s, .int n] [] S := by
    rw [e104, b104_0, s109, hp_bd, hp_ts, b104_4]
  rw [st]
  rcases i_t t with h | ⟨t, ht, rfl⟩
  · exact ⟨S, by rw [bad109 h, if_pos rfl, b104_7, if_pos h], gF hF⟩
  · have c1 := nI_clamp (tp_n ht)
    rw [ok109 ht, if_neg i01, if_neg (not_t ht), b104_9]
    by_cases h1 : s = -1
    · rw [if_pos h1, if_pos h1]
      exact ⟨_, by rw [b104_14 (wf_o0 hw) (wf_s0_6 hw) (by rw [wf_g0_6 hw, wf_N75 hw]; exact tp_in ht) (by rw [wf_g0_6 hw]; exact wf_a75 hw) (by rw [wf_g0_6 hw, c1]; exact tp_s hw ht) (by rw [wf_g0_6 hw, c1, tp_g hw ht]; exact tp_k hw ht), wf_g0_6 hw, c1, tp_g hw ht, s60t hw ht, hp_bd, hp_tnc, b104_25], g_be (gF hF) ht⟩
    · rw [if_neg h1, if_neg h1, b104_27]
      by_cases h2 : s < nI 0
      · exact ⟨S, by rw [if_pos h2, b104_42, if_pos (Or.inl h2)], gF hF⟩
      · rw [if_neg h2, b104_31]
        by_cases h3 : nI 4 < s
        · exact ⟨S, by rw [if_pos h3, b104_42, if_pos (Or.inr (Or.inl h3))], gF hF⟩
        · rw [if_neg h3, b104_36]
          by_cases h4 : nI 60 < n
          · exact ⟨S, by rw [if_neg (Int32.not_le.mpr h4), b104_42, if_pos (Or.inr (Or.inr h4))], gF hF⟩
          · rw [if_pos (Int32.not_lt.mp h4), b104_45, if_neg (fun e : s < nI 0 ∨ nI 4 < s ∨ nI 60 < n => e.elim h2 (fun e => e.elim h3 h4))]
            by_cases h5 : n < nI 0
            · exact ⟨S, by rw [if_neg (Int32.not_le.mpr h5), b104_49, if_pos h5], gF hF⟩
            · rw [if_pos (Int32.not_lt.mp h5), if_neg h5]
              exact ⟨_, by rw [b104_52 (wf_o0 hw) (wf_s0_6 hw) (by rw [wf_g0_6 hw, wf_N75 hw]; exact tp_in ht) (by rw [wf_g0_6 hw]; exact wf_a75 hw) (by rw [wf_g0_6 hw, c1]; exact tp_s hw ht) (by rw [wf_g0_6 hw, c1, tp_g hw ht]; exact tp_k hw ht), wf_g0_6 hw, c1, tp_g hw ht, s60t hw ht, hp_bd, hp_tnc, b104_63], g_be (gF hF) ht⟩
theorem s207_43 (hw : mm_W S) (ht : t < 6) {s n : Int32} : ∃ T, mm_ex d 207 43 [.ref 92, .int (nI t), .int s, .int n, .null] [] S = some (some (.int (nI 1)), T) ∧ mm_n T = mm_n S ∧ mm_z T = mm_z S := by
  have c1 := nI_clamp (tp_n ht)
  have key : ∀ T : mm_S, mm_W T → ∃ U, mm_ex d 207 68 [.ref 92, .int (nI t), .int s, .int n, .int (nI 0)] [] T = some (some (.int (nI 1)), U) ∧ mm_n U = mm_n T ∧ mm_z U = mm_z T := by
    intro T hT
    have := l207 (d := d) hT ht (x2 := s) (x3 := n) 60 0 rfl
    rw [zL_0] at this
    exact ⟨_, this, rfl, rfl⟩
  have hw1 : mm_W (mm_uM S 110 t s) := hw
  rw [b207_43 (wf_o92 hw) (wf_s92_30 hw) (by rw [wf_g92_30 hw]; exact wf_a110 hw) (by rw [wf_g92_30 hw, wf_N110 hw]; exact tp_in ht) (wf_s92_31 hw), wf_g92_30 hw, wf_g92_31 hw, c1]
  by_cases h : nI 0 ≤ s
  · rw [if_pos h, b207_63 (wf_a111 hw1) (by rw [wf_N111 hw1]; exact tp_in ht), c1]
    exact key _ hw1
  · rw [if_neg h, b207_59 (wf_a111 hw1) (by rw [wf_N111 hw1]; exact tp_in ht), c1]
    exact key _ hw1
theorem pm_31 (hG : mm_Gd S) {t s n : Int32} : ∃ S1, mm_cl 29 207 [.ref 92, .int t, .int s, .int n] S = some (some (.int (if t < nI 0 ∨ nI 5 < t then -1 else if s = -1 then nI 1 else if s < nI 0 ∨ nI 4 < s ∨ nI 60 < n then -2 else if n < nI 0 then -14 else nI 1)), S1) ∧ mm_n S1 ≤ 600000 ∧ mm_z S1 ≤ 7302250 := by
  have hw := hG.1
  have z1 := hG.2.2.2.2.2.2.1
  have z2 := hG.2.2.2.2.2.2.2
  have st : mm_cl 29 207 [.ref 92, .int t, .int s, .int n] S = if (if t < nI 0 ∨ nI 5 < t then nI 0 else nI 1) = nI 0 then mm_ex 29 207 8 [.ref 92, .int t, .int s, .int n, .null] [] S else mm_ex 29 207 10 [.ref 92, .int t, .int s, .int n, .null] [] S := by
    rw [e207, b207_0 (wf_k92 hw), s194, hp_bd, hp_ts, b207_5]
  rw [st]
  rcases i_t t with h | ⟨t, ht, rfl⟩
  · exact ⟨S, by rw [if_pos h, if_pos rfl, b207_8, if_pos h], by omega, by omega⟩
  · rw [ok194 ht, if_neg i01, if_neg (not_t ht), b207_10, s128, hp_bd, hp_ts, b207_16]
    rcases i_km s with ⟨k1, k2, k3⟩ | rfl | ⟨k1, k2, k3⟩
    · exact ⟨S, by rw [if_pos (Or.inl k1), if_pos rfl, b207_29, if_neg k3, if_pos (Or.inl k2)], by omega, by omega⟩
    · rw [if_neg (by decide), b207_19, if_pos (by decide), b207_32, if_pos (by decide), if_pos rfl]
      obtain ⟨T, h1, h2, h3⟩ := s207_43 (d := 29) hw ht (s := -1) (n := n)
      exact ⟨T, h1, by omega, by omega⟩
    · by_cases h3 : nI 4 < s
      · exact ⟨S, by rw [if_pos (Or.inr h3), if_pos rfl, b207_29, if_neg k3, if_pos (Or.inr (Or.inl h3))], by omega, by omega⟩
      · rw [if_neg (fun e : s < -1 ∨ nI 4 < s => e.elim k2 h3), if_neg i01, b207_19, if_neg k1, b207_23, if_neg k3]
        by_cases h4 : nI 60 < n
        · exact ⟨S, by rw [if_neg (Int32.not_le.mpr h4), b207_29, if_pos (Or.inr (Or.inr h4))], by omega, by omega⟩
        · rw [if_pos (Int32.not_lt.mp h4), b207_32, if_neg k1, b207_36, if_neg (fun e : s < nI 0 ∨ nI 4 < s ∨ nI 60 < n => e.elim k1 (fun e => e.elim h3 h4))]
          by_cases h5 : n < nI 0
          · exact ⟨S, by rw [if_neg (Int32.not_le.mpr h5), b207_40, if_pos h5], by omega, by omega⟩
          · rw [if_pos (Int32.not_lt.mp h5), if_neg h5]
            obtain ⟨T, h1, h2, h3⟩ := s207_43 (d := 29) hw ht (s := s) (n := n)
            exact ⟨T, h1, by omega, by omega⟩
end TPF
