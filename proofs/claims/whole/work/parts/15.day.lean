/-! ===== the day's small methods ===== -/
section DAY
variable {d : Nat} {S : mm_S} {a : Nat}
theorem s20 (hw : mm_W S) (ha : mm_dy a) {n l : Nat} (hn : mm_M S a 11 = nI n) (hl : mm_M S a 13 = nI l) (h1 : n < 1000) (h2 : l < 1000) : mm_cl d 20 [.ref a] S = some (some (.int (if 0 < n ∧ 0 < l then nI 1 else nI 0)), S) := by
  simp only [b20_0, b20_7, b20_14, b20_18, e20, wd_o hw ha, wd_k hw ha, wd_q hw ha, wd_g0 hw ha, wd_s0 hw ha, wd_N1 hw ha, wd_K1 hw ha, wd_a1 hw ha, wd_g1 hw ha, wd_s1 hw ha, wd_N2 hw ha, wd_a2 hw ha, wd_g2 hw ha, wd_s2 hw ha, wd_N3 hw ha, wd_a3 hw ha, wd_g3 hw ha, wd_s3 hw ha, wd_N4 hw ha, wd_a4 hw ha, wd_g4 hw ha, wd_s4 hw ha, wd_N5 hw ha, wd_a5 hw ha, wd_g5 hw ha, wd_s5 hw ha, wd_N6 hw ha, wd_a6 hw ha, wd_g6 hw ha, wd_s6 hw ha, wd_N7 hw ha, wd_a7 hw ha, wd_g7 hw ha, wd_s7 hw ha, wd_N8 hw ha, wd_a8 hw ha, hn, hl]
  rw [nI_leI (by omega) (by omega), nI_leI (by omega) (by omega)]
  by_cases e1 : n ≤ 0
  · rw [if_pos e1, if_neg (by omega)]
  · rw [if_neg e1]
    by_cases e2 : l ≤ 0
    · rw [if_pos e2, if_neg (by omega)]
    · rw [if_neg e2, if_pos (by omega)]
theorem s12_loop (hw : mm_W S) (ha : mm_dy a) {n : Nat} (hn : mm_M S a 11 = nI n) (h6 : n ≤ 6) (x : Int32) (r : Nat → Int32) (hr : ∀ i, i < n → mm_M S (a + 6) i = r i) : ∀ k i : Nat, i + k = n → mm_ex d 12 2 [.ref a, .int x, .int (nI i)] [] S = some (some (.int (if h : ∃ j, i ≤ j ∧ j < n ∧ r j = x then nI (Nat.find h) else -1)), S) := by
  sorry
end DAY
