/-! ===== small methods ===== -/
theorem dy6 : mm_dy 6 := Or.inl rfl
theorem dy15 : mm_dy 15 := Or.inr (Or.inl rfl)
theorem dy24 : mm_dy 24 := Or.inr (Or.inr (Or.inl rfl))
theorem dy33 : mm_dy 33 := Or.inr (Or.inr (Or.inr rfl))
theorem hc_g {S : mm_S} {a b c j : Nat} (h : ¬ c = a) (h2 : ¬ c = a + 1) : mm_rg (mm_cD S a b) c j = mm_rg S c j := by
  unfold mm_rg
  rw [hc_R, if_neg (fun e => h e.1), if_neg (fun e => h2 e.1)]
section SMALL
variable {d : Nat} {S : mm_S} {a : Nat} {b x lo hi : Int32}
theorem nr_0 : narrow .boolean (.int (nI 0)) = .int (nI 0) := id rfl
theorem nr_1 : narrow .boolean (.int (nI 1)) = .int (nI 1) := id rfl
theorem nr_if {p : Prop} [Decidable p] : narrow .boolean (.int (if p then nI 0 else nI 1)) = .int (if p then nI 0 else nI 1) := by split <;> rfl
theorem nr_fi {p : Prop} [Decidable p] : narrow .boolean (.int (if p then nI 1 else nI 0)) = .int (if p then nI 1 else nI 0) := by split <;> rfl
theorem if_or3 {α : Type} {p q : Prop} [Decidable p] [Decidable q] {u v : α} : (if p then u else if q then u else v) = if p ∨ q then u else v := by
  by_cases hp : p <;> by_cases hq : q <;> simp [hp, hq]
theorem if_res {p : Prop} [Decidable p] {u v : Int32} : (if p then (some (some (Value.int u), S) : mm_Res) else some (some (.int v), S)) = some (some (.int (if p then u else v)), S) := by split <;> rfl
theorem if_exs {p : Prop} [Decidable p] {y pc : Nat} {ls : List Value} {u v : Int32} : (if p then mm_ex d y pc ls [.int u] S else mm_ex d y pc ls [.int v] S) = mm_ex d y pc ls [.int (if p then u else v)] S := by split <;> rfl
theorem i01 : ¬ nI 1 = nI 0 := by decide
theorem i10 : ¬ nI 0 = nI 1 := by decide
theorem if_01 {p : Prop} [Decidable p] : ((if p then nI 0 else nI 1) = nI 0) = p := by by_cases h : p <;> simp [h, i01]
theorem if_10 {p : Prop} [Decidable p] : ((if p then nI 1 else nI 0) = nI 0) = ¬ p := by by_cases h : p <;> simp [h, i01]
theorem s8 (hw : mm_W S) (ha : mm_dy a) : mm_cl d 8 [.ref a, .int b] S = some (some (.int (if b < nI 0 ∨ mm_M S a 10 ≤ b then nI 0 else nI 1)), S) := by
  simp only [b8_0, b8_4, b8_12, b8_16, e8, wd_o hw ha, if_or3, if_res]
theorem s128 : mm_cl d 128 [.int x, .int lo, .int hi] S = some (some (.int (if x < lo ∨ hi < x then nI 0 else nI 1)), S) := by
  simp only [b128_0, b128_5, b128_10, b128_14, e128, if_or3, if_res]
theorem s129 (hw : mm_W S) : mm_cl (d + 1) 129 [.ref 92, .int b] S = some (some (.int (if b < nI 0 ∨ mm_M S 92 0 - nI 1 < b then nI 0 else nI 1)), S) := by
  simp only [b129_0, b129_11, e129, wf_o92 hw, s128, hp_bd, hp_ts, nr_if]
theorem s194 : mm_cl (d + 1) 194 [.ref a, .int x] S = some (some (.int (if x < nI 0 ∨ nI 5 < x then nI 0 else nI 1)), S) := by
  simp only [b194_0, b194_6, e194, s128, hp_bd, hp_ts, nr_if]
theorem s109 : mm_cl d 109 [.int x] S = some (some (.int (if x < nI 0 ∨ nI 6 ≤ x then nI 0 else nI 1)), S) := by
  simp only [b109_0, b109_4, b109_10, b109_14, e109, if_or3, if_res]
theorem s108 : mm_cl d 108 [.int x] S = some (some (.int (if nI 0 ≤ x then x else -5)), S) := by
  simp only [b108_0, b108_4, b108_9, e108, if_res]
theorem s20 (hw : mm_W S) (ha : mm_dy a) : mm_cl d 20 [.ref a] S = some (some (.int (if mm_M S a 11 ≤ nI 0 ∨ mm_M S a 13 ≤ nI 0 then nI 0 else nI 1)), S) := by
  simp only [b20_0, b20_7, b20_14, b20_18, e20, wd_o hw ha, if_or3, if_res]
theorem s168 (hw : mm_W S) : mm_cl d 168 [.ref 92] S = some (some (.int (if mm_M S 92 8 ≤ nI 0 ∨ mm_M S 92 11 ≤ nI 0 then nI 0 else nI 1)), S) := by
  simp only [b168_0, b168_7, b168_14, b168_18, e168, wf_o92 hw, if_or3, if_res]
theorem s11 (hw : mm_W S) (ha : mm_dy a) : mm_cl d 11 [.ref a] S = some (some (.int (if mm_M S a 11 ≤ nI 0 then -1 else mm_M S (a + 6) 0)), S) := by
  simp +decide only [b11_0, b11_7, b11_16, e11, wd_o hw ha, wd_k hw ha, wd_q hw ha, wd_g0 hw ha, wd_s0 hw ha, wd_N1 hw ha, wd_K1 hw ha, wd_a1 hw ha, wd_g1 hw ha, wd_s1 hw ha, wd_N2 hw ha, wd_a2 hw ha, wd_g2 hw ha, wd_s2 hw ha, wd_N3 hw ha, wd_a3 hw ha, wd_g3 hw ha, wd_s3 hw ha, wd_N4 hw ha, wd_a4 hw ha, wd_g4 hw ha, wd_s4 hw ha, wd_N5 hw ha, wd_a5 hw ha, wd_g5 hw ha, wd_s5 hw ha, wd_N6 hw ha, wd_a6 hw ha, wd_g6 hw ha, wd_s6 hw ha, wd_N7 hw ha, wd_a7 hw ha, wd_g7 hw ha, wd_s7 hw ha, wd_N8 hw ha, wd_a8 hw ha, nI_clamp, Nat.reducePow, if_exs]
  first | rfl | (split <;> rfl)
theorem s61 (hw : mm_W S) {t : Nat} (ho : mm_obj S t 8 = true) : mm_cl d 61 [.ref t] S = some (some (.int (if mm_M S t 1 = -1 then nI 1 else nI 0)), S) := by
  simp only [b61_0, b61_8, b61_12, e61, ho, if_res]
theorem s62 {t : Nat} (ho : mm_obj S t 8 = true) : mm_cl d 62 [.ref t, .int x] S = some (some (.int (if x < nI 0 ∨ mm_M S t 2 ≤ x then nI 0 else nI 1)), S) := by
  simp only [b62_0, b62_4, b62_12, b62_16, e62, ho, if_or3, if_res]
end SMALL
