/-! ===== what a BUYER does, in the class ===== -/
theorem kc_ok {k : Nat} (h : k < 7) : cd_kc k < 13 ∧ mm_fam 0 (cd_kc k) = true := by
  rcases (by omega : k = 0 ∨ k = 1 ∨ k = 2 ∨ k = 3 ∨ k = 4 ∨ k = 5 ∨ k = 6) with rfl | rfl | rfl | rfl | rfl | rfl | rfl <;> decide
section BYF
variable {S : mm_S} {e b k v w : Nat}
theorem by_o (hk : k < 7) (h : cd_by S e b k v w) : mm_obj S e 0 = true := by
  obtain ⟨h1, h2, h3, -⟩ := h
  have h4 := kc_ok hk
  unfold mm_obj
  rw [h3, decide_eq_true h2, decide_eq_true h4.1, h4.2]
  rfl
theorem by_k (hk : k < 7) (h : cd_by S e b k v w) : mm_rk S e = cd_kc k := by
  obtain ⟨h1, h2, h3, -⟩ := h
  unfold mm_rk
  rw [if_pos h2, h3, if_pos (kc_ok hk).1]
theorem by_q (hk : k < 7) (h : cd_by S e b k v w) : (decide (e < mm_n S) && decide (mm_K S e < 13)) = true := by
  obtain ⟨h1, h2, h3, -⟩ := h
  rw [h3, decide_eq_true h2, decide_eq_true (kc_ok hk).1]
  rfl
end BYF
/-- gain of a yes over a no, against a number -/
theorem gn_lt {u p n : Nat} (hu : u < 2 ^ 20) (hp : p < 2 ^ 20) (hn : n < 2 ^ 20) : (nI u - nI p < nI n) = (u < n + p) := by
  rw [Int32.lt_iff_toInt_lt, pk_sub_toInt (by omega) (by omega), nI_toInt (by omega)]
  exact propext (by omega)
section DO
variable {S : mm_S} {a b d e : Nat} {P : ab_P} {D : ab_D}
/-- b was weighed -/
def cd_w (S : mm_S) (a e : Nat) (P : ab_P) (D : ab_D) (b : Nat) : Prop := cd_A S a P D ∧ b < ab_kn P ∧ cd_by S e b (ab_ki P b) (ab_v P b) (ab_wo P b) ∧ mm_M S a 18 = nI (ab_val P D b) ∧ mm_M S a 19 = nI (ab_cost P D b)
theorem cw_k (h : cd_w S a e P D b) : ab_ki P b < 7 ∧ ab_v P b < 10 := ⟨(h.1.2.2.2.2.1.2.2.2.1 b h.2.1).1, (h.1.2.2.2.2.1.2.2.2.1 b h.2.1).2.1⟩
theorem s18 (h : cd_w S a e P D b) : mm_cl d 18 [.ref a] S = some (some (.int (nI (ab_val P D b + ab_cost P D b + ab_fe P) - nI (ab_pr D))), S) := by
  obtain ⟨⟨hw, ha, hP, hD, oP, oD⟩, hb, hy, h1, h2⟩ := h
  rw [e18, b18_0 (wd_o hw ha), h1, h2, hP.2.1, hD.2.2.2.2.1, nI_add, nI_add]
theorem gy_lt (h : cd_w S a e P D b) {n : Nat} (hn : n < 100) : (nI (ab_val P D b + ab_cost P D b + ab_fe P) - nI (ab_pr D) < nI n) = ¬ (n + ab_pr D ≤ ab_val P D b + ab_cost P D b + ab_fe P) := by
  obtain ⟨⟨hw, ha, hP, hD, oP, oD⟩, hb, hy, h1, h2⟩ := h
  have v1 := @ab_val_le P D b oP hb
  have v2 := @ab_cost_le P D b oP
  have v3 := oP.2.1
  have v4 := oD.2.2.2.1
  rw [gn_lt (by omega) (by omega) (by omega)]
  exact propext (by omega)
theorem s2 (h : cd_w S a e P D b) : mm_cl (d + 1) 2 [.ref e, .ref a] S = some (some (.int (nI (ab_gy P D b 0))), S) := by
  have hk := wd_k h.1.1 h.1.2.1
  rw [e2, b2_0 hk, s18 h, hp_bd, hp_ts, b2_4]
  unfold ab_gy
  by_cases g : 0 + ab_pr D ≤ ab_val P D b + ab_cost P D b + ab_fe P
  · rw [if_neg (by rw [gy_lt h (by decide)]; exact fun n => n g), b2_7, if_pos g]
  · rw [if_pos (by rw [gy_lt h (by decide)]; exact g), b2_11, if_neg g]
theorem s32 (h : cd_w S a e P D b) : mm_cl (d + 1) 32 [.ref e, .ref a] S = some (some (.int (nI (ab_gy P D b (ab_v P b)))), S) := by
  have hk := wd_k h.1.1 h.1.2.1
  have hc := cw_k h
  rw [e32, b32_0 hk, s18 h, hp_bd, hp_ts, b32_4 (by_o hc.1 h.2.2.1), h.2.2.1.2.2.2.2.2.1]
  unfold ab_gy
  by_cases g : ab_v P b + ab_pr D ≤ ab_val P D b + ab_cost P D b + ab_fe P
  · rw [if_neg (by rw [gy_lt h (by omega)]; exact fun n => n g), b32_11, if_pos g]
  · rw [if_pos (by rw [gy_lt h (by omega)]; exact g), b32_15, if_neg g]
theorem s70 (h : cd_w S a e P D b) : mm_cl (d + 2) 70 [.ref e, .ref a] S = some (some (.int (nI (ab_wai P D b))), S) := by
  have hk := wd_k h.1.1 h.1.2.1
  have hc := cw_k h
  have h' := h
  obtain ⟨hA, hb, hy, h1, h2⟩ := h
  have hA' := hA
  obtain ⟨hw, ha, hP, hD, oP, oD⟩ := hA
  have v1 := @ab_val_le P D b oP hb
  have v4 := oD.2.2.2.1
  rw [e70, b70_0 (wd_o hw ha), h1, hD.2.2.2.2.1]
  unfold ab_wai
  have hs2 : mm_ex (d + 2) 70 26 [.ref e, .ref a] [] S = some (some (.int (nI (ab_gy P D b 0))), S) := by
    rw [b70_26 (by_q hc.1 hy), s2 h', hp_bd, hp_ts, b70_31]
  by_cases g : ab_val P D b < ab_pr D
  · rw [if_neg (nI_ge g (by omega)), b70_11 (by_o hc.1 hy) hk, hy.2.2.2.2.1, s16 hA' hb, hp_bd, hp_ts, b70_19]
    cases hm : ab_may P D b with
    | true => rw [if_pos rfl, if_neg (by decide), b70_22, if_pos ⟨g, rfl⟩]
    | false => rw [if_pos (by decide), hs2, if_neg (fun e => by cases e.2)]
  · rw [if_pos (nI_le (Nat.le_of_not_lt g) (by omega)), hs2, if_neg (fun e => g e.1)]
theorem s26 (h : cd_w S a e P D b) : mm_cl (d + 2) 26 [.ref e, .ref a] S = some (some (.int (nI (ab_fal P D b))), S) := by
  have hk := wd_k h.1.1 h.1.2.1
  have hc := cw_k h
  have h' := h
  obtain ⟨hA, hb, hy, h1, h2⟩ := h
  have hA' := hA
  obtain ⟨hw, ha, hP, hD, oP, oD⟩ := hA
  have v4 := oD.2.2.2.1
  rw [e26, b26_0 (wd_o hw ha) (by_o hc.1 hy), hy.2.2.2.2.2.1, hD.2.2.2.2.1]
  unfold ab_fal
  have hs2 : mm_ex (d + 2) 26 26 [.ref e, .ref a] [] S = some (some (.int (nI (ab_gy P D b 0))), S) := by
    rw [b26_26 (by_q hc.1 hy), s2 h', hp_bd, hp_ts, b26_31]
  by_cases g : ab_v P b < ab_pr D
  · rw [if_neg (nI_ge g (by omega)), b26_11 (by_o hc.1 hy) hk, hy.2.2.2.2.1, s17 hA' hb, hp_bd, hp_ts, b26_19]
    cases hm : ab_frn P D b with
    | true => rw [if_pos rfl, if_neg (by decide), b26_22, if_pos ⟨g, rfl⟩]
    | false => rw [if_pos (by decide), hs2, if_neg (fun e => by cases e.2)]
  · rw [if_pos (nI_le (Nat.le_of_not_lt g) (by omega)), hs2, if_neg (fun e => g e.1)]
theorem s56 (h : cd_w S a e P D b) : mm_cl (d + 2) 56 [.ref e, .ref a] S = some (some (.int (nI (if ab_lo D ≤ ab_v P b then 1 else ab_gy P D b (ab_v P b)))), S) := by
  have hc := cw_k h
  have h' := h
  obtain ⟨⟨hw, ha, hP, hD, oP, oD⟩, hb, hy, h1, h2⟩ := h
  have v4 := oD.2.2.2.2
  rw [e56, b56_0 (wd_o hw ha) (by_o hc.1 hy), hy.2.2.2.2.2.1, hD.2.2.2.2.2.1]
  by_cases g : ab_lo D ≤ ab_v P b
  · rw [if_neg (nI_nlt g (by omega)), b56_11, if_pos g]
  · rw [if_pos (nI_lt (by omega) (by omega)), b56_15 (by_q hc.1 hy), s32 h', hp_bd, hp_ts, b56_20, if_neg g]
theorem s29 (h : cd_w S a e P D b) (hr : 0 < (ab_row D).length) : mm_cl (d + 3) 29 [.ref e, .ref a] S = some (some (.int (nI (if ab_v P b ≤ (ab_row D).length - 1 ∧ ab_may P D b = true then 3 else ab_wai P D b))), S) := by
  have hk := wd_k h.1.1 h.1.2.1
  have hc := cw_k h
  have h' := h
  obtain ⟨hA, hb, hy, h1, h2⟩ := h
  have hA' := hA
  obtain ⟨hw, ha, hP, hD, oP, oD⟩ := hA
  have v4 := row_le oP oD
  rw [e29, b29_0 (wd_o hw ha) (by_o hc.1 hy), hy.2.2.2.2.2.1, hD.1, pk_sub hr]
  have hs2 : mm_ex (d + 3) 29 28 [.ref e, .ref a] [] S = some (some (.int (nI (ab_wai P D b))), S) := by
    rw [b29_28 (by_q hc.1 hy), s70 h', hp_bd, hp_ts, b29_33]
  by_cases g : ab_v P b ≤ (ab_row D).length - 1
  · rw [if_neg (nI_nlt g (by omega)), b29_13 (by_o hc.1 hy) hk, hy.2.2.2.2.1, s16 hA' hb, hp_bd, hp_ts, b29_21]
    cases hm : ab_may P D b with
    | true => rw [if_pos rfl, if_neg (by decide), b29_24, if_pos ⟨g, rfl⟩]
    | false => rw [if_pos (by decide), hs2, if_neg (fun e => by cases e.2)]
  · rw [if_pos (nI_lt (by omega) (by omega)), hs2, if_neg (fun e => g e.1)]
theorem s66 (h : cd_w S a e P D b) : mm_cl (d + 3) 66 [.ref e, .ref a] S = some (some (.int (nI (if ab_te P (3 * b + ab_pr D % 3) = 0 ∨ (ab_te P (3 * b + ab_pr D % 3) = 3 ∧ ab_may P D b = false) then ab_fal P D b else ab_te P (3 * b + ab_pr D % 3)))), S) := by
  have hk := wd_k h.1.1 h.1.2.1
  have hc := cw_k h
  have h' := h
  obtain ⟨hA, hb, hy, h1, h2⟩ := h
  have hA' := hA
  obtain ⟨hw, ha, hP, hD, oP, oD⟩ := hA
  have v4 := oD.2.2.2.1
  have k6 := oP.1
  have hix : (mm_M S e 1 * nI 3) + (mm_M S a 12 - mm_M S a 12 / nI 3 * nI 3) = nI (3 * b + ab_pr D % 3) := by
    rw [hy.2.2.2.2.1, hD.2.2.2.2.1, pk_rem (by omega) (by decide) (by decide), nI_mul, nI_add]
    congr 1
    omega
  have h18 : 3 * b + ab_pr D % 3 < 18 := by omega
  have ht := oP.2.2.2.2.2 (3 * b + ab_pr D % 3) (by omega)
  have hs2 : ∀ x2, mm_ex (d + 3) 66 39 [.ref e, .ref a, .int x2, .null] [] S = some (some (.int (nI (ab_fal P D b))), S) := by
    intro x2
    rw [b66_39, if_neg (by decide), b66_49 (by_q hc.1 hy), s26 h', hp_bd, hp_ts, b66_54]
  have hs3 : ∀ x2, mm_ex (d + 3) 66 43 [.ref e, .ref a, .int x2, .null] [] S = some (some (.int x2), S) := by
    intro x2
    rw [b66_43, if_pos rfl, b66_57]
  rw [e66, b66_0 (wd_o hw ha) (wd_s2 hw ha) (by_o hc.1 hy) (by rw [hix]; exact di_2 hw ha h18) (dx_2 hw ha), hix, nI_clamp (by omega), wd_g2 hw ha, hP.2.2.2.1 _ (by omega)]
  by_cases g0 : ab_te P (3 * b + ab_pr D % 3) = 0
  · rw [if_pos (by rw [g0]), hs2, if_pos (Or.inl g0)]
  · rw [if_neg (fun e => g0 ((nI_eq (by omega) (by omega)).mp e)), b66_23]
    by_cases g3 : ab_te P (3 * b + ab_pr D % 3) = 3
    · rw [if_pos (by rw [g3]), b66_28 (by_o hc.1 hy) hk, hy.2.2.2.2.1, s16 hA' hb, hp_bd, hp_ts, b66_36]
      cases hm : ab_may P D b with
      | true => rw [if_pos rfl, if_neg (by decide), hs3, if_neg (fun e => e.elim g0 (fun e => by cases e.2))]
      | false => rw [if_pos (by decide), hs2, if_pos (Or.inr ⟨g3, rfl⟩)]
    · rw [if_neg (fun e => g3 ((nI_eq (by omega) (by omega)).mp e)), hs3, if_neg (fun e => e.elim g0 (fun e => g3 e.1))]
/-- the numbers of does by kind -/
def cd_dn (k : Nat) : Nat := ([2, 32, 70, 26, 56, 29, 66] : List Nat).getD k 0
theorem sdo (h : cd_w S a e P D b) (hr : 0 < (ab_row D).length) : mm_cl (d + 3) (cd_dn (ab_ki P b)) [.ref e, .ref a] S = some (some (.int (nI (ab_act P D b ((ab_row D).length - 1)))), S) := by
  have hc := (cw_k h).1
  have hk : ab_ki P b = 0 ∨ ab_ki P b = 1 ∨ ab_ki P b = 2 ∨ ab_ki P b = 3 ∨ ab_ki P b = 4 ∨ ab_ki P b = 5 ∨ ab_ki P b = 6 := by omega
  unfold ab_act
  rcases hk with hk | hk | hk | hk | hk | hk | hk <;> rw [hk]
  · exact s2 h
  · exact s32 h
  · exact s70 h
  · exact s26 h
  · exact s56 h
  · exact s29 h hr
  · exact s66 h
end DO
