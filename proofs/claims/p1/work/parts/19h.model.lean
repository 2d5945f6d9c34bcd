/-! ===== the model's rows of rows on a fresh object ===== -/
def mm_mz (S : mm_S) : Prop := mm_W S ∧ mm_M S 92 0 = nI 0 ∧ mm_M S 92 8 = nI 0 ∧ mm_M S 92 12 = nI 0 ∧ mm_n S ≤ 200 ∧ mm_z S ≤ 5000
section MZ
variable {S : mm_S} {d : Nat}
theorem mz_G (hG : mm_Gd S) : mm_mz S := ⟨hG.1, ff_92_0 hG.2.1, ff_92_8 hG.2.1, ff_92_12 hG.2.1, hG.2.2.2.2.2.2.1, hG.2.2.2.2.2.2.2⟩
theorem mz_kp (h : mm_mz S) : mm_mz (mm_kp S) := by
  refine ⟨h.1, ?_, ?_, ?_, h.2.2.2.2⟩ <;> rw [kp_M, if_pos rfl] <;> simp +decide only [if_false, h.2.1, h.2.2.1, h.2.2.2.1]
theorem mz_lk (h : mm_mz S) : mm_mz (mm_ly (mm_kp S)) := by
  refine ⟨h.1, ?_, ?_, ?_, h.2.2.2.2⟩ <;> rw [ly_M, if_pos rfl] <;> simp +decide only [if_false, if_true, kp_M, h.2.1, h.2.2.1, h.2.2.2.1]
theorem s178_0 (h : mm_mz S) {x : Int32} : mm_cl (d + 1) 178 [.ref 92, .int x] S = some (none, S) := by
  rw [e178, b178_0, b178_4 (wf_o92 h.1), if_pos (by rw [h.2.1]; decide), b178_38, b178_43 (wf_o92 h.1), if_pos (by rw [h.2.2.1]; decide), b178_134]
theorem s177_0 : mm_cl d 177 [.int (nI 0)] S = some (some (.int (nI 1)), S) := by
  rw [e177, b177_0, b177_4, if_pos (by decide), b177_19]
theorem s174_0 (h : mm_mz S) : mm_cl d 174 [.ref 92] S = some (some (.int (nI 0)), S) := by
  rw [e174, b174_0, b174_4 (wf_o92 h.1), if_pos (by rw [h.2.1]; decide), b174_27]
theorem s179_g (h : mm_mz S) {w : Int32} (hw : w = nI 0 ∨ w = nI 1) : mm_cl (d + 3) 179 [.ref 92, .int w, .int (-1)] S = some (some (.int (nI 0)), mm_ly (mm_kp S)) := by
  have h1 := mz_kp h
  have h2 := mz_lk h
  have e0 : ¬ (w < nI 0 ∨ nI 1 < w) := by rcases hw with rfl | rfl <;> decide
  have e1 : ¬ ((-1 : Int32) < -1 ∨ mm_M S 92 8 - nI 1 < -1) := by rw [h.2.2.1]; decide
  rw [e179, b179_0, s128, if_neg e0, hp_bd, hp_ts, b179_6, if_neg i01, b179_9 (wf_o92 h.1), s128, if_neg e1, hp_bd, hp_ts, b179_20, if_neg i01, b179_26 (wf_o92 h.1), if_pos (by rw [h.2.2.1]; decide), b179_37,
    b179_45 (wf_o92 h.1), h.2.2.1, s177_0, hp_bd, hp_tsc, b179_54, if_neg (by decide), b179_57 (wf_k92 h.1), s171 h.1, hp_bd, hp_tnc, b179_61 (wf_k92 h1.1), s178_0 h1, hp_bd, hp_tnc, b179_67 (wf_k92 h1.1), s173_0 h1.1 h1.2.2.1, hp_bd, hp_tnc, b179_71]
  have fin : mm_ex (d + 3) 179 92 [.ref 92, .int w, .int (-1), .int (-1), .int (nI 0), .int (nI 0), .int (nI 0)] [] (mm_ly (mm_kp S)) = some (some (.int (nI 0)), mm_ly (mm_kp S)) := by
    rw [b179_92, if_pos rfl, b179_104, b179_45 (wf_o92 h2.1), h2.2.2.1, s177_0, hp_bd, hp_tsc, b179_54, if_pos (by decide), b179_117, if_pos rfl, b179_122]
  rcases hw with rfl | rfl
  · rw [if_pos rfl, b179_75 (wf_o92 h1.1) (wf_k92 h1.1), s172 h1.1, hp_bd, hp_tnc, h1.2.2.2.1, fin]
  · rw [if_neg i01, b179_82 (wf_k92 h1.1), s174_0 h1, hp_bd, hp_ts, b179_86 (wf_k92 h1.1), s172 h1.1, hp_bd, hp_tnc, fin]
theorem s179_bw (h : mm_mz S) {w k : Int32} (hw : w < nI 0 ∨ nI 1 < w) : mm_cl (d + 3) 179 [.ref 92, .int w, .int k] S = some (some (.int (-100001)), S) := by
  rw [e179, b179_0, s128, if_pos hw, hp_bd, hp_ts, b179_6, if_pos rfl, b179_23]
theorem s179_bk (h : mm_mz S) {w k : Int32} (hw : w = nI 0 ∨ w = nI 1) (hk : k < -1 ∨ ¬ k < nI 0) : mm_cl (d + 3) 179 [.ref 92, .int w, .int k] S = some (some (.int (-100001)), S) := by
  have e0 : ¬ (w < nI 0 ∨ nI 1 < w) := by rcases hw with rfl | rfl <;> decide
  have e1 : k < -1 ∨ mm_M S 92 8 - nI 1 < k := by
    rcases hk with hk | hk
    · exact Or.inl hk
    · right; rw [h.2.2.1]; exact of_eq_true (i_m1 hk)
  rw [e179, b179_0, s128, if_neg e0, hp_bd, hp_ts, b179_6, if_neg i01, b179_9 (wf_o92 h.1), s128, if_pos e1, hp_bd, hp_ts, b179_20, if_pos rfl, b179_23]
theorem V14 (w k : Int32) : ((w < nI 0 ∨ nI 1 < w) ∧ (if w = nI 0 then (if k = -1 then nI 0 else -100001) else if w = nI 1 then (if k = -1 then nI 0 else -100001) else -100001 : Int32) = -100001) ∨ ((w = nI 0 ∨ w = nI 1) ∧ (k < -1 ∨ ¬ k < nI 0) ∧ (if w = nI 0 then (if k = -1 then nI 0 else -100001) else if w = nI 1 then (if k = -1 then nI 0 else -100001) else -100001 : Int32) = -100001) ∨ ((w = nI 0 ∨ w = nI 1) ∧ k = -1 ∧ (if w = nI 0 then (if k = -1 then nI 0 else -100001) else if w = nI 1 then (if k = -1 then nI 0 else -100001) else -100001 : Int32) = nI 0) := by
  rcases i_rg w 1 2 (by decide) rfl with ⟨q, -, r⟩ | ⟨-, -, q, r⟩ | ⟨j, hj, rfl⟩
  · exact Or.inl ⟨Or.inl q, by rw [if_neg (r 0 (by decide)), if_neg (r 1 (by decide))]⟩
  · exact Or.inl ⟨Or.inr q, by rw [if_neg (r 0 (by decide)), if_neg (r 1 (by decide))]⟩
  · have hw : nI j = nI 0 ∨ nI j = nI 1 := by
      rcases (by omega : j = 0 ∨ j = 1) with rfl | rfl
      · exact Or.inl rfl
      · exact Or.inr rfl
    rcases i_km k with ⟨k1, k2, k3⟩ | rfl | ⟨k1, k2, k3⟩
    · refine Or.inr (Or.inl ⟨hw, Or.inl k1, ?_⟩)
      rw [if_neg k3]; simp only [ite_self]
    · refine Or.inr (Or.inr ⟨hw, rfl, ?_⟩)
      rcases hw with e | e
      · rw [if_pos e, if_pos rfl]
      · rw [if_pos rfl, if_pos e]; simp only [ite_self]
    · refine Or.inr (Or.inl ⟨hw, Or.inr k1, ?_⟩)
      rw [if_neg k3]; simp only [ite_self]
theorem pm_14 (hG : mm_Gd S) {w k : Int32} : ∃ S1, mm_cl 29 179 [.ref 92, .int w, .int k] S = some (some (.int (if w = nI 0 then (if k = -1 then nI 0 else -100001) else if w = nI 1 then (if k = -1 then nI 0 else -100001) else -100001)), S1) ∧ mm_n S1 ≤ 600000 ∧ mm_z S1 ≤ 7302250 := by
  have h := mz_G hG
  have z1 := h.2.2.2.2.1
  have z2 := h.2.2.2.2.2
  rcases V14 w k with ⟨hw, e⟩ | ⟨hw, hk, e⟩ | ⟨hw, hk, e⟩
  · rw [e]; exact ⟨S, s179_bw (d := 26) h hw, by omega, by omega⟩
  · rw [e]; exact ⟨S, s179_bk (d := 26) h hw hk, by omega, by omega⟩
  · rw [e]; subst hk; exact ⟨_, s179_g (d := 26) h hw, by rw [ly_n, kp_n]; omega, by rw [ly_z, kp_z]; omega⟩
theorem lg_00 : lg_cmp (0 : Int64) 0 = nI 0 := by decide
theorem s182_g (h : mm_mz S) {w : Int32} (hw : w = nI 0 ∨ w = nI 1) : mm_cl (d + 3) 182 [.ref 92, .int w] S = some (some (.long w.toInt64), mm_ly (mm_kp S)) := by
  have h1 := mz_kp h
  have h2 := mz_lk h
  have e0 : ¬ (w < nI 0 ∨ nI 1 < w) := by rcases hw with rfl | rfl <;> decide
  have ez : (0 : Int64) + (nI 0).toInt64 = 0 := by decide
  rw [e182, b182_0, s128, if_neg e0, hp_bd, hp_ts, b182_6, if_neg i01, b182_9 (wf_o92 h.1), if_pos (by rw [h.2.2.1]; decide), b182_21,
    b182_26 (wf_o92 h.1), h.2.2.1, s177_0, hp_bd, hp_tsc, b182_35, if_neg (by decide), b182_38 (wf_k92 h.1), s171 h.1, hp_bd, hp_tnc, b182_42 (wf_k92 h1.1), s178_0 h1, hp_bd, hp_tnc, b182_48 (wf_k92 h1.1), s173_0 h1.1 h1.2.2.1, hp_bd, hp_tnc,
    b182_52 (wf_o92 h1.1) (wf_k92 h1.1), s172 h1.1, hp_bd, hp_tnc, h1.2.2.2.1, ez, b182_64, b182_26 (wf_o92 h2.1), h2.2.2.1, s177_0, hp_bd, hp_tsc, b182_35, if_pos (by decide), b182_70 (wf_o92 h2.1), h2.2.2.1, s177_0, hp_bd, hp_tsc, b182_78, e181, b181_0, lg_00, if_pos rfl, b181_6, hp_bd, hp_ts, b182_83]
theorem s182_b (h : mm_mz S) {w : Int32} (hw : w < nI 0 ∨ nI 1 < w) : mm_cl (d + 3) 182 [.ref 92, .int w] S = some (some (.long (-9223372036854775808)), S) := by
  rw [e182, b182_0, s128, if_pos hw, hp_bd, hp_ts, b182_6, if_pos rfl, b182_17]
theorem pm_16 (hG : mm_Gd S) {p : Int32} : ∃ S1, mm_cl 29 182 [.ref 92, .int p] S = some (some (.long (if p = nI 0 then 0 else if p = nI 1 then 1 else -9223372036854775808)), S1) ∧ mm_n S1 ≤ 600000 ∧ mm_z S1 ≤ 7302250 := by
  have h := mz_G hG
  have z1 := h.2.2.2.2.1
  have z2 := h.2.2.2.2.2
  rcases i_rg p 1 2 (by decide) rfl with ⟨q, -, r⟩ | ⟨-, -, q, r⟩ | ⟨j, hj, rfl⟩
  · rw [if_neg (r 0 (by decide)), if_neg (r 1 (by decide))]; exact ⟨S, s182_b (d := 26) h (Or.inl q), by omega, by omega⟩
  · rw [if_neg (r 0 (by decide)), if_neg (r 1 (by decide))]; exact ⟨S, s182_b (d := 26) h (Or.inr q), by omega, by omega⟩
  · rcases (by omega : j = 0 ∨ j = 1) with rfl | rfl
    · rw [if_pos rfl]; exact ⟨_, s182_g (d := 26) h (Or.inl rfl), by rw [ly_n, kp_n]; omega, by rw [ly_z, kp_z]; omega⟩
    · rw [if_neg i01, if_pos rfl]; exact ⟨_, s182_g (d := 26) h (Or.inr rfl), by rw [ly_n, kp_n]; omega, by rw [ly_z, kp_z]; omega⟩
end MZ
