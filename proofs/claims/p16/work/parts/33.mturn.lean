/-! ===== turns in the reference ===== -/
section MT
variable {S T U : mm_S} {b k n i d h w L c j : Nat} {P : ab_P} {D : ab_D} {x : Int32} {r : List Nat}
/-- how many others stand -/
def ab_oth (D : ab_D) (b : Nat) : Nat := if b ∈ ab_row D then (ab_row D).length - 1 else (ab_row D).length
theorem s166 (hA : md_A S P D) (hb : b < ab_kn P) : ∃ T, mm_cl (d + 8) 166 [.ref 92, .int (nI b)] S = some (some (.int (nI (ab_act P D b (ab_oth D b)))), T) ∧ md_q S T := by
  have hw := hA.1
  have oP := hA.2.2.2.1
  have oD := hA.2.2.2.2
  have hb6 := Nat.lt_of_lt_of_le hb oP.1
  have hB := hA.2.1.2.1 b hb
  have hk := oP.2.2.2.1 b hb
  have v4 := oD.2.2.2.1
  have lo9 := oD.2.2.2.2
  have rl := row_le oP oD
  have k6 := oP.1
  have cl : (nI b).toNatClampNeg = b := nI_clamp (by omega)
  have hix : nI 3 * nI b + (nI (ab_pr D) - nI (ab_pr D) / nI 3 * nI 3) = nI (3 * b + ab_pr D % 3) := by
    rw [pk_rem (by omega) (by decide) (by decide), nI_mul, nI_add]
  have h18 : 3 * b + ab_pr D % 3 < 18 := by omega
  have ht := oP.2.2.2.2.2 (3 * b + ab_pr D % 3) (by omega)
  have i99 : mm_inb (nI 3 * nI b + (mm_M S 92 10 - mm_M S 92 10 / nI 3 * nI 3)) (mm_N S (mm_rg S 92 7)) = true := by
    rw [hA.2.2.1.2.2.2.2.1, hix, wf_g92_7 hw, wf_N99 hw]; exact hp_inb h18 (by omega)
  have a99 : mm_arr S (mm_rg S 92 7) 13 = true := by rw [wf_g92_7 hw]; exact wf_a99 hw
  have i93 : mm_inb (nI b) (mm_N S (mm_rg S 92 1)) = true := by rw [wf_g92_1 hw, wf_N93 hw]; exact hp_inb hb6 (by omega)
  have a93 : mm_arr S (mm_rg S 92 1) 13 = true := by rw [wf_g92_1 hw]; exact wf_a93 hw
  have i94 : mm_inb (nI b) (mm_N S (mm_rg S 92 2)) = true := by rw [wf_g92_2 hw, wf_N94 hw]; exact hp_inb hb6 (by omega)
  have a94 : mm_arr S (mm_rg S 92 2) 13 = true := by rw [wf_g92_2 hw]; exact wf_a94 hw
  have e99 : mm_M S 99 (3 * b + ab_pr D % 3) = nI (ab_te P (3 * b + ab_pr D % 3)) := hA.2.1.2.2.1 _ (by omega)
  have start : mm_cl (d + 8) 166 [.ref 92, .int (nI b)] S = mm_ex (d + 8) 166 43 [.ref 92, .int (nI b), .int (nI (ab_oth D b)), .int (nI (ab_te P (3 * b + ab_pr D % 3)))] [.int (nI (ab_ki P b))] S := by
    rw [e166, b166_0 (wf_o92 hw) (wf_k92 hw), s130 hA hb6, hp_bd, hp_tsc, hA.2.2.1.1, b166_9]
    unfold ab_oth
    by_cases hm : b ∈ ab_row D
    · have : 0 < (ab_row D).length := List.length_pos_of_mem hm
      rw [if_neg (by rw [at_neg hA]; exact fun e => e hm), b166_18 (wf_o92 hw) (wf_s92_7 hw) i99 a99 (wf_s92_1 hw) i93 a93, hA.2.2.1.2.2.2.2.1, hix, wf_g92_7 hw, wf_g92_1 hw, nI_clamp (by omega), cl, e99, hB.1, if_pos hm, pk_sub (by omega)]
    · rw [if_pos (by rw [at_neg hA]; exact hm), b166_14 (wf_o92 hw) (wf_s92_7 hw) i99 a99 (wf_s92_1 hw) i93 a93, hA.2.2.1.2.2.2.2.1, hix, wf_g92_7 hw, wf_g92_1 hw, nI_clamp (by omega), cl, e99, hB.1, if_neg hm, pk_sub (by omega)]
      rfl
  have ol : ab_oth D b ≤ 6 := by unfold ab_oth; split <;> omega
  rw [start, b166_43]
  generalize ab_oth D b = o at ol
  unfold ab_act
  rcases (by omega : ab_ki P b = 0 ∨ ab_ki P b = 1 ∨ ab_ki P b = 2 ∨ ab_ki P b = 3 ∨ ab_ki P b = 4 ∨ ab_ki P b = 5 ∨ ab_ki P b = 6) with h0 | h0 | h0 | h0 | h0 | h0 | h0 <;> rw [h0]
  · obtain ⟨T, g1, g2⟩ := s162 (d := d + 1) hA hb
    exact ⟨T, by rw [if_neg (by decide), if_neg (by decide), if_neg (by decide), if_neg (by decide), if_neg (by decide), if_neg (by decide), b166_176 (wf_k92 hw), g1, hp_bd, hp_ts, b166_181]; rfl, g2⟩
  · obtain ⟨T, g1, g2⟩ := s165 (d := d + 1) hA hb
    exact ⟨T, by rw [if_pos rfl, b166_80 (wf_k92 hw), g1, hp_bd, hp_ts, b166_85]; rfl, g2⟩
  · obtain ⟨T, g1, g2⟩ := s163 (d := d) hA hb
    exact ⟨T, by rw [if_neg (by decide), if_pos rfl, b166_86 (wf_k92 hw), g1, hp_bd, hp_ts, b166_91]; rfl, g2⟩
  · obtain ⟨T, g1, g2⟩ := s164 (d := d) hA hb
    exact ⟨T, by rw [if_neg (by decide), if_neg (by decide), if_pos rfl, b166_92 (wf_k92 hw), g1, hp_bd, hp_ts, b166_97]; rfl, g2⟩
  · rw [if_neg (by decide), if_neg (by decide), if_neg (by decide), if_pos rfl, b166_98 (wf_o92 hw) (wf_s92_2 hw) i94 a94, wf_g92_2 hw, cl, hB.2.1, hA.2.2.1.2.2.2.2.2.1]
    by_cases g : ab_lo D ≤ ab_v P b
    · exact ⟨S, by rw [if_neg (nI_nlt g (by omega)), b166_111]; show _ = some (some (Value.int (nI (if _ then _ else _))), S); rw [if_pos g], mq_rf⟩
    · obtain ⟨T, g1, g2⟩ := s165 (d := d + 1) hA hb
      exact ⟨T, by rw [if_pos (nI_lt (by omega) (by omega)), b166_115 (wf_k92 hw), g1, hp_bd, hp_ts, b166_120]; show _ = some (some (Value.int (nI (if _ then _ else _))), T); rw [if_neg g], g2⟩
  · rw [if_neg (by decide), if_neg (by decide), if_neg (by decide), if_neg (by decide), if_pos rfl, b166_121 (wf_o92 hw) (wf_s92_2 hw) i94 a94, wf_g92_2 hw, cl, hB.2.1]
    obtain ⟨T, g1, g2⟩ := s163 (d := d) hA hb
    have h143 : ∀ x2 x3, mm_ex (d + 8) 166 143 [.ref 92, .int (nI b), .int x2, .int x3] [] S = some (some (.int (nI (ab_wai P D b))), T) := by
      intro x2 x3
      rw [b166_143 (wf_k92 hw), g1, hp_bd, hp_ts, b166_148]
    show ∃ T, _ = some (some (Value.int (nI (if ab_v P b ≤ o ∧ ab_may P D b = true then 3 else ab_wai P D b))), T) ∧ _
    by_cases g : ab_v P b ≤ o
    · rw [if_neg (nI_nlt g (by omega)), b166_131 (wf_k92 hw), s160 hA hb, hp_bd, hp_ts, b166_136]
      cases hm : ab_may P D b with
      | true => exact ⟨S, by rw [if_pos rfl, if_neg (by decide), b166_139, if_pos ⟨g, rfl⟩], mq_rf⟩
      | false => exact ⟨T, by rw [if_pos (by decide), h143, if_neg (fun e => by cases e.2)], g2⟩
    · exact ⟨T, by rw [if_pos (nI_lt (by omega) (by omega)), h143, if_neg (fun e => g e.1)], g2⟩
  · rw [if_neg (by decide), if_neg (by decide), if_neg (by decide), if_neg (by decide), if_neg (by decide), if_pos rfl, b166_149]
    obtain ⟨T, g1, g2⟩ := s164 (d := d) hA hb
    have h166 : ∀ x2 x3, mm_ex (d + 8) 166 166 [.ref 92, .int (nI b), .int x2, .int x3] [] S = some (some (.int (nI (ab_fal P D b))), T) := by
      intro x2 x3
      rw [b166_166 (wf_k92 hw), g1, hp_bd, hp_ts, b166_171]
    show ∃ T, _ = some (some (Value.int (nI (if ab_te P (3 * b + ab_pr D % 3) = 0 ∨ (ab_te P (3 * b + ab_pr D % 3) = 3 ∧ ab_may P D b = false) then ab_fal P D b else ab_te P (3 * b + ab_pr D % 3)))), T) ∧ _
    by_cases g0 : ab_te P (3 * b + ab_pr D % 3) = 0
    · exact ⟨T, by rw [if_pos (by rw [g0]), h166, if_pos (Or.inl g0)], g2⟩
    · rw [if_neg (fun e => g0 ((nI_eq (by omega) (by omega)).mp e)), b166_153]
      by_cases g3 : ab_te P (3 * b + ab_pr D % 3) = 3
      · rw [if_pos (by rw [g3]), b166_158 (wf_k92 hw), s160 hA hb, hp_bd, hp_ts, b166_163]
        cases hm : ab_may P D b with
        | true => exact ⟨S, by rw [if_pos rfl, if_neg (by decide), b166_174, if_neg (fun e => e.elim g0 (fun e => by cases e.2))], mq_rf⟩
        | false => exact ⟨T, by rw [if_pos (by decide), h166, if_pos (Or.inr ⟨g3, rfl⟩)], g2⟩
      · exact ⟨S, by rw [if_neg (fun e => g3 ((nI_eq (by omega) (by omega)).mp e)), b166_174, if_neg (fun e => e.elim g0 (fun e => g3 e.1))], mq_rf⟩
/-- the row of the reference with its head gone, as far as place i (from 1) -/
def md_lv (S : mm_S) (i : Nat) : mm_S := mm_wM S (fun c j => if c = 100 ∧ j + 1 < i then mm_M S 100 (j + 1) else mm_M S c j)
theorem mlv_1 : md_lv S 1 = S := by
  refine st_ext (fun c j => ?_) (fun _ _ => rfl) (fun _ _ => rfl) (fun _ => rfl) (fun _ => rfl) rfl rfl
  show (if c = 100 ∧ j + 1 < 1 then _ else _) = _
  rw [if_neg (by omega)]
theorem mlv_fr : md_fr S (md_lv S i) := by
  refine ⟨rfl, fun c j h => ?_⟩
  show (if c = 100 ∧ j + 1 < i then _ else mm_M S c j) = _
  rw [if_neg (fun e => h (Or.inr (Or.inl e.1)))]
theorem mlv_n (h : c ≠ 100) : mm_M (md_lv S i) c j = mm_M S c j := by
  show (if c = 100 ∧ j + 1 < i then _ else mm_M S c j) = _
  rw [if_neg (fun e => h e.1)]
theorem mlv_6 (h : j + 1 < i) : mm_M (md_lv S i) 100 j = mm_M S 100 (j + 1) := by
  show (if 100 = 100 ∧ j + 1 < i then _ else _) = _
  rw [if_pos ⟨rfl, h⟩]
theorem mlv_6b (h : ¬ j + 1 < i) : mm_M (md_lv S i) 100 j = mm_M S 100 j := by
  show (if 100 = 100 ∧ j + 1 < i then _ else _) = _
  rw [if_neg (fun e => h e.2)]
theorem s169_loop (hw : mm_W S) (h8 : mm_M S 92 8 = nI n) (hn : n ≤ 6) (h1 : 1 ≤ n) {x1 x2 x3 x4 x5 x6 x7 : Int32} : ∀ q i : Nat, i + q = n → 1 ≤ i → mm_ex d 169 44 [.ref 92, .int x1, .int x2, .int x3, .int x4, .int x5, .int x6, .int x7, .int (nI i)] [] (md_lv S i) = mm_ex d 169 75 [.ref 92, .int x1, .int x2, .int x3, .int x4, .int x5, .int x6, .int x7, .int (nI n)] [] (md_lv S n) := by
  intro q
  induction q with
  | zero =>
    intro i hi h1i
    have e : i = n := by omega
    subst e
    rw [b169_44 (wf_o92 (mf_W mlv_fr hw)), mlv_n (by decide), h8, if_pos (nI_le (Nat.le_refl _) (by omega))]
  | succ q ih =>
    intro i hi h1i
    have w := mf_W (mlv_fr (S := S) (i := i)) hw
    have ii : mm_inb (nI i) (mm_N (md_lv S i) (mm_rg (md_lv S i) 92 9)) = true := by rw [wf_g92_9 w, wf_N100 w]; exact hp_inb (by omega) (by omega)
    have i1 : nI i - nI 1 = nI (i - 1) := pk_sub h1i
    have ii1 : mm_inb (nI i - nI 1) (mm_N (md_lv S i) (mm_rg (md_lv S i) 92 9)) = true := by rw [i1, wf_g92_9 w, wf_N100 w]; exact hp_inb (by omega) (by omega)
    rw [b169_44 (wf_o92 w), mlv_n (by decide), h8, if_neg (nI_ge (by omega) (by omega)), b169_53 (wf_o92 w) (wf_s92_9 w) ii (by rw [wf_g92_9 w]; exact wf_a100 w) ii1, i1, wf_g92_9 w, nI_clamp (by omega), nI_clamp (by omega), mlv_6b (by omega), nI_add, ← ih (i + 1) (by omega) (by omega)]
    congr 1
    refine st_ext (fun c j => ?_) (fun _ _ => rfl) (fun _ _ => rfl) (fun _ => rfl) (fun _ => rfl) rfl rfl
    rw [hp_MuM]
    show (if c = 100 ∧ j = i - 1 then _ else if c = 100 ∧ j + 1 < i then _ else _) = if c = 100 ∧ j + 1 < i + 1 then _ else _
    by_cases hc : c = 100
    · by_cases hj : j = i - 1
      · rw [if_pos ⟨hc, hj⟩, if_pos ⟨hc, by omega⟩]
        congr 1
        omega
      · rw [if_neg (fun e => hj e.2)]
        by_cases hl : j + 1 < i
        · rw [if_pos ⟨hc, hl⟩, if_pos ⟨hc, by omega⟩]
        · rw [if_neg (fun e => hl e.2), if_neg (fun e => by omega)]
    · rw [if_neg (fun e => hc e.1), if_neg (fun e : c = 100 ∧ j + 1 < i => hc e.1), if_neg (fun e : c = 100 ∧ j + 1 < i + 1 => hc e.1)]
theorem mlv_D (hD : md_D S n D) (hr : ab_row D = b :: r) : md_D (mm_uM (md_lv S (r.length + 1)) 92 8 (nI r.length)) n (r, D.2) := by
  obtain ⟨h1, h2, h3, h4, h5, h6, h7, h8⟩ := hD
  have g : ∀ c j, c ≠ 100 → (c = 92 → j ≠ 8) → mm_M (mm_uM (md_lv S (r.length + 1)) 92 8 (nI r.length)) c j = mm_M S c j := fun c j hc hj => by
    rw [hp_MuM, if_neg (fun e => hj e.1 e.2), mlv_n hc]
  refine ⟨uM_s, fun p hp => ?_, fun b hb => (g _ _ (by decide) (by omega)).trans (h3 b hb), fun b hb => (g _ _ (by decide) (by omega)).trans (h4 b hb), (g _ _ (by decide) (by decide)).trans h5, (g _ _ (by decide) (by decide)).trans h6, (g _ _ (by decide) (by decide)).trans h7, (g _ _ (by decide) (by decide)).trans h8⟩
  have hp : p < r.length := hp
  have h9 := h2 (p + 1) (by rw [hr]; exact Nat.succ_lt_succ hp)
  rw [hr] at h9
  rw [hp_MuM, if_neg (by omega), mlv_6 (by omega)]
  exact h9
end MT
