/-! ===== the day to its end, in the reference ===== -/
def ab_bits (l : List (Nat × Nat)) (x : Int32) : Int32 := l.foldl (fun x e => if e.2 = 1 then x ||| (nI 1 <<< (nI e.1 &&& 31)) else x) x
def ab_refs (l : List (Nat × Nat)) (x : Int32) : Int32 := l.foldl (fun x e => if e.2 = 2 then x + nI 1 else x) x
section MF
variable {S T U : mm_S} {b k n i d h w L c j : Nat} {P : ab_P} {D : ab_D} {x : Int32} {r : List Nat}
theorem s168w (hA : md_A S P D) : mm_cl d 168 [.ref 92] S = some (some (.int (if ab_com D = true then nI 1 else nI 0)), S) := by
  have hl := row_le hA.2.2.2.1 hA.2.2.2.2
  have h9 := hA.2.2.2.2.2.2.2.2
  rw [s168 hA.1, hA.2.2.1.1, hA.2.2.1.2.2.2.2.2.1]
  unfold ab_com
  congr 3
  have e1 : (nI (ab_row D).length ≤ nI 0) = ¬ (0 < (ab_row D).length) := propext ((nI_leI (by omega) (by decide)).trans (by omega))
  have e2 : (nI (ab_lo D) ≤ nI 0) = ¬ (0 < ab_lo D) := propext ((nI_leI (by omega) (by decide)).trans (by omega))
  simp only [e1, e2]
  by_cases h1 : 0 < (ab_row D).length <;> by_cases h2 : 0 < ab_lo D <;> simp [h1, h2]
/-- the head's turn, with what it does by its kind -/
theorem s169t (hA : md_A S P D) (hc : ab_com D = true) : ∃ b r U T, ab_row D = b :: r ∧ mm_M S 100 0 = nI b ∧ mm_cl (d + 8) 166 [.ref 92, .int (nI b)] S = some (some (.int (nI (ab_ha P D))), U) ∧ md_q S U ∧ mm_cl (d + 8) 169 [.ref 92, .int (nI (ab_ha P D))] U = some (none, T) ∧ md_fr S T ∧ md_A T P (ab_turn P D) ∧ mm_M T 92 42 = ab_bits [((ab_row D).headD 0, ab_ha P D)] (mm_M S 92 42) ∧ mm_M T 92 43 = ab_refs [((ab_row D).headD 0, ab_ha P D)] (mm_M S 92 43) := by
  obtain ⟨b, r, hr, hlo⟩ := com_row hc
  have hw := hA.1
  have hb : b < ab_kn P := hA.2.2.2.2.2.1 b (by rw [hr]; exact List.mem_cons_self)
  have hh := hA.2.2.1.2.1 0 (by rw [hr]; exact Nat.succ_pos _)
  rw [hr] at hh
  have hh : mm_M S 100 0 = nI b := hh
  have hmem : b ∈ ab_row D := by rw [hr]; exact List.mem_cons_self
  have eo : ab_oth D b = (ab_row D).length - 1 := if_pos hmem
  have eha : ab_ha P D = ab_act P D b ((ab_row D).length - 1) := by unfold ab_ha; rw [hr]; rfl
  have etu : ab_turn P D = ab_do P D b r (ab_ha P D) := by unfold ab_turn ab_does; rw [hr]
  have ok := @ab_act_ok P D b ((ab_row D).length - 1) hA.2.2.2.1 hA.2.2.2.2 hb
  have h3 := act_123 (o := (ab_row D).length - 1) hA.2.2.2.1 hA.2.2.2.2 hb
  obtain ⟨U, g1, g2⟩ := s166 (d := d) hA hb
  rw [eo, ← eha] at g1
  rw [← eha] at ok h3
  obtain ⟨T, g3, g4, g5, g6, g7⟩ := s169 (d := d + 3) (mq_A g2 hA) hr h3 hlo ok.2.2
  have q42 : mm_M U 92 42 = mm_M S 92 42 := g2.2 _ _ (by decide)
  have q43 : mm_M U 92 43 = mm_M S 92 43 := g2.2 _ _ (by decide)
  refine ⟨b, r, U, T, hr, hh, g1, g2, g3, mf_tr (mf_q g2) g4, by rw [etu]; exact g5, ?_, ?_⟩
  · rw [g6, q42, hr]; rfl
  · rw [g7, q43, hr]; rfl
theorem s173_loop : ∀ (k : Nat) (S : mm_S) (D : ab_D), md_A S P D → ab_mea D ≤ k → ∃ T, mm_ex (d + 9) 173 0 [.ref 92] [] S = some (none, T) ∧ md_fr S T ∧ md_A T P (ab_end P k D) ∧ mm_M T 92 42 = ab_bits (ab_log P k D) (mm_M S 92 42) ∧ mm_M T 92 43 = ab_refs (ab_log P k D) (mm_M S 92 43) := by
  intro k
  induction k with
  | zero =>
    intro S D hA hm
    have hc : ab_com D = false := by
      cases hc : ab_com D with
      | false => rfl
      | true => have := (ab_turn_ok hA.2.2.2.1 hA.2.2.2.2 hc).2; omega
    exact ⟨S, by rw [b173_0 (wf_k92 hA.1), s168w hA, hp_bd, hp_ts, b173_4, hc, if_pos (by decide), b173_24], mf_rf, hA, rfl, rfl⟩
  | succ k ih =>
    intro S D hA hm
    cases hc : ab_com D with
    | false =>
      refine ⟨S, by rw [b173_0 (wf_k92 hA.1), s168w hA, hp_bd, hp_ts, b173_4, hc, if_pos (by decide), b173_24], mf_rf, ?_, ?_, ?_⟩
      · unfold ab_end; rw [hc]; exact hA
      · unfold ab_log; rw [hc]; rfl
      · unfold ab_log; rw [hc]; rfl
    | true =>
      have hw := hA.1
      have ht := ab_turn_ok hA.2.2.2.1 hA.2.2.2.2 hc
      obtain ⟨b, r, U, T1, hr, hh, g1, g2, g3, g4, g5, g6, g7⟩ := s169t (d := d) hA hc
      obtain ⟨T2, f1, f2, f3, f4, f5⟩ := ih T1 (ab_turn P D) g5 (by omega)
      have wU := mq_W g2 hw
      have c0 : (nI 0).toNatClampNeg = 0 := nI_clamp (by decide)
      refine ⟨T2, ?_, mf_tr g4 f2, ?_, ?_, ?_⟩
      · rw [b173_0 (wf_k92 hw), s168w hA, hp_bd, hp_ts, b173_4, hc, if_neg (by decide), b173_7 (wf_o92 hw) (wf_s92_9 hw) (by rw [wf_g92_9 hw, wf_N100 hw]; exact hp_inb (by decide) (by decide)) (by rw [wf_g92_9 hw]; exact wf_a100 hw) (wf_k92 hw), wf_g92_9 hw, c0, hh, g1, hp_bd, hp_tsc, b173_18 (wf_k92 wU), g3, hp_bd, hp_tn, b173_21, f1]
      · unfold ab_end; rw [hc, if_pos rfl]; exact f3
      · unfold ab_log; rw [hc, if_pos rfl, f4, g6]; rfl
      · unfold ab_log; rw [hc, if_pos rfl, f5, g7]; rfl
def ab_lgs (P : ab_P) (D : ab_D) : List (Nat × Nat) := ab_log P 60 D
theorem s173 (hA : md_A S P D) : ∃ T, mm_cl (d + 9) 173 [.ref 92] S = some (none, T) ∧ md_fr S T ∧ md_A T P (ab_fin P D) ∧ mm_M T 92 42 = ab_bits (ab_lgs P D) (mm_M S 92 42) ∧ mm_M T 92 43 = ab_refs (ab_lgs P D) (mm_M S 92 43) := by
  obtain ⟨T, g⟩ := s173_loop (d := d) 60 S D hA (ab_mea_le hA.2.2.2.1.1 hA.2.2.2.2)
  exact ⟨T, by rw [e173, g.1], g.2⟩
theorem s174_loop (hA : md_A S P D) : ∀ k i : Nat, i + k = ab_kn P → mm_ex d 174 4 [.ref 92, .int (ab_all i (ab_ga D)), .int (nI i)] [] S = some (some (.int (ab_all (ab_kn P) (ab_ga D))), S) := by
  have hw := hA.1
  have k6 := hA.2.2.2.1.1
  intro k
  induction k with
  | zero =>
    intro i hi
    have e : i = ab_kn P := by omega
    rw [b174_4 (wf_o92 hw), hA.2.1.1, if_pos (nI_le (by omega) (by omega)), b174_27, e]
  | succ k ih =>
    intro i hi
    rw [b174_4 (wf_o92 hw), hA.2.1.1, if_neg (nI_ge (by omega) (by omega)), b174_12 (wf_o92 hw) (wf_s92_6 hw) (by rw [wf_g92_6 hw, wf_N98 hw]; exact hp_inb (by omega) (by omega)) (by rw [wf_g92_6 hw]; exact wf_a98 hw), wf_g92_6 hw, nI_clamp (by omega), hA.2.2.1.2.2.2.1 i (by omega), nI_add, ← all_s, ih (i + 1) (by omega)]
theorem s174 (hA : md_A S P D) : mm_cl d 174 [.ref 92] S = some (some (.int (ab_all (ab_kn P) (ab_ga D))), S) := by
  rw [e174, b174_0, ← s174_loop (d := d) hA (ab_kn P) 0 (Nat.zero_add _)]
  rfl
end MF
