/-! ===== a turn, the day to its end, in the class ===== -/
section TN
variable {S T : mm_S} {a b d n k i c j e : Nat} {P : ab_P} {D : ab_D} {x : Int32} {r : List Nat}
theorem wg_fr : cd_fr a S (mm_uM (mm_uM (cd_mw S a b P D) a 18 (nI (ab_val P D b))) a 19 (nI (ab_cost P D b))) := fr_w (fr_w mw_fr (dc_a (by decide))) (dc_a (by decide))
theorem wg_D (hD : cd_D S a n D) : cd_D (mm_uM (mm_uM (cd_mw S a b P D) a 18 (nI (ab_val P D b))) a 19 (nI (ab_cost P D b))) a n D := by
  obtain ⟨h1, h2, h3, h4, h5, h6, h7, h8⟩ := mw_D (b := b) (P := P) hD
  exact ⟨(uM_k (by decide)).trans ((uM_k (by decide)).trans h1), fun p hp => (uM_0n (by decide)).trans ((uM_0n (by decide)).trans (h2 p hp)), fun b hb => (uM_0n (by decide)).trans ((uM_0n (by decide)).trans (h3 b hb)), fun b hb => (uM_0n (by decide)).trans ((uM_0n (by decide)).trans (h4 b hb)), (uM_k (by decide)).trans ((uM_k (by decide)).trans h5), (uM_k (by decide)).trans ((uM_k (by decide)).trans h6), (uM_k (by decide)).trans ((uM_k (by decide)).trans h7), (uM_k (by decide)).trans ((uM_k (by decide)).trans h8)⟩
/-- b is weighed: what is known then -/
theorem s19w (hA : cd_A S a P D) (hb : b < ab_kn P) : ∃ T e, mm_cl (d + 3) 19 [.ref a, .int (nI b)] S = some (none, T) ∧ cd_fr a S T ∧ cd_w T a e P D b ∧ mm_R T (a + 1) b = some e := by
  have fr := wg_fr (S := S) (a := a) (b := b) (P := P) (D := D)
  have A1 := fr_A fr hA (wg_D hA.2.2.2.1)
  obtain ⟨e, he, hy⟩ := A1.2.2.1.2.2.2.2.1 b hb
  exact ⟨_, e, s19 hA hb, fr, ⟨A1, hb, hy, (uM_k (by decide)).trans uM_s, uM_s⟩, he⟩
theorem s22w (hA : cd_A S a P D) (hr : ab_row D = b :: r) (h18 : mm_M S a 18 = nI (ab_val P D b)) (h19 : mm_M S a 19 = nI (ab_cost P D b)) {act : Nat} (hact : act = 1 ∨ act = 2 ∨ act = 3) (hlo : 0 < ab_lo D) (hm : act = 3 → ab_may P D b = true) : ∃ T, mm_cl (d + 1) 22 [.ref a, .int (nI act)] S = some (none, T) ∧ cd_fr a S T ∧ cd_A T a P (ab_do P D b r act) := by
  have hb : b < ab_kn P := hA.2.2.2.2.2.2.1 b (by rw [hr]; exact List.mem_cons_self)
  have hb6 := Nat.lt_of_lt_of_le hb hA.2.2.2.2.1.1
  have h := s22 (d := d) hA hr hb h18 h19 hact
  have fL := lv_fr (S := S) (a := a) (n := r.length + 1) (k := 0) (i := r.length)
  have hL := lv_D hA.2.2.2.1 hr
  have ok := (ab_do_kn (act := act) hA.2.2.2.2.1 hA.2.2.2.2.2 hr (fun h1 h2 => hm (by omega))).1
  refine ⟨_, h, ?_⟩
  have key : cd_fr a S (if act = 1 then cd_t1 (cd_lv S a (r.length + 1) 0 r.length) a b P D else if act = 2 then cd_t2 (cd_lv S a (r.length + 1) 0 r.length) a b P D else cd_t3 (cd_lv S a (r.length + 1) 0 r.length) a b r.length D) ∧ cd_D (if act = 1 then cd_t1 (cd_lv S a (r.length + 1) 0 r.length) a b P D else if act = 2 then cd_t2 (cd_lv S a (r.length + 1) 0 r.length) a b P D else cd_t3 (cd_lv S a (r.length + 1) 0 r.length) a b r.length D) a (ab_kn P) (ab_do P D b r act) := by
    rcases hact with rfl | rfl | rfl
    · rw [if_pos rfl]
      have := t1_D (P := P) hL hlo hb6
      exact ⟨fr_tr fL this.1, this.2⟩
    · rw [if_neg (by decide), if_pos rfl]
      have := t2_D (P := P) hL hb6
      exact ⟨fr_tr fL this.1, this.2⟩
    · rw [if_neg (by decide), if_neg (by decide)]
      have := t3_D (P := P) hL hb6
      exact ⟨fr_tr fL this.1, this.2⟩
  exact ⟨key.1, fr_W key.1 hA.1, hA.2.1, fr_P hA.2.1 hA.2.1 key.1 hA.2.2.1, key.2, hA.2.2.2.2.1, ok⟩
theorem com_row (h : ab_com D = true) : ∃ b r, ab_row D = b :: r ∧ 0 < ab_lo D := by
  unfold ab_com at h
  rw [Bool.and_eq_true, decide_eq_true_eq, decide_eq_true_eq] at h
  cases hr : ab_row D with
  | nil => rw [hr] at h; exact absurd h.1 (by decide)
  | cons b r => exact ⟨b, r, rfl, h.2⟩
theorem sdow (h : cd_w S a e P D b) (hr : 0 < (ab_row D).length) (he : mm_R S (a + 1) b = some e) : mm_ex (d + 4) 21 12 [.ref a, .int (nI b), .null] [] S = mm_ex (d + 4) 21 22 [.ref a, .int (nI b), .null] [.int (nI (ab_act P D b ((ab_row D).length - 1)))] S := by
  have hc := (cw_k h).1
  have hA := h.1
  have hw := hA.1
  have ha := hA.2.1
  have hb6 := Nat.lt_of_lt_of_le h.2.1 hA.2.2.2.2.1.1
  have sd := sdo (d := d) h hr
  have rk := by_k hc h.2.2.1
  have cl : (nI b).toNatClampNeg = b := nI_clamp (by omega)
  have rge : mm_rg S (mm_rg S a 0) (nI b).toNatClampNeg = e := by rw [wd_g0 hw ha, cl]; exact hp_rg he
  have rse : (mm_R S (mm_rg S a 0) (nI b).toNatClampNeg).isSome = true := by rw [wd_g0 hw ha, cl]; exact hp_rs he
  have i0 := di_0 hw ha hb6
  rcases (by omega : ab_ki P b = 0 ∨ ab_ki P b = 1 ∨ ab_ki P b = 2 ∨ ab_ki P b = 3 ∨ ab_ki P b = 4 ∨ ab_ki P b = 5 ∨ ab_ki P b = 6) with hk | hk | hk | hk | hk | hk | hk <;> rw [hk] at sd rk
  · rw [b21_12_k0 (wd_o hw ha) (wd_s0 hw ha) i0 (dx_0 hw ha) rse (by rw [rge]; exact rk), rge, show mm_cl (d + 3) 2 [.ref e, .ref a] S = _ from sd, hp_bd, hp_ts]
  · rw [b21_12_k4 (wd_o hw ha) (wd_s0 hw ha) i0 (dx_0 hw ha) rse (by rw [rge]; exact rk), rge, show mm_cl (d + 3) 32 [.ref e, .ref a] S = _ from sd, hp_bd, hp_ts]
  · rw [b21_12_k10 (wd_o hw ha) (wd_s0 hw ha) i0 (dx_0 hw ha) rse (by rw [rge]; exact rk), rge, show mm_cl (d + 3) 70 [.ref e, .ref a] S = _ from sd, hp_bd, hp_ts]
  · rw [b21_12_k2 (wd_o hw ha) (wd_s0 hw ha) i0 (dx_0 hw ha) rse (by rw [rge]; exact rk), rge, show mm_cl (d + 3) 26 [.ref e, .ref a] S = _ from sd, hp_bd, hp_ts]
  · rw [b21_12_k7 (wd_o hw ha) (wd_s0 hw ha) i0 (dx_0 hw ha) rse (by rw [rge]; exact rk), rge, show mm_cl (d + 3) 56 [.ref e, .ref a] S = _ from sd, hp_bd, hp_ts]
  · rw [b21_12_k3 (wd_o hw ha) (wd_s0 hw ha) i0 (dx_0 hw ha) rse (by rw [rge]; exact rk), rge, show mm_cl (d + 3) 29 [.ref e, .ref a] S = _ from sd, hp_bd, hp_ts]
  · rw [b21_12_k9 (wd_o hw ha) (wd_s0 hw ha) i0 (dx_0 hw ha) rse (by rw [rge]; exact rk), rge, show mm_cl (d + 3) 66 [.ref e, .ref a] S = _ from sd, hp_bd, hp_ts]
theorem act_123 (h : ab_okP P) (hD : ab_okD P D) (hb : b < ab_kn P) {o : Nat} : ab_act P D b o = 1 ∨ ab_act P D b o = 2 ∨ ab_act P D b o = 3 := by
  have := @ab_act_ok P D b o h hD hb
  omega
theorem s21 (hA : cd_A S a P D) (hc : ab_com D = true) : ∃ T, mm_cl (d + 4) 21 [.ref a] S = some (some (.int (nI (ab_ha P D))), T) ∧ cd_fr a S T ∧ cd_A T a P (ab_turn P D) := by
  obtain ⟨b, r, hr, hlo⟩ := com_row hc
  have hw := hA.1
  have ha := hA.2.1
  have hb : b < ab_kn P := hA.2.2.2.2.2.2.1 b (by rw [hr]; exact List.mem_cons_self)
  have hh := hA.2.2.2.1.2.1 0 (by rw [hr]; exact Nat.succ_pos _)
  rw [hr] at hh
  have hh : mm_M S (a + 6) 0 = nI b := hh
  have hlen : 0 < (ab_row D).length := by rw [hr]; exact Nat.succ_pos _
  have eha : ab_ha P D = ab_act P D b ((ab_row D).length - 1) := by unfold ab_ha; rw [hr]; rfl
  have etu : ab_turn P D = ab_do P D b r (ab_ha P D) := by unfold ab_turn ab_does; rw [hr]
  have ok := @ab_act_ok P D b ((ab_row D).length - 1) hA.2.2.2.2.1 hA.2.2.2.2.2 hb
  obtain ⟨T1, e, g1, g2, g3, g4⟩ := s19w (d := d) hA hb
  obtain ⟨T2, g5, g6, g7⟩ := s22w (d := d + 2) g3.1 hr g3.2.2.2.1 g3.2.2.2.2 (act_123 (o := (ab_row D).length - 1) hA.2.2.2.2.1 hA.2.2.2.2.2 hb) hlo ok.2.2
  refine ⟨T2, ?_, fr_tr g2 g6, ?_⟩
  · rw [e21, b21_0 (wd_o hw ha) (wd_s5 hw ha) (di_5 hw ha (by decide)) (dx_5 hw ha) (wd_k hw ha), wd_g5 hw ha, nI_clamp (by decide), hh, g1, hp_bd, hp_tn, sdow g3 hlen g4, b21_22 (wd_k g3.1.1 ha), g5, hp_bd, hp_tn, b21_28, eha]
  · rw [etu, eha]; exact g7
theorem s20w (hA : cd_A S a P D) : mm_cl d 20 [.ref a] S = some (some (.int (if ab_com D = true then nI 1 else nI 0)), S) := by
  have hl := row_le hA.2.2.2.2.1 hA.2.2.2.2.2
  have h9 := hA.2.2.2.2.2.2.2.2.2
  rw [s20 hA.1 hA.2.1, hA.2.2.2.1.1, hA.2.2.2.1.2.2.2.2.2.1]
  unfold ab_com
  congr 3
  have e1 : (nI (ab_row D).length ≤ nI 0) = ¬ (0 < (ab_row D).length) := propext ((nI_leI (by omega) (by decide)).trans (by omega))
  have e2 : (nI (ab_lo D) ≤ nI 0) = ¬ (0 < ab_lo D) := propext ((nI_leI (by omega) (by decide)).trans (by omega))
  simp only [e1, e2]
  by_cases h1 : 0 < (ab_row D).length <;> by_cases h2 : 0 < ab_lo D <;> simp [h1, h2]
theorem s23_loop : ∀ (k i : Nat) (S : mm_S) (D : ab_D), cd_A S a P D → ab_mea D ≤ k → i + k ≤ 900 → ∃ T, mm_ex (d + 5) 23 2 [.ref a, .int (nI i)] [] S = some (none, T) ∧ cd_fr a S T ∧ cd_A T a P (ab_end P k D) := by
  intro k
  induction k with
  | zero =>
    intro i S D hA hm hi
    have hc : ab_com D = false := by
      cases hc : ab_com D with
      | false => rfl
      | true => have := (ab_turn_ok hA.2.2.2.2.1 hA.2.2.2.2.2 hc).2; omega
    refine ⟨S, ?_, fr_rf, hA⟩
    rw [b23_2, if_neg (nI_ge (by omega) (by decide)), b23_9 (wd_k hA.1 hA.2.1), s20w hA, hp_bd, hp_ts, b23_13, hc, if_pos (by decide), b23_27]
  | succ k ih =>
    intro i S D hA hm hi
    cases hc : ab_com D with
    | false =>
      refine ⟨S, ?_, fr_rf, ?_⟩
      · rw [b23_2, if_neg (nI_ge (by omega) (by decide)), b23_9 (wd_k hA.1 hA.2.1), s20w hA, hp_bd, hp_ts, b23_13, hc, if_pos (by decide), b23_27]
      · unfold ab_end; rw [hc]; exact hA
    | true =>
      have ht := ab_turn_ok hA.2.2.2.2.1 hA.2.2.2.2.2 hc
      obtain ⟨T1, g1, g2, g3⟩ := s21 (d := d) hA hc
      obtain ⟨T2, g4, g5, g6⟩ := ih (i + 1) T1 (ab_turn P D) g3 (by omega) (by omega)
      refine ⟨T2, ?_, fr_tr g2 g5, ?_⟩
      · rw [b23_2, if_neg (nI_ge (by omega) (by decide)), b23_9 (wd_k hA.1 hA.2.1), s20w hA, hp_bd, hp_ts, b23_13, hc, if_neg (by decide), b23_16 (wd_k hA.1 hA.2.1), g1, hp_bd, hp_ts, b23_20, nI_add, g4]
      · unfold ab_end; rw [hc, if_pos rfl]; exact g6
/-- the day at its end -/
def ab_fin (P : ab_P) (D : ab_D) : ab_D := ab_end P 60 D
theorem s23 (hA : cd_A S a P D) : ∃ T, mm_cl (d + 5) 23 [.ref a] S = some (none, T) ∧ cd_fr a S T ∧ cd_A T a P (ab_fin P D) := by
  obtain ⟨T, g1, g2, g3⟩ := s23_loop (d := d) 60 0 S D hA (ab_mea_le hA.2.2.2.2.1.1 hA.2.2.2.2.2) (by decide)
  exact ⟨T, by rw [e23, b23_0, g1], g2, g3⟩
/-- all gained, together -/
def ab_all (n : Nat) (g : Nat → Int32) : Int32 := (List.range n).foldl (fun s b => s + g b) (nI 0)
theorem all_s {n : Nat} {g : Nat → Int32} : ab_all (n + 1) g = ab_all n g + g n := by
  unfold ab_all
  rw [List.range_succ, List.foldl_append]
  rfl
theorem s24_loop (hA : cd_A S a P D) : ∀ k i : Nat, i + k = ab_kn P → mm_ex d 24 4 [.ref a, .int (ab_all i (ab_ga D)), .int (nI i)] [] S = some (some (.int (ab_all (ab_kn P) (ab_ga D))), S) := by
  have hw := hA.1
  have ha := hA.2.1
  have k6 := hA.2.2.2.2.1.1
  intro k
  induction k with
  | zero =>
    intro i hi
    have e : i = ab_kn P := by omega
    rw [b24_4 (wd_o hw ha), hA.2.2.1.1, if_pos (nI_le (by omega) (by omega)), b24_27, e]
  | succ k ih =>
    intro i hi
    rw [b24_4 (wd_o hw ha), hA.2.2.1.1, if_neg (nI_ge (by omega) (by omega)), b24_12 (wd_o hw ha) (wd_s4 hw ha) (di_4 hw ha (by omega)) (dx_4 hw ha), wd_g4 hw ha, nI_clamp (by omega), hA.2.2.2.1.2.2.2.1 i (by omega), nI_add, ← all_s, ih (i + 1) (by omega)]
theorem s24 (hA : cd_A S a P D) : mm_cl d 24 [.ref a] S = some (some (.int (ab_all (ab_kn P) (ab_ga D))), S) := by
  rw [e24, b24_0, ← s24_loop (d := d) hA (ab_kn P) 0 (Nat.zero_add _)]
  rfl
end TN
