/-! ===== questions of the class ===== -/
def QC (S T : mm_S) (G : gb_G) : Prop := RC T G ∧ sf_f gc_F S T ∧ mm_n T = mm_n S ∧ mm_z T = mm_z S
def gP_fe (P : ab_P) (n : Nat) : ab_P := (P.1, P.2.1, P.2.2.1, P.2.2.2.1, P.2.2.2.2.1, P.2.2.2.2.2.1, P.2.2.2.2.2.2.1, n)
/-- nobody says no -/
def ab_nob (l : List (Nat × Nat)) : Bool := l.all (fun e => decide (e.2 ≠ 2))
section QCS
variable {S T U : mm_S} {G : gb_G} {P : ab_P} {D : ab_D} {a b d n k i : Nat} {x w y : Int32} {r : List Nat}
theorem QC_rf (hR : RC S G) : QC S S G := ⟨hR, sf_rf, rfl, rfl⟩
theorem QC_tr (h : QC S T G) (h2 : QC T U G) : QC S U G := ⟨h2.1, sf_tr h.2.1 h2.2.1, h2.2.2.1.trans h.2.2.1, h2.2.2.2.trans h.2.2.2⟩
theorem QC_f (ok : gb_ok G) (hR : RC S G) (h : sf_f gc_F S T) (hw : mm_W T) (hn : mm_n T = mm_n S) (hz : mm_z T = mm_z S) : QC S T G := ⟨RC_q ok h hw hR, h, hn, hz⟩
theorem QC_fr (ok : gb_ok G) (hR : RC S G) (ha : a = 24 ∨ a = 33) (h : cd_fr a S T) : QC S T G := QC_f ok hR (sf_mo (sf_cd h) (fun c j q => by unfold cd_dc at q; unfold gc_F; omega)) (fr_W h hR.1) (fr_n h) (fr_z h)
theorem oC_Q (h : QC S T G) {y : Nat} {as : List Value} {v : Value} (e : mm_cl d y as S = some (some v, T)) : oC S d y as v G := ⟨T, e, h.1, gF_0 h.2.1, sz_s h.2.2.1 h.2.2.2⟩
theorem dy_t (ha : a = 24 ∨ a = 33) : mm_dy a := ha.elim (fun e => e ▸ dy24) (fun e => e ▸ dy33)
theorem t_copy (ok : gb_ok G) (hR : RC S G) (ha : a = 24 ∨ a = 33) : mm_cl (d + 1) 7 [.ref a, .ref 6] S = some (none, mm_cD S a 6) ∧ QC S (mm_cD S a 6) G ∧ cd_A (mm_cD S a 6) a (gP G) (gD G) := by
  have hw := hR.1
  have hd := dy_t ha
  have w1 := w_cD (S := S) (b := 6) hd hw
  have X1 := cD_X hw hd ok.1.1 (row_le ok.1.1 ok.1.2.1) ok.1.2.2.2.1 hR.2.1
  refine ⟨s7 hw hd dy6 (by omega) hR.2.2.1, QC_f ok hR (sf_mo cD_sf (fun c j q => by unfold gc_dy at q; unfold gc_F; omega)) w1 rfl rfl, ⟨w1, hd, X1.1, X1.2.1, ok.1.1, ok.1.2.1⟩⟩
theorem s113q (ok : gb_ok G) (hR : RC S G) : ∃ T, mm_cl (d + 6) 113 [.ref 0] S = some (none, T) ∧ QC S T G ∧ cd_A T 24 (gP G) (ab_fin (gP G) (gD G)) := by
  have hw := hR.1
  obtain ⟨g1, g2, g3⟩ := t_copy (d := d + 4) (a := 24) ok hR (Or.inl rfl)
  obtain ⟨T, g4, g5, g6⟩ := s23 (d := d) g3
  have w1 := g3.1
  refine ⟨T, ?_, QC_tr g2 (QC_fr ok g2.1 (Or.inl rfl) g5), g6⟩
  rw [e113, b113_0 (wx_o0 hw) (wx_s0_2 hw) (wx_s0_0 hw) (by rw [wx_g0_2 hw]; exact wx_k24 hw), wx_g0_2 hw, wx_g0_0 hw, g1, hp_bd, hp_tn, b113_11 (wx_o0 w1) (wx_s0_2 w1) (by rw [wx_g0_2 w1]; exact wx_k24 w1), wx_g0_2 w1, g4, hp_bd, hp_tn, b113_18]
theorem s11h (hA : cd_A S a P D) (hc : ab_com D = true) : mm_cl d 11 [.ref a] S = some (some (.int (nI ((ab_row D).headD 0))), S) := by
  obtain ⟨b, r, hr, hlo⟩ := com_row hc
  have hl := row_le hA.2.2.2.2.1 hA.2.2.2.2.2
  have hh := hA.2.2.2.1.2.1 0 (by rw [hr]; exact Nat.succ_pos _)
  rw [s11 hA.1 hA.2.1, hA.2.2.2.1.1, if_neg (nI_ge (by rw [hr]; exact Nat.succ_pos _) (by omega)), hh, hr]
  rfl
theorem s114_loop : ∀ (k i : Nat) (S : mm_S) (D : ab_D) (x : Int32) (v3 : Value), cd_A S 24 P D → ab_mea D ≤ k → i + k ≤ 900 → ∃ T, mm_ex (d + 5) 114 15 [.ref 0, .int x, .int (nI i), v3] [] S = some (some (.int (ab_bits (ab_log P k D) x)), T) ∧ cd_fr 24 S T := by
  intro k
  induction k with
  | zero =>
    intro i S D x v3 hA hm hi
    have hw := hA.1
    have hc : ab_com D = false := by
      cases hc : ab_com D with
      | false => rfl
      | true => have := (ab_turn_ok hA.2.2.2.2.1 hA.2.2.2.2.2 hc).2; omega
    refine ⟨S, ?_, fr_rf⟩
    rw [b114_15, if_neg (nI_ge (by omega) (by decide)), b114_22 (wx_o0 hw) (wx_s0_2 hw) (by rw [wx_g0_2 hw]; exact wx_k24 hw), wx_g0_2 hw, s20w hA, hp_bd, hp_ts, b114_29, hc, if_pos (by decide), b114_63]
    rfl
  | succ k ih =>
    intro i S D x v3 hA hm hi
    have hw := hA.1
    cases hc : ab_com D with
    | false =>
      refine ⟨S, ?_, fr_rf⟩
      rw [b114_15, if_neg (nI_ge (by omega) (by decide)), b114_22 (wx_o0 hw) (wx_s0_2 hw) (by rw [wx_g0_2 hw]; exact wx_k24 hw), wx_g0_2 hw, s20w hA, hp_bd, hp_ts, b114_29, hc, if_pos (by decide), b114_63]
      unfold ab_log
      rw [hc]
      rfl
    | true =>
      have ht := ab_turn_ok hA.2.2.2.2.1 hA.2.2.2.2.2 hc
      obtain ⟨T1, g1, g2, g3⟩ := s21 (d := d) hA hc
      have st : mm_ex (d + 5) 114 15 [.ref 0, .int x, .int (nI i), v3] [] S = mm_ex (d + 5) 114 47 [.ref 0, .int x, .int (nI i), .int (nI ((ab_row D).headD 0))] [.int (nI (ab_ha P D))] T1 := by
        rw [b114_15, if_neg (nI_ge (by omega) (by decide)), b114_22 (wx_o0 hw) (wx_s0_2 hw) (by rw [wx_g0_2 hw]; exact wx_k24 hw), wx_g0_2 hw, s20w hA, hp_bd, hp_ts, b114_29, hc, if_neg (by decide), b114_32 (wx_o0 hw) (wx_s0_2 hw) (by rw [wx_g0_2 hw]; exact wx_k24 hw), wx_g0_2 hw, s11h hA hc, hp_bd, hp_ts, b114_39 (wx_o0 hw) (wx_s0_2 hw) (by rw [wx_g0_2 hw]; exact wx_k24 hw), wx_g0_2 hw, g1, hp_bd, hp_ts]
      have el : ab_log P (k + 1) D = ((ab_row D).headD 0, ab_ha P D) :: ab_log P k (ab_turn P D) := by
        show (if ab_com D = true then _ else _) = _
        rw [if_pos hc]
      obtain ⟨b, r, hr, hlo⟩ := com_row hc
      have hb : b < ab_kn P := hA.2.2.2.2.2.2.1 b (by rw [hr]; exact List.mem_cons_self)
      have a3 : ab_ha P D ≤ 3 := by
        have := (@ab_act_ok P D b ((ab_row D).length - 1) hA.2.2.2.2.1 hA.2.2.2.2.2 hb).2.1
        unfold ab_ha
        rw [hr] at this ⊢
        exact this
      by_cases h1 : ab_ha P D = 1
      · obtain ⟨T2, g4, g5⟩ := ih (i + 1) T1 (ab_turn P D) (x ||| (nI 1 <<< (nI ((ab_row D).headD 0) &&& 31))) (.int (nI ((ab_row D).headD 0))) g3 (by omega) (by omega)
        refine ⟨T2, ?_, fr_tr g2 g5⟩
        rw [st, b114_47, if_pos (by rw [h1]), b114_51, nI_add, g4, el]
        show _ = some (some (Value.int (ab_bits (ab_log P k (ab_turn P D)) (if ab_ha P D = 1 then x ||| (nI 1 <<< (nI ((ab_row D).headD 0) &&& 31)) else x))), T2)
        rw [if_pos h1]
      · obtain ⟨T2, g4, g5⟩ := ih (i + 1) T1 (ab_turn P D) x (.int (nI ((ab_row D).headD 0))) g3 (by omega) (by omega)
        refine ⟨T2, ?_, fr_tr g2 g5⟩
        rw [st, b114_47, if_neg (fun e => h1 ((nI_eq (by omega) (by decide)).mp e)), b114_57, nI_add, g4, el]
        show _ = some (some (Value.int (ab_bits (ab_log P k (ab_turn P D)) (if ab_ha P D = 1 then x ||| (nI 1 <<< (nI ((ab_row D).headD 0) &&& 31)) else x))), T2)
        rw [if_neg h1]
def an_12 (G : gb_G) (w : Int32) : Int32 := match ab_kw (gK G) w with
  | some b => ab_ga (ab_fin (gP G) (gD G)) b
  | none => if w = nI 10 then ab_ti (ab_fin (gP G) (gD G)) else if w = nI 11 then nI (ab_pr (ab_fin (gP G) (gD G))) else if w = nI 12 then ab_tu (ab_fin (gP G) (gD G)) else if w = nI 13 then ab_bits (ab_lgs (gP G) (gD G)) (nI 0) else -100001
theorem c_12 (ok : gb_ok G) (hR : RC S G) : oC S (d + 7) 85 [.ref 0, .int w] (.int (an_12 G w)) G := by
  have hw := hR.1
  have hk : gK G ≤ 6 := ok.1.1.1
  obtain ⟨T, g1, g2, g3⟩ := s113q (d := d) ok hR
  have wT := g2.1.1
  obtain ⟨t1, t2, t3, t4, t5, t6, t7, t8⟩ := g3.2.2.2.1
  unfold an_12
  rcases kw_c hk w with ⟨e, h⟩ | ⟨b, hb, e, rfl⟩
  · have k := s8n (d := d + 6) ok hR e
    rw [e]
    simp only
    have st : mm_cl (d + 7) 85 [.ref 0, .int w] S = if w = nI 10 then mm_ex (d + 7) 85 56 [.ref 0, .int w] [] S else if w = nI 11 then mm_ex (d + 7) 85 68 [.ref 0, .int w] [] S else if w = nI 12 then mm_ex (d + 7) 85 80 [.ref 0, .int w] [] S else if w = nI 13 then mm_ex (d + 7) 85 92 [.ref 0, .int w] [] S else mm_ex (d + 7) 85 97 [.ref 0, .int w] [] S := by
      rw [e85, b85_0 (wx_o0 hw) (wx_s0_0 hw) (by rw [wx_g0_0 hw]; exact wx_k6 hw), wx_g0_0 hw, k, hp_bd, hp_ts, b85_8, if_pos rfl, b85_25, b85_26]
    by_cases w0 : w = nI 10
    · rw [if_pos w0] at st ⊢
      refine oC_Q g2 ?_
      rw [st, b85_56 (wx_k0 hw), g1, hp_bd, hp_tn, b85_60 (wx_o0 wT) (wx_s0_2 wT) (by rw [wx_g0_2 wT]; exact wx_o24 wT), wx_g0_2 wT, t7]
    rw [if_neg w0] at st ⊢
    by_cases w1 : w = nI 11
    · rw [if_pos w1] at st ⊢
      refine oC_Q g2 ?_
      rw [st, b85_68 (wx_k0 hw), g1, hp_bd, hp_tn, b85_72 (wx_o0 wT) (wx_s0_2 wT) (by rw [wx_g0_2 wT]; exact wx_o24 wT), wx_g0_2 wT, t5]
    rw [if_neg w1] at st ⊢
    by_cases w2 : w = nI 12
    · rw [if_pos w2] at st ⊢
      refine oC_Q g2 ?_
      rw [st, b85_80 (wx_k0 hw), g1, hp_bd, hp_tn, b85_84 (wx_o0 wT) (wx_s0_2 wT) (by rw [wx_g0_2 wT]; exact wx_o24 wT), wx_g0_2 wT, t8]
    rw [if_neg w2] at st ⊢
    by_cases w3 : w = nI 13
    · rw [if_pos w3] at st ⊢
      obtain ⟨f1, f2, f3⟩ := t_copy (d := d + 4) (a := 24) ok hR (Or.inl rfl)
      have w1 := f3.1
      obtain ⟨U, f4, f5⟩ := s114_loop (d := d + 1) (P := gP G) 60 0 _ (gD G) (nI 0) .null f3 (ab_mea_le f3.2.2.2.2.1.1 f3.2.2.2.2.2) (by decide)
      refine oC_Q (QC_tr f2 (QC_fr ok f2.1 (Or.inl rfl) f5)) ?_
      rw [st, b85_92 (wx_k0 hw), e114, b114_0 (wx_o0 hw) (wx_s0_2 hw) (wx_s0_0 hw) (by rw [wx_g0_2 hw]; exact wx_k24 hw), wx_g0_2 hw, wx_g0_0 hw, f1, hp_bd, hp_tn, b114_11, f4, hp_bd, hp_ts, b85_96]
      rfl
    rw [if_neg w3] at st ⊢
    refine oC_id hR ?_
    rw [st, b85_97]
  · have k := s8s (d := d + 6) ok hR hb
    have cl : (nI b).toNatClampNeg = b := nI_clamp (by omega)
    have hbi : mm_inb (nI b) 6 = true := hp_inb (by omega) (by omega)
    rw [e]
    refine oC_Q g2 ?_
    rw [e85, b85_0 (wx_o0 hw) (wx_s0_0 hw) (by rw [wx_g0_0 hw]; exact wx_k6 hw), wx_g0_0 hw, k, hp_bd, hp_ts, b85_8, if_neg i01, b85_11 (wx_k0 hw), g1, hp_bd, hp_tn, b85_15 (wx_o0 wT) (wx_s0_2 wT) (by rw [wx_g0_2 wT]; exact wx_o24 wT) (by rw [wx_g0_2 wT]; exact wx_s24_4 wT) (by rw [wx_g0_2 wT, wx_g24_4 wT, wx_N29 wT]; exact hbi) (by rw [wx_g0_2 wT, wx_g24_4 wT]; exact wx_a29 wT), wx_g0_2 wT, wx_g24_4 wT, cl, show mm_M T 29 b = _ from t4 b hb]
end QCS
