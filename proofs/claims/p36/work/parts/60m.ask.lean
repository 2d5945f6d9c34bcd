section
/-! ===== questions of the class ===== -/
def QC (S T : mm_S) (G : gb_G) : Prop := RC T G ∧ sf_f gc_F S T ∧ mm_n T = mm_n S ∧ mm_z T = mm_z S
def gP_fe (P : ab_P) (n : Nat) : ab_P := (P.1, P.2.1, P.2.2.1, P.2.2.2.1, P.2.2.2.2.1, P.2.2.2.2.2.1, P.2.2.2.2.2.2.1, n)
/-- nobody says no -/
def ab_nob (l : List (Nat × Nat)) : Bool := l.all (fun e => decide (e.2 ≠ 2))
section QCS
variable {S T U : mm_S} {G : gb_G} {P : ab_P} {D : ab_D} {a b d n k i : Nat} {x w y : Int32} {r : List Nat}
theorem QC_rf (hR : RC S G) : QC S S G := ⟨hR, sf_rf, rfl, rfl⟩
theorem QC_tr (h : QC S T G) (h2 : QC T U G) : QC S U G := ⟨h2.1, sf_tr h.2.1 h2.2.1, h2.2.2.1.trans h.2.2.1, h2.2.2.2.trans h.2.2.2⟩
theorem QC_f (ok : gb_ok G) (hR : RC S G) (h : sf_f gc_F S T) (hw : mm_W T) (hn : mm_n T = mm_n S) (hz : mm_z T = mm_z S) : QC S T G := ⟨RC_q ok h hw hR, h, hn, hz⟩
theorem QC_fr (ok : gb_ok G) (hR : RC S G) (ha : a = 24 ∨ a = 33) (h : cd_fr a S T) : QC S T G := QC_f ok hR (sf_mo (sf_cd h) (fun c j q => by unfold cd_dc at q; unfold gc_F; omega)) (fr_W h hR.1) (fr_n h) (fr_z h)
theorem oC_Q (h : QC S T G) {y : Nat} {as : List Value} {v : Value} (e : mm_cl d y as S = some (some v, T)) : oC S d y as v G := ⟨T, e, h.1, gF_0 h.2.1, sz_s h.2.2.1 h.2.2.2⟩
theorem dy_t (ha : a = 24 ∨ a = 33) : mm_dy a := ha.elim (fun e => e ▸ dy24) (fun e => e ▸ dy33)
theorem t_copy (ok : gb_ok G) (hR : RC S G) (ha : a = 24 ∨ a = 33) : mm_cl (d + 1) 7 [.ref a, .ref 6] S = some (none, mm_cD S a 6) ∧ QC S (mm_cD S a 6) G ∧ cd_A (mm_cD S a 6) a (gP G) (gD G) := by
  have hw := hR.1
  have hd := dy_t ha
  have w1 := w_cD (S := S) (b := 6) hd hw
  have X1 := cD_X hw hd ok.1.1 (row_le ok.1.1 ok.1.2.1) ok.1.2.2.2.1 hR.2.1
  refine ⟨s7 hw hd dy6 (by omega) hR.2.2.1, QC_f ok hR (sf_mo cD_sf (fun c j q => by unfold gc_dy at q; unfold gc_F; omega)) w1 rfl rfl, ⟨w1, hd, X1.1, X1.2.1, ok.1.1, ok.1.2.1⟩⟩
theorem s113q (ok : gb_ok G) (hR : RC S G) : ∃ T, mm_cl (d + 6) 113 [.ref 0] S = some (none, T) ∧ QC S T G ∧ cd_A T 24 (gP G) (ab_fin (gP G) (gD G)) := by
  have hw := hR.1
  obtain ⟨g1, g2, g3⟩ := t_copy (d := d + 4) (a := 24) ok hR (Or.inl rfl)
  obtain ⟨T, g4, g5, g6⟩ := s23 (d := d) g3
  have w1 := g3.1
  refine ⟨T, ?_, QC_tr g2 (QC_fr ok g2.1 (Or.inl rfl) g5), g6⟩
  rw [e113, b113_0 (wx_o0 hw) (wx_s0_2 hw) (wx_s0_0 hw) (by rw [wx_g0_2 hw]; exact wx_k24 hw), wx_g0_2 hw, wx_g0_0 hw, g1, hp_bd, hp_tn, b113_11 (wx_o0 w1) (wx_s0_2 w1) (by rw [wx_g0_2 w1]; exact wx_k24 w1), wx_g0_2 w1, g4, hp_bd, hp_tn, b113_18]
theorem s11h (hA : cd_A S a P D) (hc : ab_com D = true) : mm_cl d 11 [.ref a] S = some (some (.int (nI ((ab_row D).headD 0))), S) := by
  obtain ⟨b, r, hr, hlo⟩ := com_row hc
  have hl := row_le hA.2.2.2.2.1 hA.2.2.2.2.2
  have hh := hA.2.2.2.1.2.1 0 (by rw [hr]; exact Nat.succ_pos _)
  rw [s11 hA.1 hA.2.1, hA.2.2.2.1.1, if_neg (nI_ge (by rw [hr]; exact Nat.succ_pos _) (by omega)), hh, hr]
  rfl
theorem s114_loop : ∀ (k i : Nat) (S : mm_S) (D : ab_D) (x : Int32) (v3 : Value), cd_A S 24 P D → ab_mea D ≤ k → i + k ≤ 900 → ∃ T, mm_ex (d + 5) 114 15 [.ref 0, .int x, .int (nI i), v3] [] S = some (some (.int (ab_bits (ab_log P k D) x)), T) ∧ cd_fr 24 S T := by
  intro k
  induction k with
  | zero =>
    intro i S D x v3 hA hm hi
    have hw := hA.1
    have hc : ab_com D = false := by
      cases hc : ab_com D with
      | false => rfl
      | true => have := (ab_turn_ok hA.2.2.2.2.1 hA.2.2.2.2.2 hc).2; omega
    refine ⟨S, ?_, fr_rf⟩
    rw [b114_15, if_neg (nI_ge (by omega) (by decide)), b114_22 (wx_o0 hw) (wx_s0_2 hw) (by rw [wx_g0_2 hw]; exact wx_k24 hw), wx_g0_2 hw, s20w hA, hp_bd, hp_ts, b114_29, hc, if_pos (by decide), b114_63]
    rfl
  | succ k ih =>
    intro i S D x v3 hA hm hi
    have hw := hA.1
    cases hc : ab_com D with
    | false =>
      refine ⟨S, ?_, fr_rf⟩
      rw [b114_15, if_neg (nI_ge (by omega) (by decide)), b114_22 (wx_o0 hw) (wx_s0_2 hw) (by rw [wx_g0_2 hw]; exact wx_k24 hw), wx_g0_2 hw, s20w hA, hp_bd, hp_ts, b114_29, hc, if_pos (by decide), b114_63]
      unfold ab_log
      rw [hc]
      rfl
    | true =>
      have ht := ab_turn_ok hA.2.2.2.2.1 hA.2.2.2.2.2 hc
      obtain ⟨T1, g1, g2, g3⟩ := s21 (d := d) hA hc
      have st : mm_ex (d + 5) 114 15 [.ref 0, .int x, .int (nI i), v3] [] S = mm_ex (d + 5) 114 47 [.ref 0, .int x, .int (nI i), .int (nI ((ab_row D).headD 0))] [.int (nI (ab_ha P D))] T1 := by
        rw [b114_15, if_neg (nI_ge (by omega) (by decide)), b114_22 (wx_o0 hw) (wx_s0_2 hw) (by rw [wx_g0_2 hw]; exact wx_k24 hw), wx_g0_2 hw, s20w hA, hp_bd, hp_ts, b114_29, hc, if_neg (by decide), b114_32 (wx_o0 hw) (wx_s0_2 hw) (by rw [wx_g0_2 hw]; exact wx_k24 hw), wx_g0_2 hw, s11h hA hc, hp_bd, hp_ts, b114_39 (wx_o0 hw) (wx_s0_2 hw) (by rw [wx_g0_2 hw]; exact wx_k24 hw), wx_g0_2 hw, g1, hp_bd, hp_ts]
      have el : ab_log P (k + 1) D = ((ab_row D).headD 0, ab_ha P D) :: ab_log P k (ab_turn P D) := by
        show (if ab_com D = true then _ else _) = _
        rw [if_pos hc]
      obtain ⟨b, r, hr, hlo⟩ := com_row hc
      have hb : b < ab_kn P := hA.2.2.2.2.2.2.1 b (by rw [hr]; exact List.mem_cons_self)
      have a3 : ab_ha P D ≤ 3 := by
        have := (@ab_act_ok P D b ((ab_row D).length - 1) hA.2.2.2.2.1 hA.2.2.2.2.2 hb).2.1
        unfold ab_ha
        rw [hr] at this ⊢
        exact this
      by_cases h1 : ab_ha P D = 1
      · obtain ⟨T2, g4, g5⟩ := ih (i + 1) T1 (ab_turn P D) (x ||| (nI 1 <<< (nI ((ab_row D).headD 0) &&& 31))) (.int (nI ((ab_row D).headD 0))) g3 (by omega) (by omega)
        refine ⟨T2, ?_, fr_tr g2 g5⟩
        rw [st, b114_47, if_pos (by rw [h1]), b114_51, nI_add, g4, el]
        show _ = some (some (Value.int (ab_bits (ab_log P k (ab_turn P D)) (if ab_ha P D = 1 then x ||| (nI 1 <<< (nI ((ab_row D).headD 0) &&& 31)) else x))), T2)
        rw [if_pos h1]
      · obtain ⟨T2, g4, g5⟩ := ih (i + 1) T1 (ab_turn P D) x (.int (nI ((ab_row D).headD 0))) g3 (by omega) (by omega)
        refine ⟨T2, ?_, fr_tr g2 g5⟩
        rw [st, b114_47, if_neg (fun e => h1 ((nI_eq (by omega) (by decide)).mp e)), b114_57, nI_add, g4, el]
        show _ = some (some (Value.int (ab_bits (ab_log P k (ab_turn P D)) (if ab_ha P D = 1 then x ||| (nI 1 <<< (nI ((ab_row D).headD 0) &&& 31)) else x))), T2)
        rw [if_neg h1]
def an_12 (G : gb_G) (w : Int32) : Int32 := match ab_kw (gK G) w with
  | some b => ab_ga (ab_fin (gP G) (gD G)) b
  | none => if w = nI 10 then ab_ti (ab_fin (gP G) (gD G)) else if w = nI 11 then nI (ab_pr (ab_fin (gP G) (gD G))) else if w = nI 12 then ab_tu (ab_fin (gP G) (gD G)) else if w = nI 13 then ab_bits (ab_lgs (gP G) (gD G)) (nI 0) else -100001
theorem c_12 (ok : gb_ok G) (hR : RC S G) : oC S (d + 7) 85 [.ref 0, .int w] (.int (an_12 G w)) G := by
  have hw := hR.1
  have hk : gK G ≤ 6 := ok.1.1.1
  obtain ⟨T, g1, g2, g3⟩ := s113q (d := d) ok hR
  have wT := g2.1.1
  obtain ⟨t1, t2, t3, t4, t5, t6, t7, t8⟩ := g3.2.2.2.1
  unfold an_12
  rcases kw_c hk w with ⟨e, h⟩ | ⟨b, hb, e, rfl⟩
  · have k := s8n (d := d + 6) ok hR e
    rw [e]
    simp only
    have st : mm_cl (d + 7) 85 [.ref 0, .int w] S = if w = nI 10 then mm_ex (d + 7) 85 56 [.ref 0, .int w] [] S else if w = nI 11 then mm_ex (d + 7) 85 68 [.ref 0, .int w] [] S else if w = nI 12 then mm_ex (d + 7) 85 80 [.ref 0, .int w] [] S else if w = nI 13 then mm_ex (d + 7) 85 92 [.ref 0, .int w] [] S else mm_ex (d + 7) 85 97 [.ref 0, .int w] [] S := by
      rw [e85, b85_0 (wx_o0 hw) (wx_s0_0 hw) (by rw [wx_g0_0 hw]; exact wx_k6 hw), wx_g0_0 hw, k, hp_bd, hp_ts, b85_8, if_pos rfl, b85_25, b85_26]
    by_cases w0 : w = nI 10
    · rw [if_pos w0] at st ⊢
      refine oC_Q g2 ?_
      rw [st, b85_56 (wx_k0 hw), g1, hp_bd, hp_tn, b85_60 (wx_o0 wT) (wx_s0_2 wT) (by rw [wx_g0_2 wT]; exact wx_o24 wT), wx_g0_2 wT, t7]
    rw [if_neg w0] at st ⊢
    by_cases w1 : w = nI 11
    · rw [if_pos w1] at st ⊢
      refine oC_Q g2 ?_
      rw [st, b85_68 (wx_k0 hw), g1, hp_bd, hp_tn, b85_72 (wx_o0 wT) (wx_s0_2 wT) (by rw [wx_g0_2 wT]; exact wx_o24 wT), wx_g0_2 wT, t5]
    rw [if_neg w1] at st ⊢
    by_cases w2 : w = nI 12
    · rw [if_pos w2] at st ⊢
      refine oC_Q g2 ?_
      rw [st, b85_80 (wx_k0 hw), g1, hp_bd, hp_tn, b85_84 (wx_o0 wT) (wx_s0_2 wT) (by rw [wx_g0_2 wT]; exact wx_o24 wT), wx_g0_2 wT, t8]
    rw [if_neg w2] at st ⊢
    by_cases w3 : w = nI 13
    · rw [if_pos w3] at st ⊢
      obtain ⟨f1, f2, f3⟩ := t_copy (d := d + 4) (a := 24) ok hR (Or.inl rfl)
      have w1 := f3.1
      obtain ⟨U, f4, f5⟩ := s114_loop (d := d + 1) (P := gP G) 60 0 _ (gD G) (nI 0) .null f3 (ab_mea_le f3.2.2.2.2.1.1 f3.2.2.2.2.2) (by decide)
      refine oC_Q (QC_tr f2 (QC_fr ok f2.1 (Or.inl rfl) f5)) ?_
      rw [st, b85_92 (wx_k0 hw), e114, b114_0 (wx_o0 hw) (wx_s0_2 hw) (wx_s0_0 hw) (by rw [wx_g0_2 hw]; exact wx_k24 hw), wx_g0_2 hw, wx_g0_0 hw, f1, hp_bd, hp_tn, b114_11, f4, hp_bd, hp_ts, b85_96]
      rfl
    rw [if_neg w3] at st ⊢
    refine oC_id hR ?_
    rw [st, b85_97]
  · have k := s8s (d := d + 6) ok hR hb
    have cl : (nI b).toNatClampNeg = b := nI_clamp (by omega)
    have hbi : mm_inb (nI b) 6 = true := hp_inb (by omega) (by omega)
    rw [e]
    refine oC_Q g2 ?_
    rw [e85, b85_0 (wx_o0 hw) (wx_s0_0 hw) (by rw [wx_g0_0 hw]; exact wx_k6 hw), wx_g0_0 hw, k, hp_bd, hp_ts, b85_8, if_neg i01, b85_11 (wx_k0 hw), g1, hp_bd, hp_tn, b85_15 (wx_o0 wT) (wx_s0_2 wT) (by rw [wx_g0_2 wT]; exact wx_o24 wT) (by rw [wx_g0_2 wT]; exact wx_s24_4 wT) (by rw [wx_g0_2 wT, wx_g24_4 wT, wx_N29 wT]; exact hbi) (by rw [wx_g0_2 wT, wx_g24_4 wT]; exact wx_a29 wT), wx_g0_2 wT, wx_g24_4 wT, cl, show mm_M T 29 b = _ from t4 b hb]
end QCS
end
section
/-! ===== questions of the class: first, fee, off, judge ===== -/
def ab_fv (P : ab_P) (D : ab_D) (w act : Nat) : Int32 := if w = 0 then ab_ga (ab_fin P (ab_does P D act)) ((ab_row D).headD 0) else ab_ti (ab_fin P (ab_does P D act)) + ab_all (ab_kn P) (ab_ga (ab_fin P (ab_does P D act)))
def ab_f1 (P : ab_P) (D : ab_D) (w : Nat) (s : Nat × Int32) (act : Nat) : Nat × Int32 := if act = 3 ∧ ab_may P D ((ab_row D).headD 0) = false then s else if s.1 = 0 ∨ s.2 < ab_fv P D w act then (act, ab_fv P D w act) else s
def an_13 (G : gb_G) (x : Int32) : Int32 := if x = nI 0 ∨ x = nI 1 then (if ab_com (gD G) = true then nI ([1, 2, 3].foldl (ab_f1 (gP G) (gD G) (if x = nI 0 then 0 else 1)) (0, nI 0)).1 else -5) else -1
def ab_fee (P : ab_P) (D : ab_D) : Nat → Nat → Int32
  | 0, _ => -5
  | k + 1, i => if ab_nob (ab_lgs (gP_fe P i) D) = true then nI i else ab_fee P D k (i + 1)
def an_17 (G : gb_G) : Int32 := ab_fee (gP G) (gD G) 21 0
def ab_off (P : ab_P) : List Nat → Nat → ab_D → Int32
  | [], _, _ => -5
  | f :: l, i, D => if ab_com D = true ∧ ab_ha P D = f then ab_off P l (i + 1) (ab_turn P D) else nI i
def an_23 (G : gb_G) : Int32 := ab_off (gP G) (gx_f G.1) 0 (gD G)
/-- from place i of a row of n items on, against gains of k BUYERS from b on -/
def ab_ju (it : Nat → Int64) (g : Nat → Int32) (n i : Nat) : Nat → Nat → Int32
  | 0, _ => -5
  | k + 1, b => if n - b ≤ i then nI (100 + b) else if lg_cmp (it (i + b)) (g b).toInt64 = nI 0 then ab_ju it g n i k (b + 1) else nI b
def an_24 (G : gb_G) (t i : Int32) : Int32 := match ab_kw 6 t with
  | none => -1
  | some t => if (gb_p G t).1 = -1 then nI 100 else if (gb_p G t).1 ≠ nI 2 then -12 else if i < nI 0 then nI 100 else ab_ju (gb_p G t).2.2 (ab_ga (ab_fin (gP G) (gD G))) (gb_p G t).2.1 i.toNatClampNeg (gK G) 0
section Q1
variable {S T U : mm_S} {G : gb_G} {P : ab_P} {D : ab_D} {a b d n k i : Nat} {x w y t : Int32} {r : List Nat}
theorem s116q (ok : gb_ok G) (hR : RC S G) (hc : ab_com (gD G) = true) {act : Nat} (ha : act = 1 ∨ act = 2 ∨ act = 3) (hm : act = 3 → ab_may (gP G) (gD G) ((ab_row (gD G)).headD 0) = true) (hx : x = nI 0 ∨ x = nI 1) : ∃ T, mm_cl (d + 6) 116 [.ref 0, .int (nI ((ab_row (gD G)).headD 0)), .int (nI act), .int x] S = some (some (.int (ab_fv (gP G) (gD G) (if x = nI 0 then 0 else 1) act)), T) ∧ QC S T G := by
  have hw := hR.1
  obtain ⟨b, r, hr, hlo⟩ := com_row hc
  have hb : b < ab_kn (gP G) := ok.1.2.1.2.1 b (by have e : ab_row (gx_D (gb_x G)) = b :: r := hr; rw [e]; exact List.mem_cons_self)
  have hk : ab_kn (gP G) ≤ 6 := ok.1.1.1
  have ehd : (ab_row (gD G)).headD 0 = b := by rw [hr]; rfl
  rw [ehd] at hm ⊢
  have edo : ab_does (gP G) (gD G) act = ab_do (gP G) (gD G) b r act := by unfold ab_does; rw [hr]
  obtain ⟨g1, g2, g3⟩ := t_copy (d := d + 4) (a := 24) ok hR (Or.inl rfl)
  obtain ⟨T1, e, g4, g5, g6, -⟩ := s19w (d := d + 2) g3 hb
  obtain ⟨T2, g7, g8, g9⟩ := s22w (d := d + 4) g6.1 hr g6.2.2.2.1 g6.2.2.2.2 ha hlo hm
  obtain ⟨T3, g10, g11, g12⟩ := s23 (d := d) g9
  have w1 := g3.1
  have w2 := g6.1.1
  have w3 := g9.1
  have w4 := g12.1
  have q := QC_tr g2 (QC_fr ok g2.1 (Or.inl rfl) (fr_tr g5 (fr_tr g8 g11)))
  obtain ⟨t1, t2, t3, t4, t5, t6, t7, t8⟩ := g12.2.2.2.1
  have cl : (nI b).toNatClampNeg = b := nI_clamp (by omega)
  have hbi : mm_inb (nI b) 6 = true := hp_inb (by omega) (by omega)
  have s24k := s24 (d := d + 5) g12
  refine ⟨T3, ?_, q⟩
  unfold ab_fv
  rw [ehd, edo]
  rw [e116, b116_0 (wx_o0 hw) (wx_s0_2 hw) (wx_s0_0 hw) (by rw [wx_g0_2 hw]; exact wx_k24 hw), wx_g0_2 hw, wx_g0_0 hw, g1, hp_bd, hp_tn, b116_11 (wx_o0 w1) (wx_s0_2 w1) (by rw [wx_g0_2 w1]; exact wx_k24 w1), wx_g0_2 w1, g4, hp_bd, hp_tn, b116_19 (wx_o0 w2) (wx_s0_2 w2) (by rw [wx_g0_2 w2]; exact wx_k24 w2), wx_g0_2 w2, g7, hp_bd, hp_tn, b116_27 (wx_o0 w3) (wx_s0_2 w3) (by rw [wx_g0_2 w3]; exact wx_k24 w3), wx_g0_2 w3, g10, hp_bd, hp_tn, b116_34]
  by_cases x0 : x = nI 0
  · rw [if_pos x0, if_pos x0, if_pos rfl, b116_38 (wx_o0 w4) (wx_s0_2 w4) (by rw [wx_g0_2 w4]; exact wx_o24 w4) (by rw [wx_g0_2 w4]; exact wx_s24_4 w4) (by rw [wx_g0_2 w4, wx_g24_4 w4, wx_N29 w4]; exact hbi) (by rw [wx_g0_2 w4, wx_g24_4 w4]; exact wx_a29 w4), wx_g0_2 w4, wx_g24_4 w4, cl, show mm_M T3 29 b = _ from t4 b hb]
  · rw [if_neg x0, if_neg x0, if_neg (by decide), b116_50 (wx_o0 w4) (wx_s0_2 w4) (by rw [wx_g0_2 w4]; exact wx_o24 w4) (by rw [wx_g0_2 w4]; exact wx_k24 w4), wx_g0_2 w4, s24k, hp_bd, hp_tsc, t7, b116_64]
theorem s86_it (ok : gb_ok G) (hR : RC S G) (hc : ab_com (gD G) = true) {act : Nat} (ha : act = 1 ∨ act = 2 ∨ act = 3) (hx : x = nI 0 ∨ x = nI 1) {s : Nat × Int32} (hs : s.1 ≤ 3) {v6 : Value} : ∃ T v, mm_ex (d + 7) 86 40 [.ref 0, .int x, .int (nI ((ab_row (gD G)).headD 0)), .int (nI s.1), .int s.2, .int (nI act), v6] [] S = mm_ex (d + 7) 86 40 [.ref 0, .int x, .int (nI ((ab_row (gD G)).headD 0)), .int (nI (ab_f1 (gP G) (gD G) (if x = nI 0 then 0 else 1) s act).1), .int (ab_f1 (gP G) (gD G) (if x = nI 0 then 0 else 1) s act).2, .int (nI (act + 1)), v] [] T ∧ QC S T G := by
  have hw := hR.1
  have hA := RC_A ok hR
  obtain ⟨b, r, hr, hlo⟩ := com_row hc
  have hb : b < ab_kn (gP G) := ok.1.2.1.2.1 b (by have e : ab_row (gx_D (gb_x G)) = b :: r := hr; rw [e]; exact List.mem_cons_self)
  have ehd : (ab_row (gD G)).headD 0 = b := by rw [hr]; rfl
  have go : (act = 3 → ab_may (gP G) (gD G) ((ab_row (gD G)).headD 0) = true) → ∃ T v, mm_ex (d + 7) 86 66 [.ref 0, .int x, .int (nI ((ab_row (gD G)).headD 0)), .int (nI s.1), .int s.2, .int (nI act), v6] [] S = mm_ex (d + 7) 86 40 [.ref 0, .int x, .int (nI ((ab_row (gD G)).headD 0)), .int (nI (ab_f1 (gP G) (gD G) (if x = nI 0 then 0 else 1) s act).1), .int (ab_f1 (gP G) (gD G) (if x = nI 0 then 0 else 1) s act).2, .int (nI (act + 1)), v] [] T ∧ QC S T G := by
    intro hm
    obtain ⟨T, g1, g2⟩ := s116q (d := d) ok hR hc ha hm hx
    refine ⟨T, .int (ab_fv (gP G) (gD G) (if x = nI 0 then 0 else 1) act), ?_, g2⟩
    have n3 : ¬ (act = 3 ∧ ab_may (gP G) (gD G) ((ab_row (gD G)).headD 0) = false) := fun e => by rw [hm e.1] at e; cases e.2
    unfold ab_f1
    rw [if_neg n3, b86_66 (wx_k0 hw), g1, hp_bd, hp_ts, b86_74]
    by_cases s0 : s.1 = 0
    · rw [if_pos (by rw [s0]), if_pos (Or.inl s0), b86_87, nI_add]
    · rw [if_neg (fun e => s0 ((nI_eq (by omega) (by decide)).mp e)), b86_80]
      by_cases h2 : s.2 < ab_fv (gP G) (gD G) (if x = nI 0 then 0 else 1) act
      · rw [if_neg (Int32.not_le.mpr h2), if_pos (Or.inr h2), b86_87, nI_add]
      · have h5 : ¬ (s.1 = 0 ∨ s.2 < ab_fv (gP G) (gD G) (if x = nI 0 then 0 else 1) act) := fun e => e.elim s0 h2
        rw [if_pos (Int32.not_lt.mp h2), if_neg h5, b86_94, nI_add]
  have n4 : ¬ nI 3 < nI act := nI_nlt (by omega) (by omega)
  rw [b86_40, if_neg n4, b86_46]
  by_cases h3 : act = 3
  · rw [if_pos (by rw [h3]), b86_52 (wx_o0 hw) (wx_s0_0 hw) (by rw [wx_g0_0 hw]; exact wx_k6 hw), wx_g0_0 hw, ehd, s16 hA hb, hp_bd, hp_ts, b86_60]
    rw [ehd] at go
    cases hm : ab_may (gP G) (gD G) b with
    | true =>
      rw [if_pos rfl, if_neg (by decide)]
      exact go (fun _ => hm)
    | false =>
      rw [if_pos (by decide), b86_63, nI_add]
      refine ⟨S, v6, ?_, QC_rf hR⟩
      unfold ab_f1
      rw [ehd, if_pos ⟨h3, hm⟩]
  · rw [if_neg (fun e => h3 ((nI_eq (by omega) (by decide)).mp e))]
    exact go (fun e => absurd e h3)
theorem f1_le {s : Nat × Int32} (hs : s.1 ≤ 3) {w act : Nat} (ha : act ≤ 3) : (ab_f1 P D w s act).1 ≤ 3 := by
  unfold ab_f1
  split
  · exact hs
  · split
    · exact ha
    · exact hs
theorem c_13 (ok : gb_ok G) (hR : RC S G) : oC S (d + 7) 86 [.ref 0, .int x] (.int (an_13 G x)) G := by
  have hw := hR.1
  have hA := RC_A ok hR
  have k20 := s20w (d := d + 6) hA
  unfold an_13
  by_cases hx : x = nI 0 ∨ x = nI 1
  · have st : mm_cl (d + 7) 86 [.ref 0, .int x] S = mm_ex (d + 7) 86 11 [.ref 0, .int x, .null, .null, .null, .null, .null] [] S := by
      rw [e86, b86_0]
      by_cases x0 : x = nI 0
      · rw [if_pos x0]
      · rw [if_neg x0, b86_4, if_pos (hx.resolve_left x0)]
    rw [if_pos hx]
    cases hc : ab_com (gD G) with
    | false =>
      rw [if_neg (by decide)]
      refine oC_id hR ?_
      rw [st, b86_11 (wx_o0 hw) (wx_s0_0 hw) (by rw [wx_g0_0 hw]; exact wx_k6 hw), wx_g0_0 hw, k20, hp_bd, hp_ts, b86_18, hc, if_pos (by decide), b86_21]
    | true =>
      rw [if_pos rfl]
      have k11 := s11h (d := d + 6) hA hc
      obtain ⟨T1, v1, g1, q1⟩ := s86_it (d := d) ok hR hc (act := 1) (Or.inl rfl) hx (s := (0, nI 0)) (by decide) (v6 := .null)
      obtain ⟨T2, v2, g2, q2⟩ := s86_it (d := d) ok q1.1 hc (act := 2) (Or.inr (Or.inl rfl)) hx (s := ab_f1 (gP G) (gD G) (if x = nI 0 then 0 else 1) (0, nI 0) 1) (f1_le (by decide) (by decide)) (v6 := v1)
      obtain ⟨T3, v3, g3, q3⟩ := s86_it (d := d) ok q2.1 hc (act := 3) (Or.inr (Or.inr rfl)) hx (s := ab_f1 (gP G) (gD G) (if x = nI 0 then 0 else 1) (ab_f1 (gP G) (gD G) (if x = nI 0 then 0 else 1) (0, nI 0) 1) 2) (f1_le (f1_le (by decide) (by decide)) (by decide)) (v6 := v2)
      refine oC_Q (QC_tr q1 (QC_tr q2 q3)) ?_
      have g1 : mm_ex (d + 7) 86 40 [.ref 0, .int x, .int (nI ((ab_row (gD G)).headD 0)), .int (nI 0), .int (nI 0), .int (nI 1), .null] [] S = _ := g1
      rw [st, b86_11 (wx_o0 hw) (wx_s0_0 hw) (by rw [wx_g0_0 hw]; exact wx_k6 hw), wx_g0_0 hw, k20, hp_bd, hp_ts, b86_18, hc, if_pos rfl, if_neg i01, b86_24 (wx_o0 hw) (wx_s0_0 hw) (by rw [wx_g0_0 hw]; exact wx_k6 hw), wx_g0_0 hw, k11, hp_bd, hp_ts, b86_31, g1, g2, g3, b86_40, if_pos (by decide), b86_100]
      rfl
  · rw [if_neg hx]
    refine oC_id hR ?_
    rw [e86, b86_0, if_neg (fun e => hx (Or.inl e)), b86_4, if_neg (fun e => hx (Or.inr e)), b86_9]
theorem s115_loop : ∀ (k i : Nat) (S : mm_S) (D : ab_D), cd_A S 24 P D → ab_mea D ≤ k → i + k ≤ 900 → ∃ T, mm_ex (d + 5) 115 21 [.ref 0, .int x, .int (nI i)] [] S = some (some (.int (if ab_nob (ab_log P k D) = true then nI 1 else nI 0)), T) ∧ cd_fr 24 S T := by
  intro k
  induction k with
  | zero =>
    intro i S D hA hm hi
    have hw := hA.1
    have hc : ab_com D = false := by
      cases hc : ab_com D with
      | false => rfl
      | true => have := (ab_turn_ok hA.2.2.2.2.1 hA.2.2.2.2.2 hc).2; omega
    refine ⟨S, ?_, fr_rf⟩
    rw [b115_21, if_neg (nI_ge (by omega) (by decide)), b115_28 (wx_o0 hw) (wx_s0_2 hw) (by rw [wx_g0_2 hw]; exact wx_k24 hw), wx_g0_2 hw, s20w hA, hp_bd, hp_ts, b115_35, hc, if_pos (by decide), b115_57]
    rfl
  | succ k ih =>
    intro i S D hA hm hi
    have hw := hA.1
    cases hc : ab_com D with
    | false =>
      refine ⟨S, ?_, fr_rf⟩
      rw [b115_21, if_neg (nI_ge (by omega) (by decide)), b115_28 (wx_o0 hw) (wx_s0_2 hw) (by rw [wx_g0_2 hw]; exact wx_k24 hw), wx_g0_2 hw, s20w hA, hp_bd, hp_ts, b115_35, hc, if_pos (by decide), b115_57]
      unfold ab_log
      rw [hc]
      rfl
    | true =>
      have ht := ab_turn_ok hA.2.2.2.2.1 hA.2.2.2.2.2 hc
      obtain ⟨T1, g1, g2, g3⟩ := s21 (d := d) hA hc
      have st : mm_ex (d + 5) 115 21 [.ref 0, .int x, .int (nI i)] [] S = mm_ex (d + 5) 115 45 [.ref 0, .int x, .int (nI i)] [.int (nI (ab_ha P D))] T1 := by
        rw [b115_21, if_neg (nI_ge (by omega) (by decide)), b115_28 (wx_o0 hw) (wx_s0_2 hw) (by rw [wx_g0_2 hw]; exact wx_k24 hw), wx_g0_2 hw, s20w hA, hp_bd, hp_ts, b115_35, hc, if_neg (by decide), b115_38 (wx_o0 hw) (wx_s0_2 hw) (by rw [wx_g0_2 hw]; exact wx_k24 hw), wx_g0_2 hw, g1, hp_bd, hp_ts]
      have el : ab_log P (k + 1) D = ((ab_row D).headD 0, ab_ha P D) :: ab_log P k (ab_turn P D) := by
        show (if ab_com D = true then _ else _) = _
        rw [if_pos hc]
      obtain ⟨b, r, hr, hlo⟩ := com_row hc
      have hb : b < ab_kn P := hA.2.2.2.2.2.2.1 b (by rw [hr]; exact List.mem_cons_self)
      have a3 : ab_ha P D ≤ 3 := by
        have := (@ab_act_ok P D b ((ab_row D).length - 1) hA.2.2.2.2.1 hA.2.2.2.2.2 hb).2.1
        unfold ab_ha
        rw [hr] at this ⊢
        exact this
      by_cases h1 : ab_ha P D = 2
      · refine ⟨T1, ?_, g2⟩
        have en : ab_nob (ab_log P (k + 1) D) = false := by
          rw [el]
          unfold ab_nob
          rw [List.all_cons, h1]
          rfl
        rw [st, b115_45, if_pos (by rw [h1]), b115_49, en, if_neg (by decide)]
      · obtain ⟨T2, g4, g5⟩ := ih (i + 1) T1 (ab_turn P D) g3 (by omega) (by omega)
        refine ⟨T2, ?_, fr_tr g2 g5⟩
        have en : ab_nob (ab_log P (k + 1) D) = ab_nob (ab_log P k (ab_turn P D)) := by
          rw [el]
          unfold ab_nob
          rw [List.all_cons, decide_eq_true h1]
          rfl
        rw [st, b115_45, if_neg (fun e => h1 ((nI_eq (by omega) (by decide)).mp e)), b115_51, nI_add, g4, en]
theorem s115q (ok : gb_ok G) (hR : RC S G) {f : Nat} (hf : f < 100) : ∃ T, mm_cl (d + 6) 115 [.ref 0, .int (nI f)] S = some (some (.int (if ab_nob (ab_lgs (gP_fe (gP G) f) (gD G)) = true then nI 1 else nI 0)), T) ∧ QC S T G := by
  have hw := hR.1
  obtain ⟨g1, g2, g3⟩ := t_copy (d := d + 4) (a := 24) ok hR (Or.inl rfl)
  have w1 := g3.1
  have w2 : mm_W (mm_uM (mm_cD S 24 6) 24 9 (nI f)) := w1
  have A2 : cd_A (mm_uM (mm_cD S 24 6) 24 9 (nI f)) 24 (gP_fe (gP G) f) (gD G) := by
    obtain ⟨-, -, ⟨p1, p2, p3, p4, p5, s, p6, p7, p8⟩, ⟨h1, h2, h3, h4, h5, h6, h7, h8⟩, oP, oD⟩ := g3
    have fr : sf_f (fun c j => c = 24 ∧ j = 9) (mm_cD S 24 6) (mm_uM (mm_cD S 24 6) 24 9 (nI f)) := sf_uM ⟨rfl, rfl⟩
    refine ⟨w2, dy24, ⟨(rdn (by omega)).trans p1, rds, fun b hb => (rdn (by omega)).trans (p3 b hb), fun i hi => (rdn (by omega)).trans (p4 i hi), fun b hb => ?_, s, p6, p7, tr_cs fr (fun m j hm (h : s + m = 24 ∧ j = 9) => by unfold mm_sh at p7; omega) p8⟩, ⟨(rdn (by omega)).trans h1, fun i hi => (rdn (by omega)).trans (h2 i hi), fun i hi => (rdn (by omega)).trans (h3 i hi), fun i hi => (rdn (by omega)).trans (h4 i hi), (rdn (by omega)).trans h5, (rdn (by omega)).trans h6, (rdn (by omega)).trans h7, (rdn (by omega)).trans h8⟩, ⟨oP.1, hf, oP.2.2⟩, oD⟩
    obtain ⟨e, he, hy⟩ := p5 b hb
    exact ⟨e, he, tr_by fr (fun j _ (h : e = 24 ∧ j = 9) => by have := hy.1; omega) hy⟩
  obtain ⟨T, g4, g5⟩ := s115_loop (d := d + 1) (x := nI f) (P := gP_fe (gP G) f) 60 0 _ (gD G) A2 (ab_mea_le A2.2.2.2.2.1.1 A2.2.2.2.2.2) (by decide)
  have q2 : QC S (mm_uM (mm_cD S 24 6) 24 9 (nI f)) G := QC_tr g2 (QC_f ok g2.1 (sf_uM (by unfold gc_F; omega)) w2 rfl rfl)
  refine ⟨T, ?_, QC_tr q2 (QC_fr ok q2.1 (Or.inl rfl) g5)⟩
  rw [e115, b115_0 (wx_o0 hw) (wx_s0_2 hw) (wx_s0_0 hw) (by rw [wx_g0_2 hw]; exact wx_k24 hw), wx_g0_2 hw, wx_g0_0 hw, g1, hp_bd, hp_tn, b115_11 (wx_o0 w1) (wx_s0_2 w1) (by rw [wx_g0_2 w1]; exact wx_o24 w1), wx_g0_2 w1, g4]
  rfl
theorem s90_loop (ok : gb_ok G) : ∀ (k i : Nat) (S : mm_S), RC S G → i + k = 21 → ∃ T, mm_ex (d + 7) 90 2 [.ref 0, .int (nI i)] [] S = some (some (.int (ab_fee (gP G) (gD G) k i)), T) ∧ QC S T G := by
  intro k
  induction k with
  | zero =>
    intro i S hR hi
    refine ⟨S, ?_, QC_rf hR⟩
    rw [b90_2, if_pos (nI_lt (by omega) (by omega)), b90_24]
    rfl
  | succ k ih =>
    intro i S hR hi
    have hw := hR.1
    obtain ⟨T, g1, g2⟩ := s115q (d := d) ok hR (f := i) (by omega)
    have st : mm_ex (d + 7) 90 2 [.ref 0, .int (nI i)] [] S = mm_ex (d + 7) 90 13 [.ref 0, .int (nI i)] [.int (if ab_nob (ab_lgs (gP_fe (gP G) i) (gD G)) = true then nI 1 else nI 0)] T := by
      rw [b90_2, if_neg (nI_nlt (by omega) (by omega)), b90_8 (wx_k0 hw), g1, hp_bd, hp_ts]
    have ef : ab_fee (gP G) (gD G) (k + 1) i = if ab_nob (ab_lgs (gP_fe (gP G) i) (gD G)) = true then nI i else ab_fee (gP G) (gD G) k (i + 1) := rfl
    cases hb : ab_nob (ab_lgs (gP_fe (gP G) i) (gD G)) with
    | true =>
      refine ⟨T, ?_, g2⟩
      rw [st, b90_13, hb, if_pos rfl, if_neg i01, b90_16, ef, hb, if_pos rfl]
    | false =>
      obtain ⟨T2, g3, g4⟩ := ih (i + 1) T g2.1 (by omega)
      refine ⟨T2, ?_, QC_tr g2 g4⟩
      rw [st, b90_13, hb, if_pos (by decide), b90_18, nI_add, g3, ef, hb, if_neg (by decide)]
theorem c_17 (ok : gb_ok G) (hR : RC S G) : oC S (d + 7) 90 [.ref 0] (.int (an_17 G)) G := by
  obtain ⟨T, g1, g2⟩ := s90_loop (d := d) ok 21 0 S hR rfl
  refine oC_Q g2 ?_
  rw [e90, b90_0, g1]
  rfl
theorem c96_loop (ok : gb_ok G) : ∀ (l : List Nat) (i : Nat) (S : mm_S) (D : ab_D), RC S G → cd_A S 24 (gP G) D → gx_f G.1 = (gx_f G.1).take i ++ l → i + l.length = (gx_f G.1).length → ∃ T, mm_ex (d + 5) 96 13 [.ref 0, .int (nI i)] [] S = some (some (.int (ab_off (gP G) l i D)), T) ∧ QC S T G := by
  have hl12 : (gx_f G.1).length ≤ 12 := ok.1.2.2.2.1
  intro l
  induction l with
  | nil =>
    intro i S D hR hA _ hi
    have hw := hR.1
    have h17 : mm_M S 6 17 = nI (gx_f G.1).length := hR.2.1.2.2.2.1
    refine ⟨S, ?_, QC_rf hR⟩
    rw [b96_13 (wx_o0 hw) (wx_s0_0 hw) (by rw [wx_g0_0 hw]; exact wx_o6 hw), wx_g0_0 hw, h17, if_pos (nI_le (by rw [List.length_nil] at hi; omega) (by rw [List.length_nil] at hi; omega)), b96_61]
    rfl
  | cons f l ih =>
    intro i S D hR hA hf hi
    have hw := hR.1
    rw [List.length_cons] at hi
    have h17 : mm_M S 6 17 = nI (gx_f G.1).length := hR.2.1.2.2.2.1
    have hif : i < (gx_f G.1).length := by omega
    have hfi : (gx_f G.1).getD i 0 = f := by
      rw [List.getD_eq_getElem?_getD]
      conv => lhs; rw [hf]
      rw [List.getElem?_append_right (by rw [List.length_take]; omega), List.length_take, Nat.min_eq_left (by omega), Nat.sub_self]
      rfl
    have hfm : f ∈ gx_f G.1 := by rw [hf]; exact List.mem_append.mpr (Or.inr List.mem_cons_self)
    have hf3 := ok.1.2.2.2.2.1 f hfm
    have h13 : mm_M S 13 i = nI f := by rw [← hfi]; exact hR.2.1.2.2.2.2.1 i hif
    have cl : (nI i).toNatClampNeg = i := nI_clamp (by omega)
    have hbi : mm_inb (nI i) 12 = true := hp_inb (by omega) (by omega)
    have st : mm_ex (d + 5) 96 13 [.ref 0, .int (nI i)] [] S = mm_ex (d + 5) 96 31 [.ref 0, .int (nI i)] [.int (if ab_com D = true then nI 1 else nI 0)] S := by
      rw [b96_13 (wx_o0 hw) (wx_s0_0 hw) (by rw [wx_g0_0 hw]; exact wx_o6 hw), wx_g0_0 hw, h17, if_neg (nI_ge hif (by omega)), b96_24 (wx_o0 hw) (wx_s0_2 hw) (by rw [wx_g0_2 hw]; exact wx_k24 hw), wx_g0_2 hw, s20w hA, hp_bd, hp_ts]
    have eo : ab_off (gP G) (f :: l) i D = if ab_com D = true ∧ ab_ha (gP G) D = f then ab_off (gP G) l (i + 1) (ab_turn (gP G) D) else nI i := rfl
    cases hc : ab_com D with
    | false =>
      refine ⟨S, ?_, QC_rf hR⟩
      rw [st, b96_31, hc, if_pos (by decide), b96_53, eo, hc, if_neg (fun e => by cases e.1)]
    | true =>
      obtain ⟨T, g1, g2, g3⟩ := s21 (d := d) hA hc
      have q1 := QC_fr ok hR (Or.inl rfl) g2
      have wT := g3.1
      have h13T : mm_M T 13 i = nI f := by rw [← hfi]; exact q1.1.2.1.2.2.2.2.1 i hif
      obtain ⟨b, r, hr, hlo⟩ := com_row hc
      have hb : b < ab_kn (gP G) := hA.2.2.2.2.2.2.1 b (by rw [hr]; exact List.mem_cons_self)
      have a3 : ab_ha (gP G) D ≤ 3 := by
        have := (@ab_act_ok (gP G) D b ((ab_row D).length - 1) hA.2.2.2.2.1 hA.2.2.2.2.2 hb).2.1
        unfold ab_ha
        rw [hr] at this ⊢
        exact this
      have e2 : (nI (ab_ha (gP G) D) = nI f) = (ab_ha (gP G) D = f) := propext (nI_eq (by omega) (by omega))
      have st2 : mm_ex (d + 5) 96 13 [.ref 0, .int (nI i)] [] S = if nI (ab_ha (gP G) D) = nI f then mm_ex (d + 5) 96 55 [.ref 0, .int (nI i)] [] T else mm_ex (d + 5) 96 53 [.ref 0, .int (nI i)] [] T := by
        rw [st, b96_31, hc, if_neg (by decide), b96_34 (wx_o0 hw) (wx_s0_2 hw) (by rw [wx_g0_2 hw]; exact wx_k24 hw), wx_g0_2 hw, g1, hp_bd, hp_ts, b96_41 (wx_o0 wT) (wx_s0_0 wT) (by rw [wx_g0_0 wT]; exact wx_o6 wT) (by rw [wx_g0_0 wT]; exact wx_s6_6 wT) (by rw [wx_g0_0 wT, wx_g6_6 wT, wx_N13 wT]; exact hbi) (by rw [wx_g0_0 wT, wx_g6_6 wT]; exact wx_a13 wT), wx_g0_0 wT, wx_g6_6 wT, cl, h13T]
      by_cases he : ab_ha (gP G) D = f
      · obtain ⟨T2, g4, g5⟩ := ih (i + 1) T (ab_turn (gP G) D) q1.1 g3 (by
          rw [List.take_add_one]
          conv => lhs; rw [hf]
          rw [List.append_assoc]
          congr 1
          have : (gx_f G.1)[i]? = some f := by
            rw [List.getD_eq_getElem?_getD, List.getElem?_eq_getElem hif] at hfi
            rw [List.getElem?_eq_getElem hif]
            exact congrArg some hfi
          rw [this]
          rfl) (by omega)
        refine ⟨T2, ?_, QC_tr q1 g5⟩
        rw [st2, if_pos (by rw [e2]; exact he), b96_55, nI_add, g4, eo, if_pos ⟨hc, he⟩]
      · refine ⟨T, ?_, q1⟩
        rw [st2, if_neg (by rw [e2]; exact he), b96_53, eo, if_neg (fun e => he e.2)]
theorem c_23 (ok : gb_ok G) (hR : RC S G) : oC S (d + 5) 96 [.ref 0] (.int (an_23 G)) G := by
  have hw := hR.1
  obtain ⟨g1, g2, g3⟩ := t_copy (d := d + 3) (a := 24) ok hR (Or.inl rfl)
  obtain ⟨T, g4, g5⟩ := c96_loop (d := d) ok (gx_f G.1) 0 _ (gD G) g2.1 g3 (by simp) (by omega)
  refine oC_Q (QC_tr g2 g5) ?_
  rw [e96, b96_0 (wx_o0 hw) (wx_s0_2 hw) (wx_s0_0 hw) (by rw [wx_g0_2 hw]; exact wx_k24 hw), wx_g0_2 hw, wx_g0_0 hw, g1, hp_bd, hp_tn, b96_11, g4]
  rfl
theorem c97_loop (ok : gb_ok G) (hR : RC S G) (hA : cd_A S 24 (gP G) D) {t i : Nat} (ht : t < 6) (hi : i < 2 ^ 31) : ∀ (k b : Nat), b + k = gK G → b ≤ (gb_p G t).2.1 → mm_ex d 97 51 [.ref 0, .int (nI t), .int (nI i), .ref (76 + 2 * t), .int (nI b)] [] S = some (some (.int (ab_ju (gb_p G t).2.2 (ab_ga D) (gb_p G t).2.1 i k b)), S) := by
  have hw := hR.1
  have hk : gK G ≤ 6 := ok.1.1.1
  have sz := tsz ok ht
  obtain ⟨p1, p2, p3⟩ := hR.2.2.2.2.2.2.2.1 t ht
  have h10 : mm_M S 6 10 = nI (gK G) := hR.2.1.1.1
  intro k
  induction k with
  | zero =>
    intro b hb _
    rw [b97_51 (wx_o0 hw) (wx_s0_0 hw) (by rw [wx_g0_0 hw]; exact wx_o6 hw), wx_g0_0 hw, h10, if_pos (nI_le (by omega) (by omega)), b97_113]
    rfl
  | succ k ih =>
    intro b hb hbs
    have e : ab_ju (gb_p G t).2.2 (ab_ga D) (gb_p G t).2.1 i (k + 1) b = if (gb_p G t).2.1 - b ≤ i then nI (100 + b) else if lg_cmp ((gb_p G t).2.2 (i + b)) (ab_ga D b).toInt64 = nI 0 then ab_ju (gb_p G t).2.2 (ab_ga D) (gb_p G t).2.1 i k (b + 1) else nI b := rfl
    have sb : nI (gb_p G t).2.1 - nI b = nI ((gb_p G t).2.1 - b) := pk_sub hbs
    rw [b97_51 (wx_o0 hw) (wx_s0_0 hw) (by rw [wx_g0_0 hw]; exact wx_o6 hw), wx_g0_0 hw, h10, if_neg (nI_ge (by omega) (by omega)), b97_63 (tp_o hw ht), p2, sb, e]
    by_cases h1 : (gb_p G t).2.1 - b ≤ i
    · rw [if_neg (nI_nlt h1 hi), b97_74, nI_add, if_pos h1]
    · have g : mm_M S 29 b = ab_ga D b := hA.2.2.2.1.2.2.2.1 b (by have : b < gK G := (by omega); exact this)
      have cl : (nI b).toNatClampNeg = b := nI_clamp (by omega)
      have hbi : mm_inb (nI b) 6 = true := hp_inb (by omega) (by omega)
      rw [if_pos (nI_lt (by omega) (by omega)), if_neg h1, b97_80 (tp_o hw ht) (tp_s0 hw ht) (by rw [nI_add, tp_g0 hw ht, tp_N hw ht]; exact hp_inb (by omega) (by omega)) (by rw [tp_g0 hw ht]; exact tp_a hw ht) (wx_o0 hw) (wx_s0_2 hw) (by rw [wx_g0_2 hw]; exact wx_o24 hw) (by rw [wx_g0_2 hw]; exact wx_s24_4 hw) (by rw [wx_g0_2 hw, wx_g24_4 hw, wx_N29 hw]; exact hbi) (by rw [wx_g0_2 hw, wx_g24_4 hw]; exact wx_a29 hw), wx_g0_2 hw, wx_g24_4 hw, tp_g0 hw ht, nI_add, nI_clamp (by omega), cl, g, p3 (i + b) (by omega)]
      by_cases h2 : lg_cmp ((gb_p G t).2.2 (i + b)) (ab_ga D b).toInt64 = nI 0
      · rw [if_pos h2, if_pos h2, b97_107, nI_add, ih (b + 1) (by omega) (by omega)]
      · rw [if_neg h2, if_neg h2, b97_104]
theorem c_24 (ok : gb_ok G) (hR : RC S G) {i : Int32} : oC S (d + 7) 97 [.ref 0, .int t, .int i] (.int (an_24 G t i)) G := by
  have hw := hR.1
  have hp := hR.2.2.2.2.2.2.2.1
  unfold an_24
  rcases kw_c (n := 6) (by decide) t with ⟨e, h⟩ | ⟨t, ht, e, rfl⟩
  · have k := t109n (d := d + 6) (S := S) e
    rw [e]
    refine oC_id hR ?_
    rw [e97, b97_0, k, hp_bd, hp_ts, b97_4, if_pos rfl, b97_7]
  have k := t109s (d := d + 6) (S := S) ht
  have cl : (nI t).toNatClampNeg = t := nI_clamp (by omega)
  have hbi : mm_inb (nI t) 6 = true := hp_inb (by omega) (by omega)
  have q1 := tp_g hw ht
  have q2 := tp_s hw ht
  have q3 := tp_o hw ht
  have q4 := tp_k hw ht
  obtain ⟨p1, p2, p3⟩ := hp t ht
  have k61 := s61 (d := d + 6) hw q3
  rw [p1] at k61
  rw [e]
  simp only
  have st : mm_cl (d + 7) 97 [.ref 0, .int (nI t), .int i] S = mm_ex (d + 7) 97 20 [.ref 0, .int (nI t), .int i, .ref (76 + 2 * t), .null] [.int (if (gb_p G t).1 = -1 then nI 1 else nI 0)] S := by
    rw [e97, b97_0, k, hp_bd, hp_ts, b97_4, if_neg i01, b97_9 (wx_o0 hw) (wx_s0_6 hw) (by rw [wx_g0_6 hw, wx_N75 hw]; exact hbi) (by rw [wx_g0_6 hw]; exact wx_a75 hw) (by rw [wx_g0_6 hw, cl]; exact q2) (by rw [wx_g0_6 hw, cl, q1]; exact q4), wx_g0_6 hw, cl, q1, k61, hp_bd, hp_ts]
  by_cases hs : (gb_p G t).1 = -1
  · rw [if_pos hs]
    refine oC_id hR ?_
    rw [st, b97_20, if_pos hs, if_neg i01, b97_23]
  rw [if_neg hs]
  rw [b97_20, if_neg hs, if_pos rfl, b97_26 q3, p1] at st
  by_cases h2 : (gb_p G t).1 = nI 2
  · rw [if_neg (fun e => e h2)]
    rw [if_pos h2, b97_37] at st
    by_cases hi : i < nI 0
    · rw [if_pos hi]
      refine oC_id hR ?_
      rw [st, if_neg (Int32.not_le.mpr hi), b97_41]
    · rw [if_neg hi]
      rw [if_pos (Int32.not_lt.mp hi)] at st
      obtain ⟨n, hn, rfl⟩ := nI_of (x := i) hi
      obtain ⟨T, g1, g2, g3⟩ := s113q (d := d) ok hR
      refine oC_Q g2 ?_
      rw [st, b97_44 (wx_k0 hw), g1, hp_bd, hp_tn, b97_48, nI_clamp hn]
      exact c97_loop ok g2.1 g3 ht hn (gK G) 0 (Nat.zero_add _) (Nat.zero_le _)
  · rw [if_pos h2]
    rw [if_neg h2, b97_34] at st
    exact oC_id hR st
end Q1
end
section
/-! ===== questions of the class: one price, aunt, let by, would ===== -/
def ab_vs (P : ab_P) (D : ab_D) : List Nat := (ab_row D).map (ab_val P D)
def ab_tk (vs : List Nat) (p : Nat) : Nat := (vs.filter (fun v => decide (p ≤ v))).length
def ab_op (lo : Nat) (vs : List Nat) (s : Nat × Nat) (p : Nat) : Nat × Nat := if s.2 < p * min lo (ab_tk vs p) then (p, p * min lo (ab_tk vs p)) else s
def ab_o1 (P : ab_P) (D : ab_D) (k : Nat) : Nat × Nat := (List.range k).foldl (ab_op (ab_lo D) (ab_vs P D)) (0, 0)
def an_18 (G : gb_G) (x : Int32) : Int32 := if x = nI 0 then nI (ab_o1 (gP G) (gD G) 100).1 else if x = nI 1 then nI (ab_o1 (gP G) (gD G) 100).2 else -1
def ab_au (P : ab_P) (D E : ab_D) (b : Nat) (l : List Nat) (s : Int32) : Int32 := l.foldl (fun s o => if o = b then s else s + (ab_ga D o - ab_ga E o)) s
def an_19 (G : gb_G) (x : Int32) : Int32 := match ab_kw (gK G) x with
  | none => -100001
  | some b => match ab_at b (ab_row (gD G)) with
    | none => -100003
    | some k => ab_au (gP G) (ab_fin (gP G) (gD G)) (ab_fin (gP G) (gD_row (gD G) ((ab_row (gD G)).eraseIdx k))) b (ab_row (gD G)) (nI 0)
def ab_sw (r : List Nat) (p : Nat) : List Nat := (r.set p (r.getD (p + 1) 0)).set (p + 1) (r.getD p 0)
def ab_lq (u v : Int32) : Bool := decide (nI 0 ≤ u) && decide (nI 0 ≤ v) && (decide (nI 0 < u) || decide (nI 0 < v))
def ab_ls (q : Int32 → Int32 → Bool) (P : ab_P) (D : ab_D) (p : Nat) : Bool := q (ab_ga (ab_fin P (gD_row D (ab_sw (ab_row D) p))) ((ab_row D).getD p 0) - ab_ga (ab_fin P D) ((ab_row D).getD p 0)) (ab_ga (ab_fin P (gD_row D (ab_sw (ab_row D) p))) ((ab_row D).getD (p + 1) 0) - ab_ga (ab_fin P D) ((ab_row D).getD (p + 1) 0))
/-- pairs that like it: how many, the first -/
def ab_l1 (q : Int32 → Int32 → Bool) (P : ab_P) (D : ab_D) (s : Nat × Option Nat) (p : Nat) : Nat × Option Nat := if ab_ls q P D p = true then (s.1 + 1, if s.1 = 0 then some p else s.2) else s
def ab_lb (q : Int32 → Int32 → Bool) (P : ab_P) (D : ab_D) (n : Nat) : Nat × Option Nat := (List.range n).foldl (ab_l1 q P D) (0, none)
def an_15q (q : Int32 → Int32 → Bool) (G : gb_G) (x : Int32) : Int32 := if x = nI 0 then nI (ab_lb q (gP G) (gD G) ((ab_row (gD G)).length - 1)).1 else if x = nI 1 then md_fo (ab_lb q (gP G) (gD G) ((ab_row (gD G)).length - 1)).2 else -1
section Q2
variable {S T U : mm_S} {G : gb_G} {P : ab_P} {D E : ab_D} {a b c d n k i p : Nat} {x w y t : Int32} {r : List Nat}
theorem okD_row (oD : ab_okD P D) {l : List Nat} (h1 : l.Nodup) (h2 : ∀ b ∈ l, b < ab_kn P) : ab_okD P (gD_row D l) := ⟨h1, h2, oD.2.2⟩
theorem gF_w (h : gc_F c i) (hR : RC S G) (ok : gb_ok G) : QC S (mm_uM S c i x) G := QC_f ok hR (sf_uM h) hR.1 rfl rfl
-- one price
theorem tk_le {vs : List Nat} : ab_tk vs p ≤ vs.length := List.length_filter_le _ _
theorem tk_s {vs : List Nat} {v : Nat} : ab_tk (vs ++ [v]) p = ab_tk vs p + (if p ≤ v then 1 else 0) := by
  unfold ab_tk
  rw [List.filter_append, List.length_append]
  by_cases h : p ≤ v
  · rw [List.filter_cons_of_pos (by simpa using h), if_pos h]; rfl
  · rw [List.filter_cons_of_neg (by simpa using h), if_neg h]; rfl
theorem s118q (hw : mm_W S) {vs : List Nat} (hl : vs.length ≤ 6) (h11 : mm_M S 6 11 = nI vs.length) (hv : ∀ i, i < vs.length → mm_M S 91 i = nI (vs.getD i 0)) (hb : ∀ v ∈ vs, v < 2 ^ 20) (hp : p < 2 ^ 20) : mm_cl d 118 [.ref 0, .int (nI p)] S = some (some (.int (nI (ab_tk vs p))), S) := by
  have loop : ∀ k i, i + k = vs.length → mm_ex d 118 4 [.ref 0, .int (nI p), .int (nI (ab_tk (vs.take i) p)), .int (nI i)] [] S = some (some (.int (nI (ab_tk vs p))), S) := by
    intro k
    induction k with
    | zero =>
      intro i hi
      have e : i = vs.length := by omega
      rw [b118_4 (wx_o0 hw) (wx_s0_0 hw) (by rw [wx_g0_0 hw]; exact wx_o6 hw), wx_g0_0 hw, h11, if_pos (nI_le (by omega) (by omega)), b118_34, e, List.take_length]
    | succ k ih =>
      intro i hi
      have hil : i < vs.length := by omega
      have cl : (nI i).toNatClampNeg = i := nI_clamp (by omega)
      have et : vs.take (i + 1) = vs.take i ++ [vs.getD i 0] := by
        rw [List.take_add_one, List.getD_eq_getElem?_getD, List.getElem?_eq_getElem hil]
        rfl
      have hvi : vs.getD i 0 < 2 ^ 20 := by
        rw [List.getD_eq_getElem?_getD, List.getElem?_eq_getElem hil]
        exact hb _ (List.getElem_mem hil)
      have hih := ih (i + 1) (by omega)
      rw [et, tk_s] at hih
      rw [b118_4 (wx_o0 hw) (wx_s0_0 hw) (by rw [wx_g0_0 hw]; exact wx_o6 hw), wx_g0_0 hw, h11, if_neg (nI_ge hil (by omega)), b118_15 (wx_o0 hw) (wx_s0_10 hw) (by rw [wx_g0_10 hw, wx_N91 hw]; exact hp_inb (by omega) (by omega)) (by rw [wx_g0_10 hw]; exact wx_a91 hw), wx_g0_10 hw, cl, hv i hil]
      by_cases h : p ≤ vs.getD i 0
      · rw [if_pos h] at hih
        rw [if_neg (nI_nlt h (by omega)), b118_25, nI_add, nI_add, hih]
      · rw [if_neg h] at hih
        rw [if_pos (nI_lt (by omega) (by omega)), b118_28, nI_add]
        exact hih
  rw [e118, b118_0]
  have h := loop vs.length 0 (Nat.zero_add _)
  exact h
theorem o1_le (hlo : ab_lo D ≤ 9) : ∀ k, k ≤ 100 → (ab_o1 P D k).1 ≤ 99 ∧ (ab_o1 P D k).2 ≤ 900 := by
  intro k
  induction k with
  | zero => intro _; exact ⟨Nat.zero_le _, Nat.zero_le _⟩
  | succ k ih =>
    intro hk
    have h := ih (by omega)
    unfold ab_o1 at h ⊢
    rw [List.range_succ, List.foldl_append]
    show (ab_op (ab_lo D) (ab_vs P D) _ k).1 ≤ 99 ∧ (ab_op (ab_lo D) (ab_vs P D) _ k).2 ≤ 900
    unfold ab_op
    split
    · refine ⟨by show k ≤ 99; omega, ?_⟩
      show k * min (ab_lo D) (ab_tk (ab_vs P D) k) ≤ 900
      have h1 : min (ab_lo D) (ab_tk (ab_vs P D) k) ≤ 9 := Nat.le_trans (Nat.min_le_left _ _) hlo
      have h2 : k * min (ab_lo D) (ab_tk (ab_vs P D) k) ≤ 100 * 9 := Nat.mul_le_mul (by omega) h1
      omega
    · exact h
theorem s91_vals (ok : gb_ok G) : ∀ (k i : Nat) (S : mm_S), RC S G → i + k = (ab_row (gD G)).length → (∀ j, j < i → mm_M S 91 j = nI ((ab_vs (gP G) (gD G)).getD j 0)) → ∃ T, mm_ex (d + 4) 91 13 [.ref 0, .int x, .int (nI i), .null, .null, .null] [] S = mm_ex (d + 4) 91 59 [.ref 0, .int x, .int (nI (ab_row (gD G)).length), .null, .null, .null] [] T ∧ QC S T G ∧ ∀ j, j < (ab_row (gD G)).length → mm_M T 91 j = nI ((ab_vs (gP G) (gD G)).getD j 0) := by
  have hl : (ab_row (gD G)).length ≤ 6 := row_le ok.1.1 ok.1.2.1
  intro k
  induction k with
  | zero =>
    intro i S hR hi hv
    have hw := hR.1
    have e : i = (ab_row (gD G)).length := by omega
    subst e
    have h11 : mm_M S 6 11 = nI (ab_row (gD G)).length := hR.2.1.2.1.1
    refine ⟨S, ?_, QC_rf hR, hv⟩
    rw [b91_13 (wx_o0 hw) (wx_s0_0 hw) (by rw [wx_g0_0 hw]; exact wx_o6 hw), wx_g0_0 hw, h11, if_pos (nI_le (Nat.le_refl _) (by omega))]
  | succ k ih =>
    intro i S hR hi hv
    have hw := hR.1
    have hil : i < (ab_row (gD G)).length := by omega
    have h11 : mm_M S 6 11 = nI (ab_row (gD G)).length := hR.2.1.2.1.1
    have cl : (nI i).toNatClampNeg = i := nI_clamp (by omega)
    have hbi : mm_inb (nI i) 6 = true := hp_inb (by omega) (by omega)
    have hm : (ab_row (gD G)).getD i 0 ∈ ab_row (gD G) := by
      rw [List.getD_eq_getElem?_getD, List.getElem?_eq_getElem hil]
      exact List.getElem_mem hil
    have hb : (ab_row (gD G)).getD i 0 < ab_kn (gP G) := ok.1.2.1.2.1 _ hm
    have hA := RC_A ok hR
    have h12 : mm_M S 12 i = nI ((ab_row (gD G)).getD i 0) := hR.2.1.2.1.2.1 i hil
    have k19 := s19 (d := d) hA hb
    have fr := wg_fr (S := S) (a := 6) (b := (ab_row (gD G)).getD i 0) (P := gP G) (D := gD G)
    have q1 : QC S (mm_uM (mm_uM (cd_mw S 6 ((ab_row (gD G)).getD i 0) (gP G) (gD G)) 6 18 (nI (ab_val (gP G) (gD G) ((ab_row (gD G)).getD i 0)))) 6 19 (nI (ab_cost (gP G) (gD G) ((ab_row (gD G)).getD i 0)))) G := by
      refine QC_f ok hR ?_ (fr_W fr hw) (fr_n fr) (fr_z fr)
      unfold cd_mw
      have f14 : ∀ j, gc_F (6 + 8) j := fun j => Or.inr (Or.inr (Or.inl rfl))
      exact sf_tr (sf_tr (sf_tr (sf_tr (sf_tr (sf_tr (sf_tr (sf_tr (sf_uM (f14 0)) (sf_uM (f14 1))) (sf_uM (f14 2))) (sf_uM (f14 3))) (sf_uM (f14 4))) (sf_uM (f14 5))) (sf_uM (f14 6))) (sf_uM (Or.inr (Or.inr (Or.inr ⟨rfl, Or.inl rfl⟩))))) (sf_uM (Or.inr (Or.inr (Or.inr ⟨rfl, Or.inr rfl⟩))))
    have g91 : ∀ j, mm_M (mm_uM (mm_uM (cd_mw S 6 ((ab_row (gD G)).getD i 0) (gP G) (gD G)) 6 18 (nI (ab_val (gP G) (gD G) ((ab_row (gD G)).getD i 0)))) 6 19 (nI (ab_cost (gP G) (gD G) ((ab_row (gD G)).getD i 0)))) 91 j = mm_M S 91 j := fun j => fr.2 91 j (by unfold cd_dc; omega)
    have g18 : mm_M (mm_uM (mm_uM (cd_mw S 6 ((ab_row (gD G)).getD i 0) (gP G) (gD G)) 6 18 (nI (ab_val (gP G) (gD G) ((ab_row (gD G)).getD i 0)))) 6 19 (nI (ab_cost (gP G) (gD G) ((ab_row (gD G)).getD i 0)))) 6 18 = nI (ab_val (gP G) (gD G) ((ab_row (gD G)).getD i 0)) := (rdn (by omega)).trans rds
    generalize mm_uM (mm_uM (cd_mw S 6 ((ab_row (gD G)).getD i 0) (gP G) (gD G)) 6 18 (nI (ab_val (gP G) (gD G) ((ab_row (gD G)).getD i 0)))) 6 19 (nI (ab_cost (gP G) (gD G) ((ab_row (gD G)).getD i 0))) = V at *
    have wV := q1.1.1
    have q2 : QC V (mm_uM V 91 i (nI (ab_val (gP G) (gD G) ((ab_row (gD G)).getD i 0)))) G := gF_w (by unfold gc_F; omega) q1.1 ok
    have evi : (ab_vs (gP G) (gD G)).getD i 0 = ab_val (gP G) (gD G) ((ab_row (gD G)).getD i 0) := by
      unfold ab_vs
      rw [List.getD_eq_getElem?_getD, List.getElem?_map, List.getD_eq_getElem?_getD, List.getElem?_eq_getElem hil]
      rfl
    obtain ⟨T, g1, g2, g3⟩ := ih (i + 1) _ q2.1 (by omega) (fun j hj => by
      rw [rdk]
      by_cases h : j = i
      · rw [if_pos h, h, evi]
      · rw [if_neg h, g91 j]; exact hv j (by omega))
    refine ⟨T, ?_, QC_tr q1 (QC_tr q2 g2), g3⟩
    rw [← g1, b91_13 (wx_o0 hw) (wx_s0_0 hw) (by rw [wx_g0_0 hw]; exact wx_o6 hw), wx_g0_0 hw, h11, if_neg (nI_ge hil (by omega)), b91_24 (wx_o0 hw) (wx_s0_0 hw) (by rw [wx_g0_0 hw]; exact wx_o6 hw) (by rw [wx_g0_0 hw]; exact wx_s6_5 hw) (by rw [wx_g0_0 hw, wx_g6_5 hw, wx_N12 hw]; exact hbi) (by rw [wx_g0_0 hw, wx_g6_5 hw]; exact wx_a12 hw) (by rw [wx_g0_0 hw]; exact wx_k6 hw), wx_g0_0 hw, wx_g6_5 hw, cl, h12, k19, hp_bd, hp_tn, b91_40 (wx_o0 wV) (wx_s0_10 wV) (wx_s0_0 wV) (by rw [wx_g0_0 wV]; exact wx_o6 wV) (by rw [wx_g0_10 wV]; exact wx_a91 wV) (by rw [wx_g0_10 wV, wx_N91 wV]; exact hbi), wx_g0_10 wV, wx_g0_0 wV, cl, g18, nI_add]
theorem s91_best (ok : gb_ok G) (hR : RC S G) (hv : ∀ j, j < (ab_row (gD G)).length → mm_M S 91 j = nI ((ab_vs (gP G) (gD G)).getD j 0)) : ∀ (k i : Nat) (v5 : Value), i + k = 100 → ∃ v, mm_ex (d + 1) 91 66 [.ref 0, .int x, .int (nI (ab_o1 (gP G) (gD G) i).1), .int (nI (ab_o1 (gP G) (gD G) i).2), .int (nI i), v5] [] S = mm_ex (d + 1) 91 112 [.ref 0, .int x, .int (nI (ab_o1 (gP G) (gD G) 100).1), .int (nI (ab_o1 (gP G) (gD G) 100).2), .int (nI 100), v] [] S := by
  have hw := hR.1
  have hl : (ab_row (gD G)).length ≤ 6 := row_le ok.1.1 ok.1.2.1
  have hlo : ab_lo (gD G) ≤ 9 := ok.1.2.1.2.2.2.2
  have h11 : mm_M S 6 11 = nI (ab_vs (gP G) (gD G)).length := by
    unfold ab_vs
    rw [List.length_map]
    exact hR.2.1.2.1.1
  have h13 : mm_M S 6 13 = nI (ab_lo (gD G)) := hR.2.1.2.1.2.2.2.2.2.1
  have hvl : (ab_vs (gP G) (gD G)).length = (ab_row (gD G)).length := List.length_map _
  have hvb : ∀ v ∈ ab_vs (gP G) (gD G), v < 2 ^ 20 := by
    intro v hv
    unfold ab_vs at hv
    obtain ⟨b, hb, rfl⟩ := List.mem_map.mp hv
    have := @ab_val_le (gP G) (gD G) b ok.1.1 (ok.1.2.1.2.1 b hb)
    omega
  intro k
  induction k with
  | zero =>
    intro i v5 hi
    have e : i = 100 := by omega
    subst e
    refine ⟨v5, ?_⟩
    rw [b91_66, if_pos (nI_lt (by decide) (by decide))]
  | succ k ih =>
    intro i v5 hi
    have k118 := s118q (S := S) (d := d) (p := i) hw (vs := ab_vs (gP G) (gD G)) (by omega) h11 (fun j hj => hv j (by omega)) hvb (by omega)
    have htk : ab_tk (ab_vs (gP G) (gD G)) i ≤ 6 := Nat.le_trans tk_le (by omega)
    have emin : (if nI (ab_tk (ab_vs (gP G) (gD G)) i) < nI (ab_lo (gD G)) then nI (ab_tk (ab_vs (gP G) (gD G)) i) else nI (ab_lo (gD G))) = nI (min (ab_lo (gD G)) (ab_tk (ab_vs (gP G) (gD G)) i)) := min_if (by omega) (by omega)
    have hm9 : min (ab_lo (gD G)) (ab_tk (ab_vs (gP G) (gD G)) i) ≤ 9 := Nat.le_trans (Nat.min_le_left _ _) hlo
    have hmul : i * min (ab_lo (gD G)) (ab_tk (ab_vs (gP G) (gD G)) i) ≤ 100 * 9 := Nat.mul_le_mul (by omega) hm9
    have ho := @o1_le (gP G) (gD G) hlo i (by omega)
    have es : ab_o1 (gP G) (gD G) (i + 1) = ab_op (ab_lo (gD G)) (ab_vs (gP G) (gD G)) (ab_o1 (gP G) (gD G) i) i := by
      unfold ab_o1
      rw [List.range_succ, List.foldl_append]
      rfl
    obtain ⟨v, hv2⟩ := ih (i + 1) (.int (nI (i * min (ab_lo (gD G)) (ab_tk (ab_vs (gP G) (gD G)) i)))) (by omega)
    refine ⟨v, ?_⟩
    rw [← hv2, es, b91_66, if_neg (nI_nlt (by omega) (by omega)), b91_73 (wx_o0 hw) (wx_s0_0 hw) (by rw [wx_g0_0 hw]; exact wx_o6 hw) (wx_k0 hw), wx_g0_0 hw, h13, k118, hp_bd, hp_tsc, b91_88, emin, nI_mul]
    unfold ab_op
    by_cases h : (ab_o1 (gP G) (gD G) i).2 < i * min (ab_lo (gD G)) (ab_tk (ab_vs (gP G) (gD G)) i)
    · rw [if_neg (nI_ge h (by omega)), if_pos h, b91_100, nI_add]
    · rw [if_pos (nI_le (by omega) (by omega)), if_neg h, b91_106, nI_add]
theorem c_18 (ok : gb_ok G) (hR : RC S G) : oC S (d + 4) 91 [.ref 0, .int x] (.int (an_18 G x)) G := by
  have hw := hR.1
  unfold an_18
  by_cases hx : x = nI 0 ∨ x = nI 1
  · obtain ⟨T, g1, g2, g3⟩ := s91_vals (d := d) (x := x) ok (ab_row (gD G)).length 0 S hR (Nat.zero_add _) (fun j hj => absurd hj (Nat.not_lt_zero j))
    obtain ⟨v, g4⟩ := s91_best (d := d + 3) (x := x) ok g2.1 g3 100 0 .null rfl
    have g4 : mm_ex (d + 4) 91 66 [.ref 0, .int x, .int (nI 0), .int (nI 0), .int (nI 0), .null] [] T = _ := g4
    have st : mm_cl (d + 4) 91 [.ref 0, .int x] S = mm_ex (d + 4) 91 112 [.ref 0, .int x, .int (nI (ab_o1 (gP G) (gD G) 100).1), .int (nI (ab_o1 (gP G) (gD G) 100).2), .int (nI 100), v] [] T := by
      have h1 : mm_cl (d + 4) 91 [.ref 0, .int x] S = mm_ex (d + 4) 91 11 [.ref 0, .int x, .null, .null, .null, .null] [] S := by
        rw [e91, b91_0]
        by_cases x0 : x = nI 0
        · rw [if_pos x0]
        · rw [if_neg x0, b91_4, if_pos (hx.resolve_left x0)]
      rw [h1, b91_11, g1, b91_59, g4]
    by_cases x0 : x = nI 0
    · rw [if_pos x0]
      refine oC_Q g2 ?_
      rw [st, b91_112, if_pos x0, b91_116]
    · rw [if_neg x0, if_pos (hx.resolve_left x0)]
      refine oC_Q g2 ?_
      rw [st, b91_112, if_neg x0, b91_120]
  · rw [if_neg (fun e => hx (Or.inl e)), if_neg (fun e => hx (Or.inr e))]
    refine oC_id hR ?_
    rw [e91, b91_0, if_neg (fun e => hx (Or.inl e)), b91_4, if_neg (fun e => hx (Or.inr e)), b91_9]
-- one leaves
theorem lv_Dk (hD : cd_D S a c D) (hk : k < (ab_row D).length) : cd_D (cd_lv S a (ab_row D).length k ((ab_row D).length - 1)) a c (gD_row D ((ab_row D).eraseIdx k)) := by
  obtain ⟨h1, h2, h3, h4, h5, h6, h7, h8⟩ := hD
  have hlen : ((ab_row D).eraseIdx k).length = (ab_row D).length - 1 := List.length_eraseIdx_of_lt hk
  refine ⟨?_, fun p hp => ?_, fun b hb => (lv_m (by decide) (by decide)).trans (h3 b hb), fun b hb => (lv_m (by decide) (by decide)).trans (h4 b hb), (lv_0 (by decide)).trans h5, (lv_0 (by decide)).trans h6, (lv_0 (by decide)).trans h7, (lv_0 (by decide)).trans h8⟩
  · rw [lv_11]
    show _ = nI ((ab_row D).eraseIdx k).length
    rw [hlen]
  · have hp : p < ((ab_row D).eraseIdx k).length := hp
    rw [hlen] at hp
    show _ = nI (((ab_row D).eraseIdx k).getD p 0)
    rw [List.getD_eq_getElem?_getD, List.getElem?_eraseIdx]
    by_cases h : p < k
    · rw [lv_6b h, if_pos h, ← List.getD_eq_getElem?_getD]
      exact h2 p (by omega)
    · rw [lv_6 (by omega) hp, if_neg h, ← List.getD_eq_getElem?_getD]
      exact h2 (p + 1) (by omega)
theorem s14k (hA : cd_A S a P D) (hk : k < (ab_row D).length) : ∃ T, mm_cl d 14 [.ref a, .int (nI k)] S = some (none, T) ∧ cd_fr a S T ∧ cd_A T a P (gD_row D ((ab_row D).eraseIdx k)) := by
  obtain ⟨hw, ha, hP, hD, oP, oD⟩ := hA
  have fr := lv_fr (S := S) (a := a) (n := (ab_row D).length) (k := k) (i := (ab_row D).length - 1)
  refine ⟨_, s14 hw ha hD.1 hk (row_le oP oD), fr, fr_W fr hw, ha, fr_P ha ha fr hP, lv_Dk hD hk, oP, okD_row oD ?_ (fun b hb => oD.2.1 b ((List.eraseIdx_sublist _ _).subset hb))⟩
  exact List.Sublist.nodup (List.eraseIdx_sublist _ _) oD.1
theorem c_19l (ok : gb_ok G) (hR : RC S G) (hD : cd_A S 24 (gP G) D) (hE : cd_A S 33 (gP G) E) {b : Nat} (hb : b < gK G) {x2 : Int32} : ∀ (l : List Nat) (i : Nat) (s : Int32) (v5 : Value), ab_row (gD G) = (ab_row (gD G)).take i ++ l → i + l.length = (ab_row (gD G)).length → ∃ v, mm_ex d 92 65 [.ref 0, .int (nI b), .int x2, .int s, .int (nI i), v5] [] S = mm_ex d 92 125 [.ref 0, .int (nI b), .int x2, .int (ab_au (gP G) D E b l s), .int (nI (ab_row (gD G)).length), v] [] S := by
  have hw := hR.1
  have hl6 : (ab_row (gD G)).length ≤ 6 := row_le ok.1.1 ok.1.2.1
  have hk6 : gK G ≤ 6 := ok.1.1.1
  have h11 : mm_M S 6 11 = nI (ab_row (gD G)).length := hR.2.1.2.1.1
  intro l
  induction l with
  | nil =>
    intro i s v5 _ hi
    have e : i = (ab_row (gD G)).length := by simpa using hi
    subst e
    refine ⟨v5, ?_⟩
    rw [b92_65 (wx_o0 hw) (wx_s0_0 hw) (by rw [wx_g0_0 hw]; exact wx_o6 hw), wx_g0_0 hw, h11, if_pos (nI_le (Nat.le_refl _) (by omega))]
    rfl
  | cons o l ih =>
    intro i s v5 hf hi
    rw [List.length_cons] at hi
    have hif : i < (ab_row (gD G)).length := by omega
    have hfi : (ab_row (gD G)).getD i 0 = o := by
      rw [List.getD_eq_getElem?_getD]
      conv => lhs; rw [hf]
      rw [List.getElem?_append_right (by rw [List.length_take]; omega), List.length_take, Nat.min_eq_left (by omega), Nat.sub_self]
      rfl
    have hom : o ∈ ab_row (gD G) := by rw [hf]; exact List.mem_append.mpr (Or.inr List.mem_cons_self)
    have hok : o < ab_kn (gP G) := ok.1.2.1.2.1 o hom
    have hok6 : o < 6 := Nat.lt_of_lt_of_le hok hk6
    have h12 : mm_M S 12 i = nI o := by rw [← hfi]; exact hR.2.1.2.1.2.1 i hif
    have cl : (nI i).toNatClampNeg = i := nI_clamp (by omega)
    have hbi : mm_inb (nI i) 6 = true := hp_inb (by omega) (by omega)
    have co : (nI o).toNatClampNeg = o := nI_clamp (by omega)
    have hoi : mm_inb (nI o) 6 = true := hp_inb (by omega) (by omega)
    have e2 : (nI o = nI b) = (o = b) := propext (nI_eq (by omega) (by omega))
    have g29 : mm_M S 29 o = ab_ga D o := hD.2.2.2.1.2.2.2.1 o hok
    have g38 : mm_M S 38 o = ab_ga E o := hE.2.2.2.1.2.2.2.1 o hok
    have hf' : ab_row (gD G) = (ab_row (gD G)).take (i + 1) ++ l := by
      rw [List.take_add_one]
      conv => lhs; rw [hf]
      rw [List.append_assoc]
      congr 1
      have : (ab_row (gD G))[i]? = some o := by
        rw [List.getD_eq_getElem?_getD, List.getElem?_eq_getElem hif] at hfi
        rw [List.getElem?_eq_getElem hif]
        exact congrArg some hfi
      rw [this]
      rfl
    have st : mm_ex d 92 65 [.ref 0, .int (nI b), .int x2, .int s, .int (nI i), v5] [] S = if nI o = nI b then mm_ex d 92 119 [.ref 0, .int (nI b), .int x2, .int s, .int (nI i), .int (nI o)] [] S else mm_ex d 92 95 [.ref 0, .int (nI b), .int x2, .int s, .int (nI i), .int (nI o)] [] S := by
      rw [b92_65 (wx_o0 hw) (wx_s0_0 hw) (by rw [wx_g0_0 hw]; exact wx_o6 hw), wx_g0_0 hw, h11, if_neg (nI_ge hif (by omega)), b92_77 (wx_o0 hw) (wx_s0_0 hw) (by rw [wx_g0_0 hw]; exact wx_o6 hw) (by rw [wx_g0_0 hw]; exact wx_s6_5 hw) (by rw [wx_g0_0 hw, wx_g6_5 hw, wx_N12 hw]; exact hbi) (by rw [wx_g0_0 hw, wx_g6_5 hw]; exact wx_a12 hw), wx_g0_0 hw, wx_g6_5 hw, cl, h12]
    have es : ab_au (gP G) D E b (o :: l) s = ab_au (gP G) D E b l (if o = b then s else s + (ab_ga D o - ab_ga E o)) := rfl
    by_cases h : o = b
    · obtain ⟨v, hv⟩ := ih (i + 1) s (.int (nI o)) hf' (by omega)
      refine ⟨v, ?_⟩
      rw [st, if_pos (by rw [e2]; exact h), b92_119, nI_add, hv, es, if_pos h]
    · obtain ⟨v, hv⟩ := ih (i + 1) (s + (ab_ga D o - ab_ga E o)) (.int (nI o)) hf' (by omega)
      refine ⟨v, ?_⟩
      rw [st, if_neg (by rw [e2]; exact h), b92_95 (wx_o0 hw) (wx_s0_2 hw) (by rw [wx_g0_2 hw]; exact wx_o24 hw) (by rw [wx_g0_2 hw]; exact wx_s24_4 hw) (by rw [wx_g0_2 hw, wx_g24_4 hw, wx_N29 hw]; exact hoi) (by rw [wx_g0_2 hw, wx_g24_4 hw]; exact wx_a29 hw) (wx_s0_3 hw) (by rw [wx_g0_3 hw]; exact wx_o33 hw) (by rw [wx_g0_3 hw]; exact wx_s33_4 hw) (by rw [wx_g0_3 hw, wx_g33_4 hw, wx_N38 hw]; exact hoi) (by rw [wx_g0_3 hw, wx_g33_4 hw]; exact wx_a38 hw), wx_g0_2 hw, wx_g24_4 hw, wx_g0_3 hw, wx_g33_4 hw, co, g29, g38, nI_add, hv, es, if_neg h]
theorem A_sf {F : Nat → Nat → Prop} (h : sf_f F S T) (hw : mm_W T) (ho : sf_o F S) (ha : mm_dy a) (h0 : ∀ m j, m ≤ 8 → ¬ F (a + m) j) (hA : cd_A S a P D) : cd_A T a P D := ⟨hw, hA.2.1, tr_P h ho (fun m j hm => h0 m j (by omega)) hA.2.2.1, tr_D h (fun m j hm => h0 m j (by omega)) hA.2.2.2.1, hA.2.2.2.2⟩
theorem dc_o (ha : mm_dy a) : sf_o (cd_dc a) S := by
  refine ⟨fun c j hc _ e => ?_, fun s m j hs hm e => ?_⟩
  · unfold cd_dc at e; unfold mm_dy at ha; omega
  · unfold cd_dc at e; unfold mm_sh at hs; unfold mm_dy at ha; omega
theorem gdy_o (ha : mm_dy a) : sf_o (gc_dy a) S := by
  refine ⟨fun c j hc _ e => ?_, fun s m j hs hm e => ?_⟩
  · unfold gc_dy at e; unfold mm_dy at ha; omega
  · unfold gc_dy at e; unfold mm_sh at hs; unfold mm_dy at ha; omega
/-- another day's turns leave a day -/
theorem A_fr (ha : mm_dy a) (hc : mm_dy c) (h : cd_fr c S T) (hac : a ≠ c) (hA : cd_A S a P D) : cd_A T a P D := A_sf (sf_cd h) (fr_W h hA.1) (dc_o hc) ha (fun m j hm e => by unfold cd_dc at e; unfold mm_dy at ha hc; omega) hA
theorem A_cD (ha : mm_dy a) (hc : mm_dy c) (hac : a ≠ c) (hA : cd_A S a P D) : cd_A (mm_cD S c b) a P D := A_sf cD_sf (w_cD hc hA.1) (gdy_o hc) ha (fun m j hm e => by unfold gc_dy at e; unfold mm_dy at ha hc; omega) hA
theorem c_19 (ok : gb_ok G) (hR : RC S G) : oC S (d + 7) 92 [.ref 0, .int x] (.int (an_19 G x)) G := by
  have hw := hR.1
  have hk : gK G ≤ 6 := ok.1.1.1
  have hA := RC_A ok hR
  have hl6 : (ab_row (gD G)).length ≤ 6 := row_le ok.1.1 ok.1.2.1
  unfold an_19
  rcases kw_c hk x with ⟨e, h⟩ | ⟨b, hb, e, rfl⟩
  · have k := s8n (d := d + 6) ok hR e
    rw [e]
    refine oC_id hR ?_
    rw [e92, b92_0 (wx_o0 hw) (wx_s0_0 hw) (by rw [wx_g0_0 hw]; exact wx_k6 hw), wx_g0_0 hw, k, hp_bd, hp_ts, b92_8, if_pos rfl, b92_11]
  have k := s8s (d := d + 6) ok hR hb
  have k12 := s12b (d := d + 6) hA hb
  rw [e]
  have st : mm_cl (d + 7) 92 [.ref 0, .int (nI b)] S = mm_ex (d + 7) 92 22 [.ref 0, .int (nI b), .null, .null, .null, .null] [.int (cd_fo (ab_at b (ab_row (gD G))))] S := by
    rw [e92, b92_0 (wx_o0 hw) (wx_s0_0 hw) (by rw [wx_g0_0 hw]; exact wx_k6 hw), wx_g0_0 hw, k, hp_bd, hp_ts, b92_8, if_neg i01, b92_14 (wx_o0 hw) (wx_s0_0 hw) (by rw [wx_g0_0 hw]; exact wx_k6 hw), wx_g0_0 hw, k12, hp_bd, hp_ts]
  cases hat : ab_at b (ab_row (gD G)) with
  | none =>
    refine oC_id hR ?_
    rw [st, hat, b92_22, if_neg (by decide), b92_27]
    simp only [hat]
  | some p =>
    have hp := (at_some hat).1
    obtain ⟨T1, g1, g2, g3⟩ := s113q (d := d) ok hR
    obtain ⟨f1, f2, f3⟩ := t_copy (d := d + 5) (a := 33) ok g2.1 (Or.inr rfl)
    obtain ⟨T3, h1, h2, h3⟩ := s14k (d := d + 6) f3 hp
    obtain ⟨T4, j1, j2, j3⟩ := s23 (d := d + 1) h3
    have w1 := g2.1.1
    have w2 := f3.1
    have w3 := h3.1
    have w4 := j3.1
    have q4 := QC_tr g2 (QC_tr f2 (QC_fr ok f2.1 (Or.inr rfl) (fr_tr h2 j2)))
    have A24 : cd_A T4 24 (gP G) (ab_fin (gP G) (gD G)) := A_fr dy24 dy33 (fr_tr h2 j2) (by decide) (A_cD dy24 dy33 (by decide) g3)
    obtain ⟨v, hv⟩ := c_19l (d := d + 7) ok q4.1 A24 j3 hb (x2 := nI p) (ab_row (gD G)) 0 (nI 0) .null (by simp) (Nat.zero_add _)
    refine oC_Q q4 ?_
    rw [st, hat]
    show mm_ex (d + 7) 92 22 _ [.int (nI p)] S = _
    rw [b92_22, if_pos (nI_le (Nat.zero_le _) (by omega)), b92_30 (wx_k0 hw), g1, hp_bd, hp_tn, b92_34 (wx_o0 w1) (wx_s0_3 w1) (wx_s0_0 w1) (by rw [wx_g0_3 w1]; exact wx_k33 w1), wx_g0_3 w1, wx_g0_0 w1, f1, hp_bd, hp_tn, b92_45 (wx_o0 w2) (wx_s0_3 w2) (by rw [wx_g0_3 w2]; exact wx_k33 w2), wx_g0_3 w2, h1, hp_bd, hp_tn, b92_53 (wx_o0 w3) (wx_s0_3 w3) (by rw [wx_g0_3 w3]; exact wx_k33 w3), wx_g0_3 w3, j1, hp_bd, hp_tn, b92_60, hv, b92_125]
    simp only [hat]
end Q2
end
section
/-! ===== questions of the class: let by, would ===== -/
section Q3
variable {S T U : mm_S} {G : gb_G} {P : ab_P} {D E : ab_D} {a b c d n k i p : Nat} {x w y t : Int32} {r : List Nat}
theorem sw_perm : ∀ {r : List Nat} {p : Nat}, p + 1 < r.length → (ab_sw r p).Perm r := by
  intro r
  induction r with
  | nil => intro p h; exact absurd h (Nat.not_lt_zero _)
  | cons x r ih =>
    intro p h
    cases p with
    | zero =>
      cases r with
      | nil => exact absurd h (by simp)
      | cons y r => exact List.Perm.swap x y r
    | succ p =>
      have e : ab_sw (x :: r) (p + 1) = x :: ab_sw r p := rfl
      rw [e]
      exact (ih (Nat.lt_of_succ_lt_succ h)).cons x
theorem sw_get {r : List Nat} {p q : Nat} (h : p + 1 < r.length) (hq : q < r.length) : (ab_sw r p).getD q 0 = if q = p + 1 then r.getD p 0 else if q = p then r.getD (p + 1) 0 else r.getD q 0 := by
  unfold ab_sw
  rw [List.getD_eq_getElem?_getD, List.getElem?_set, List.length_set]
  by_cases h1 : p + 1 = q
  · rw [if_pos h1, if_pos h, if_pos h1.symm]; rfl
  · rw [if_neg h1, if_neg (fun e => h1 e.symm), List.getElem?_set]
    by_cases h2 : p = q
    · rw [if_pos h2, if_pos (by omega), if_pos h2.symm]; rfl
    · rw [if_neg h2, if_neg (fun e => h2 e.symm), ← List.getD_eq_getElem?_getD]
theorem sw_len {r : List Nat} {p : Nat} : (ab_sw r p).length = r.length := by unfold ab_sw; rw [List.length_set, List.length_set]
/-- the row of a day written anew -/
theorem A_row {F : Nat → Nat → Prop} (hA : cd_A S a P D) (hw : mm_W T) (h : sf_f F S T) (hF : ∀ c j, F c j → c = a + 6) {l : List Nat} (h1 : l.Nodup) (h2 : ∀ b ∈ l, b < ab_kn P) (hl : l.length = (ab_row D).length) (hv : ∀ p, p < l.length → mm_M T (a + 6) p = nI (l.getD p 0)) : cd_A T a P (gD_row D l) := by
  obtain ⟨-, ha, hP, ⟨d1, d2, d3, d4, d5, d6, d7, d8⟩, oP, oD⟩ := hA
  have ho : sf_o F S := by
    refine ⟨fun c j hc _ e => ?_, fun s m j hs hm e => ?_⟩
    · have := hF _ _ e; unfold mm_dy at ha; omega
    · have := hF _ _ e; unfold mm_sh at hs; unfold mm_dy at ha; omega
  have hx : ∀ m j, m ≠ 6 → ¬ F (a + m) j := fun m j hm e => by have := hF _ _ e; omega
  refine ⟨hw, ha, tr_P h ho (fun m j hm => hx m j (by omega)) hP, ⟨?_, hv, fun b hb => (h.1 _ _ (hx 4 b (by decide))).1.trans (d3 b hb), fun b hb => (h.1 _ _ (hx 5 b (by decide))).1.trans (d4 b hb), (h.1 _ _ (hx 0 _ (by decide))).1.trans d5, (h.1 _ _ (hx 0 _ (by decide))).1.trans d6, (h.1 _ _ (hx 0 _ (by decide))).1.trans d7, (h.1 _ _ (hx 0 _ (by decide))).1.trans d8⟩, oP, okD_row oD h1 h2⟩
  show mm_M T a 11 = nI l.length
  rw [hl]
  exact (h.1 _ _ (hx 0 _ (by decide))).1.trans d1
theorem row_i (ok : gb_ok G) (hi : i < (ab_row (gD G)).length) : (ab_row (gD G)).getD i 0 < gK G := by
  have hm : (ab_row (gD G)).getD i 0 ∈ ab_row (gD G) := by
    rw [List.getD_eq_getElem?_getD, List.getElem?_eq_getElem hi]
    exact List.getElem_mem hi
  exact ok.1.2.1.2.1 _ hm
theorem s117q (ok : gb_ok G) (hR : RC S G) (hE : cd_A S 33 (gP G) (ab_fin (gP G) (gD G))) (hp : p + 1 < (ab_row (gD G)).length) : ∃ T, mm_cl (d + 6) 117 [.ref 0, .int (nI p)] S = some (some (.int (if ab_ls ab_lq (gP G) (gD G) p = true then nI 1 else nI 0)), T) ∧ QC S T G ∧ cd_A T 33 (gP G) (ab_fin (gP G) (gD G)) := by
  have hw := hR.1
  have hl6 : (ab_row (gD G)).length ≤ 6 := row_le ok.1.1 ok.1.2.1
  have hk6 : gK G ≤ 6 := ok.1.1.1
  obtain ⟨g1, g2, g3⟩ := t_copy (d := d + 4) (a := 24) ok hR (Or.inl rfl)
  have w1 := g3.1
  have u0 := row_i ok (show p < (ab_row (gD G)).length by omega)
  have u1 := row_i ok hp
  have r0 : mm_M S 12 p = nI ((ab_row (gD G)).getD p 0) := hR.2.1.2.1.2.1 p (by have : p < (ab_row (gD G)).length := (by omega); exact this)
  have r1 : mm_M S 12 (p + 1) = nI ((ab_row (gD G)).getD (p + 1) 0) := hR.2.1.2.1.2.1 (p + 1) hp
  have c0 : (nI p).toNatClampNeg = p := nI_clamp (by omega)
  have c1 : (nI (p + 1)).toNatClampNeg = p + 1 := nI_clamp (by omega)
  have i0 : mm_inb (nI p) 6 = true := hp_inb (by omega) (by omega)
  have i1 : mm_inb (nI (p + 1)) 6 = true := hp_inb (by omega) (by omega)
  have wV : mm_W (mm_uM (mm_uM (mm_cD S 24 6) 30 p (nI ((ab_row (gD G)).getD (p + 1) 0))) 30 (p + 1) (nI ((ab_row (gD G)).getD p 0))) := w1
  have fV : sf_f (fun c j => c = 24 + 6) (mm_cD S 24 6) (mm_uM (mm_uM (mm_cD S 24 6) 30 p (nI ((ab_row (gD G)).getD (p + 1) 0))) 30 (p + 1) (nI ((ab_row (gD G)).getD p 0))) := sf_tr (sf_uM rfl) (sf_uM rfl)
  have AV : cd_A (mm_uM (mm_uM (mm_cD S 24 6) 30 p (nI ((ab_row (gD G)).getD (p + 1) 0))) 30 (p + 1) (nI ((ab_row (gD G)).getD p 0))) 24 (gP G) (gD_row (gD G) (ab_sw (ab_row (gD G)) p)) := by
    refine A_row g3 wV fV (fun c j h => h) ((sw_perm hp).nodup_iff.mpr ok.1.2.1.1) (fun b hb => ok.1.2.1.2.1 b ((sw_perm hp).mem_iff.mp hb)) sw_len (fun q hq => ?_)
    rw [sw_len] at hq
    rw [sw_get hp hq]
    show mm_M (mm_uM (mm_uM (mm_cD S 24 6) 30 p _) 30 (p + 1) _) 30 q = _
    rw [rdk, rdk]
    by_cases h1 : q = p + 1
    · rw [if_pos h1, if_pos h1]
    · rw [if_neg h1, if_neg h1]
      by_cases h2 : q = p
      · rw [if_pos h2, if_pos h2]
      · rw [if_neg h2, if_neg h2]
        exact g3.2.2.2.1.2.1 q hq
  have qV : QC S (mm_uM (mm_uM (mm_cD S 24 6) 30 p (nI ((ab_row (gD G)).getD (p + 1) 0))) 30 (p + 1) (nI ((ab_row (gD G)).getD p 0))) G := QC_tr g2 (QC_f ok g2.1 (sf_tr (sf_uM (by unfold gc_F; omega)) (sf_uM (by unfold gc_F; omega))) wV rfl rfl)
  have EV : cd_A (mm_uM (mm_uM (mm_cD S 24 6) 30 p (nI ((ab_row (gD G)).getD (p + 1) 0))) 30 (p + 1) (nI ((ab_row (gD G)).getD p 0))) 33 (gP G) (ab_fin (gP G) (gD G)) := A_sf fV wV ⟨fun c j hc _ (e : c = 24 + 6) => by omega, fun s m j hs hm (e : s + m = 24 + 6) => by unfold mm_sh at hs; omega⟩ dy33 (fun m j hm (e : 33 + m = 24 + 6) => by omega) (A_cD dy33 dy24 (by decide) hE)
  obtain ⟨T, g4, g5, g6⟩ := s23 (d := d) AV
  have wT := g6.1
  have ET := A_fr dy33 dy24 g5 (by decide) EV
  have qT := QC_tr qV (QC_fr ok qV.1 (Or.inl rfl) g5)
  refine ⟨T, ?_, qT, ET⟩
  have ca : (nI ((ab_row (gD G)).getD p 0)).toNatClampNeg = (ab_row (gD G)).getD p 0 := nI_clamp (by omega)
  have cb : (nI ((ab_row (gD G)).getD (p + 1) 0)).toNatClampNeg = (ab_row (gD G)).getD (p + 1) 0 := nI_clamp (by omega)
  have ia : mm_inb (nI ((ab_row (gD G)).getD p 0)) 6 = true := hp_inb (by omega) (by omega)
  have ib : mm_inb (nI ((ab_row (gD G)).getD (p + 1) 0)) 6 = true := hp_inb (by omega) (by omega)
  have ga := g6.2.2.2.1.2.2.2.1 _ u0
  have gb := g6.2.2.2.1.2.2.2.1 _ u1
  have ea := ET.2.2.2.1.2.2.2.1 _ u0
  have eb := ET.2.2.2.1.2.2.2.1 _ u1
  rw [e117, b117_0 (wx_o0 hw) (wx_s0_0 hw) (by rw [wx_g0_0 hw]; exact wx_o6 hw) (by rw [wx_g0_0 hw]; exact wx_s6_5 hw) (by rw [wx_g0_0 hw, wx_g6_5 hw, wx_N12 hw]; exact i0) (by rw [wx_g0_0 hw, wx_g6_5 hw]; exact wx_a12 hw) (by rw [nI_add, wx_g0_0 hw, wx_g6_5 hw, wx_N12 hw]; exact i1) (wx_s0_2 hw) (by rw [wx_g0_2 hw]; exact wx_k24 hw), wx_g0_2 hw, wx_g0_0 hw, wx_g6_5 hw, nI_add, c0, c1, r0, r1, g1, hp_bd, hp_tn]
  rw [b117_33 (wx_o0 w1) (wx_s0_2 w1) (by rw [wx_g0_2 w1]; exact wx_o24 w1) (by rw [wx_g0_2 w1]; exact wx_s24_5 w1) (by rw [wx_g0_2 w1, wx_g24_5 w1]; exact wx_a30 w1) (by rw [wx_g0_2 w1, wx_g24_5 w1, wx_N30 w1]; exact i0) (by rw [nI_add, wx_g0_2 w1, wx_g24_5 w1, wx_N30 w1]; exact i1) (by rw [wx_g0_2 w1]; exact wx_k24 w1), nI_add, wx_g0_2 w1, wx_g24_5 w1, c0, c1, g4, hp_bd, hp_tn]
  rw [b117_62 (wx_o0 wT) (wx_s0_2 wT) (by rw [wx_g0_2 wT]; exact wx_o24 wT) (by rw [wx_g0_2 wT]; exact wx_s24_4 wT) (by rw [wx_g0_2 wT, wx_g24_4 wT, wx_N29 wT]; exact ia) (by rw [wx_g0_2 wT, wx_g24_4 wT]; exact wx_a29 wT) (wx_s0_3 wT) (by rw [wx_g0_3 wT]; exact wx_o33 wT) (by rw [wx_g0_3 wT]; exact wx_s33_4 wT) (by rw [wx_g0_3 wT, wx_g33_4 wT, wx_N38 wT]; exact ia) (by rw [wx_g0_3 wT, wx_g33_4 wT]; exact wx_a38 wT) (by rw [wx_g0_2 wT, wx_g24_4 wT, wx_N29 wT]; exact ib) (by rw [wx_g0_3 wT, wx_g33_4 wT, wx_N38 wT]; exact ib), wx_g0_2 wT, wx_g24_4 wT, wx_g0_3 wT, wx_g33_4 wT, ca, cb, show mm_M T 29 _ = _ from ga, show mm_M T 29 _ = _ from gb, show mm_M T 38 _ = _ from ea, show mm_M T 38 _ = _ from eb]
  unfold ab_ls
  generalize ab_ga (ab_fin (gP G) (gD_row (gD G) (ab_sw (ab_row (gD G)) p))) ((ab_row (gD G)).getD p 0) - ab_ga (ab_fin (gP G) (gD G)) ((ab_row (gD G)).getD p 0) = u
  generalize ab_ga (ab_fin (gP G) (gD_row (gD G) (ab_sw (ab_row (gD G)) p))) ((ab_row (gD G)).getD (p + 1) 0) - ab_ga (ab_fin (gP G) (gD G)) ((ab_row (gD G)).getD (p + 1) 0) = v
  unfold ab_lq
  by_cases h1 : u < nI 0
  · rw [if_pos h1, b117_128, decide_eq_false (Int32.not_le.mpr h1)]; rfl
  rw [if_neg h1, b117_109, decide_eq_true (Int32.not_lt.mp h1)]
  by_cases h2 : v < nI 0
  · rw [if_pos h2, b117_128, decide_eq_false (Int32.not_le.mpr h2)]; rfl
  rw [if_neg h2, b117_114, decide_eq_true (Int32.not_lt.mp h2)]
  by_cases h3 : nI 0 < u
  · rw [if_pos h3, b117_124, decide_eq_true h3]; rfl
  rw [if_neg h3, b117_119, decide_eq_false h3]
  by_cases h4 : nI 0 < v
  · rw [if_neg (Int32.not_le.mpr h4), b117_124, decide_eq_true h4]; rfl
  · rw [if_pos (Int32.not_lt.mp h4), b117_128, decide_eq_false h4]; rfl
theorem lb_le {q : Int32 → Int32 → Bool} : ∀ n, (ab_lb q P D n).1 ≤ n ∧ ∀ f, (ab_lb q P D n).2 = some f → f < n := by
  intro n
  induction n with
  | zero => exact ⟨Nat.le_refl _, fun f h => by cases h⟩
  | succ n ih =>
    have e : ab_lb q P D (n + 1) = ab_l1 q P D (ab_lb q P D n) n := by
      unfold ab_lb
      rw [List.range_succ, List.foldl_append]
      rfl
    rw [e]
    unfold ab_l1
    split
    · refine ⟨Nat.succ_le_succ ih.1, fun f h => ?_⟩
      have h : (if (ab_lb q P D n).1 = 0 then some n else (ab_lb q P D n).2) = some f := h
      split at h
      · cases h; omega
      · have := ih.2 f h; omega
    · exact ⟨Nat.le_succ_of_le ih.1, fun f h => Nat.lt_succ_of_lt (ih.2 f h)⟩
theorem c15_loop (ok : gb_ok G) : ∀ (k i : Nat) (S : mm_S), RC S G → cd_A S 33 (gP G) (ab_fin (gP G) (gD G)) → i + k = (ab_row (gD G)).length - 1 → ∃ T, mm_ex (d + 7) 88 37 [.ref 0, .int x, .int (nI (ab_lb ab_lq (gP G) (gD G) i).1), .int (md_fo (ab_lb ab_lq (gP G) (gD G) i).2), .int (nI i)] [] S = mm_ex (d + 7) 88 76 [.ref 0, .int x, .int (nI (ab_lb ab_lq (gP G) (gD G) ((ab_row (gD G)).length - 1)).1), .int (md_fo (ab_lb ab_lq (gP G) (gD G) ((ab_row (gD G)).length - 1)).2), .int (nI ((ab_row (gD G)).length - 1))] [] T ∧ QC S T G := by
  have hl6 : (ab_row (gD G)).length ≤ 6 := row_le ok.1.1 ok.1.2.1
  intro k
  induction k with
  | zero =>
    intro i S hR hE hi
    have hw := hR.1
    have h11 : mm_M S 6 11 = nI (ab_row (gD G)).length := hR.2.1.2.1.1
    have e : i = (ab_row (gD G)).length - 1 := by omega
    subst e
    refine ⟨S, ?_, QC_rf hR⟩
    rw [b88_37 (wx_o0 hw) (wx_s0_0 hw) (by rw [wx_g0_0 hw]; exact wx_o6 hw), wx_g0_0 hw, h11, nI_add, if_pos (nI_le (by omega) (by omega))]
  | succ k ih =>
    intro i S hR hE hi
    have hw := hR.1
    have h11 : mm_M S 6 11 = nI (ab_row (gD G)).length := hR.2.1.2.1.1
    obtain ⟨T1, g1, g2, g3⟩ := s117q (d := d) ok hR hE (p := i) (by omega)
    obtain ⟨T2, g4, g5⟩ := ih (i + 1) T1 g2.1 g3 (by omega)
    have hb := (@lb_le (gP G) (gD G) ab_lq i).1
    have e : ab_lb ab_lq (gP G) (gD G) (i + 1) = ab_l1 ab_lq (gP G) (gD G) (ab_lb ab_lq (gP G) (gD G) i) i := by
      unfold ab_lb
      rw [List.range_succ, List.foldl_append]
      rfl
    refine ⟨T2, ?_, QC_tr g2 g5⟩
    rw [← g4, e, b88_37 (wx_o0 hw) (wx_s0_0 hw) (by rw [wx_g0_0 hw]; exact wx_o6 hw), wx_g0_0 hw, h11, nI_add, if_neg (nI_ge (by omega) (by omega)), b88_51 (wx_k0 hw), g1, hp_bd, hp_ts, b88_57]
    unfold ab_l1
    cases hs : ab_ls ab_lq (gP G) (gD G) i with
    | true =>
      rw [if_pos rfl, if_neg i01, b88_60]
      simp only [if_true]
      by_cases h0 : (ab_lb ab_lq (gP G) (gD G) i).1 = 0
      · rw [if_pos (by rw [h0]), if_pos h0, b88_64, nI_add, nI_add]; rfl
      · rw [if_neg (fun q => h0 ((nI_eq (by omega) (by decide)).mp q)), if_neg h0, b88_67, nI_add, nI_add]
    | false =>
      rw [if_pos (by decide), b88_70, nI_add]
      rfl
theorem c_15 (ok : gb_ok G) (hR : RC S G) : oC S (d + 7) 88 [.ref 0, .int x] (.int (an_15q ab_lq G x)) G := by
  have hw := hR.1
  unfold an_15q
  by_cases hx : x = nI 0 ∨ x = nI 1
  · obtain ⟨f1, f2, f3⟩ := t_copy (d := d + 5) (a := 33) ok hR (Or.inr rfl)
    obtain ⟨T1, g1, g2, g3⟩ := s23 (d := d + 1) f3
    have w1 := f3.1
    have q1 := QC_tr f2 (QC_fr ok f2.1 (Or.inr rfl) g2)
    obtain ⟨T, g4, g5⟩ := c15_loop (d := d) (x := x) ok ((ab_row (gD G)).length - 1) 0 T1 q1.1 g3 (Nat.zero_add _)
    have st : mm_cl (d + 7) 88 [.ref 0, .int x] S = mm_ex (d + 7) 88 76 [.ref 0, .int x, .int (nI (ab_lb ab_lq (gP G) (gD G) ((ab_row (gD G)).length - 1)).1), .int (md_fo (ab_lb ab_lq (gP G) (gD G) ((ab_row (gD G)).length - 1)).2), .int (nI ((ab_row (gD G)).length - 1))] [] T := by
      have h1 : mm_cl (d + 7) 88 [.ref 0, .int x] S = mm_ex (d + 7) 88 11 [.ref 0, .int x, .null, .null, .null] [] S := by
        rw [e88, b88_0]
        by_cases x0 : x = nI 0
        · rw [if_pos x0]
        · rw [if_neg x0, b88_4, if_pos (hx.resolve_left x0)]
      rw [h1, b88_11 (wx_o0 hw) (wx_s0_3 hw) (wx_s0_0 hw) (by rw [wx_g0_3 hw]; exact wx_k33 hw), wx_g0_3 hw, wx_g0_0 hw, f1, hp_bd, hp_tn, b88_22 (wx_o0 w1) (wx_s0_3 w1) (by rw [wx_g0_3 w1]; exact wx_k33 w1), wx_g0_3 w1, g1, hp_bd, hp_tn, b88_29]
      exact g4
    by_cases x0 : x = nI 0
    · rw [if_pos x0]
      refine oC_Q (QC_tr q1 g5) ?_
      rw [st, b88_76, if_pos x0, b88_80]
    · rw [if_neg x0, if_pos (hx.resolve_left x0)]
      refine oC_Q (QC_tr q1 g5) ?_
      rw [st, b88_76, if_neg x0, b88_84]
  · rw [if_neg (fun e => hx (Or.inl e)), if_neg (fun e => hx (Or.inr e))]
    refine oC_id hR ?_
    rw [e88, b88_0, if_neg (fun e => hx (Or.inl e)), b88_4, if_neg (fun e => hx (Or.inr e)), b88_9]
-- would
/-- the row moved back by one, but for places up to i -/
def cd_sh (S : mm_S) (a n i : Nat) : mm_S := mm_wM S (fun c j => if c = a + 6 ∧ i < j ∧ j ≤ n then mm_M S (a + 6) (j - 1) else mm_M S c j)
theorem sh_M {j : Nat} : mm_M (cd_sh S a n i) c j = if c = a + 6 ∧ i < j ∧ j ≤ n then mm_M S (a + 6) (j - 1) else mm_M S c j := id rfl
theorem s15_loop (hw : mm_W S) (ha : mm_dy a) (hn : n < 6) : ∀ i, i ≤ n → mm_ex d 15 24 [.ref a, .int x, .int (nI i)] [] (cd_sh S a n i) = mm_ex d 15 48 [.ref a, .int x, .int (nI 0)] [] (cd_sh S a n 0) := by
  intro i
  induction i with
  | zero => intro _; rw [b15_24, if_pos (by decide)]
  | succ i ih =>
    intro hi
    have w : mm_W (cd_sh S a n (i + 1)) := hw
    have s1 : nI (i + 1) - nI 1 = nI i := by rw [pk_sub (by omega), Nat.add_sub_cancel]
    have m1 : nI (i + 1) + (-1) = nI i := pk_m1 _
    have r1 : mm_M (cd_sh S a n (i + 1)) (a + 6) i = mm_M S (a + 6) i := by rw [sh_M, if_neg (fun e => by omega)]
    rw [b15_24, if_neg (nI_ge (by omega) (by omega)), b15_28 (wd_o w ha) (wd_s5 w ha) (by rw [s1, wd_g5 w ha, wd_N6 w ha]; exact hp_inb (by omega) (by omega)) (by rw [wd_g5 w ha]; exact wd_a6 w ha) (by rw [wd_g5 w ha, wd_N6 w ha]; exact hp_inb (by omega) (by omega)), s1, m1, wd_g5 w ha, nI_clamp (by omega), nI_clamp (by omega), r1, ← ih (by omega)]
    congr 1
    refine st_ext (fun c j => ?_) (fun _ _ => rfl) (fun _ _ => rfl) (fun _ => rfl) (fun _ => rfl) rfl rfl
    rw [hp_MuM, sh_M, sh_M]
    by_cases h : c = a + 6
    · by_cases h2 : j = i + 1
      · rw [if_pos ⟨h, h2⟩, if_pos ⟨h, by omega, by omega⟩, h2, Nat.add_sub_cancel]
      · rw [if_neg (fun e => h2 e.2)]
        by_cases h3 : i + 1 < j ∧ j ≤ n
        · rw [if_pos ⟨h, h3⟩, if_pos ⟨h, by omega, by omega⟩]
        · rw [if_neg (fun e => h3 e.2), if_neg (fun e => by omega)]
    · rw [if_neg (fun e => h e.1), if_neg (fun e => h e.1), if_neg (fun e => h e.1)]
/-- b, who is not in the row, comes to its head -/
theorem s15i (hA : cd_A S a P D) (hb : b < ab_kn P) (hn : b ∉ ab_row D) : ∃ T, mm_ex d 15 9 [.ref a, .int (nI b), .null] [] S = some (none, T) ∧ cd_fr a S T ∧ cd_A T a P (gD_row D (b :: ab_row D)) := by
  have hA' := hA
  obtain ⟨hw, ha, hP, hD, oP, oD⟩ := hA
  have hnd : (b :: ab_row D).Nodup := List.nodup_cons.mpr ⟨hn, oD.1⟩
  have hmb : ∀ c ∈ b :: ab_row D, c < ab_kn P := by
    intro c hc
    rcases List.mem_cons.mp hc with h | h
    · rw [h]; exact hb
    · exact oD.2.1 c h
  have hl : (ab_row D).length + 1 ≤ 6 := by
    have := nd_le _ _ hnd hmb
    rw [List.length_cons] at this
    have := oP.1
    omega
  have lo := s15_loop (d := d) (x := nI b) hw ha (n := (ab_row D).length) (by omega) (ab_row D).length (Nat.le_refl _)
  have z : cd_sh S a (ab_row D).length (ab_row D).length = S := st_ext (fun c j => by rw [sh_M, if_neg (fun e => by omega)]) (fun _ _ => rfl) (fun _ _ => rfl) (fun _ => rfl) (fun _ => rfl) rfl rfl
  rw [z] at lo
  have w1 : mm_W (cd_sh S a (ab_row D).length 0) := hw
  have w2 : mm_W (mm_uM (cd_sh S a (ab_row D).length 0) (a + 6) 0 (nI b)) := hw
  have f1 : cd_fr a S (cd_sh S a (ab_row D).length 0) := by
    refine ⟨rfl, fun c j h => ?_⟩
    rw [sh_M, if_neg (fun e => h (by rw [e.1]; exact dc_6))]
  have f2 := fr_w (x := nI ((ab_row D).length + 1)) (fr_w (x := nI b) (j := 0) f1 dc_6) (dc_a (j := 11) (by decide))
  have m11 : mm_M (mm_uM (cd_sh S a (ab_row D).length 0) (a + 6) 0 (nI b)) a 11 = nI (ab_row D).length := by
    rw [rdn (by omega), sh_M, if_neg (fun e => by omega)]
    exact hD.1
  refine ⟨mm_uM (mm_uM (cd_sh S a (ab_row D).length 0) (a + 6) 0 (nI b)) a 11 (nI ((ab_row D).length + 1)), ?_, f2, fr_W f2 hw, ha, fr_P ha ha f2 hP, ?_, oP, okD_row oD hnd hmb⟩
  · rw [b15_9 (wd_o hw ha), hD.1, if_pos (nI_lt (by omega) (by decide)), b15_19 (wd_o hw ha), hD.1, lo, b15_48 (wd_o w1 ha) (wd_s5 w1 ha) (by rw [wd_g5 w1 ha]; exact wd_a6 w1 ha) (by rw [wd_g5 w1 ha, wd_N6 w1 ha]; decide), wd_g5 w1 ha, nI_clamp (by decide), b15_57 (wd_o (S := mm_uM (cd_sh S a (ab_row D).length 0) (a + 6) 0 (nI b)) w1 ha) (wd_o (S := mm_uM (cd_sh S a (ab_row D).length 0) (a + 6) 0 (nI b)) w1 ha), m11, nI_add]
  · obtain ⟨d1, d2, d3, d4, d5, d6, d7, d8⟩ := hD
    have other : ∀ m j, m ≠ 6 → (m ≠ 0 ∨ j ≠ 11) → mm_M (mm_uM (mm_uM (cd_sh S a (ab_row D).length 0) (a + 6) 0 (nI b)) a 11 (nI ((ab_row D).length + 1))) (a + m) j = mm_M S (a + m) j := by
      intro m j h1 h2
      rw [rdn (by omega), rdn (by omega), sh_M, if_neg (fun e => by omega)]
    refine ⟨rds, fun q hq => ?_, fun b hb => (other 4 b (by decide) (Or.inl (by decide))).trans (d3 b hb), fun b hb => (other 5 b (by decide) (Or.inl (by decide))).trans (d4 b hb), (other 0 _ (by decide) (by decide)).trans d5, (other 0 _ (by decide) (by decide)).trans d6, (other 0 _ (by decide) (by decide)).trans d7, (other 0 _ (by decide) (by decide)).trans d8⟩
    have hq : q < (b :: ab_row D).length := hq
    rw [List.length_cons] at hq
    show _ = nI ((b :: ab_row D).getD q 0)
    rw [rdn (by omega), rdk]
    cases q with
    | zero => rw [if_pos rfl]; rfl
    | succ q =>
      rw [if_neg (by omega), sh_M, if_pos ⟨rfl, by omega, by omega⟩, Nat.add_sub_cancel]
      exact d2 q (by omega)
theorem s15q (hA : cd_A S a P D) (hb : b < ab_kn P) : ∃ T l, mm_cl (d + 1) 15 [.ref a, .int (nI b)] S = some (none, T) ∧ cd_fr a S T ∧ cd_A T a P (gD_row D (b :: l)) := by
  have hw := hA.1
  have ha := hA.2.1
  have k12 := s12b (d := d) hA hb
  have hl := row_le hA.2.2.2.2.1 hA.2.2.2.2.2
  rw [e15, b15_0 (wd_k hw ha), k12, hp_bd, hp_tsc]
  cases hat : ab_at b (ab_row D) with
  | none =>
    obtain ⟨T, g1, g2, g3⟩ := s15i (d := d + 1) hA hb (at_none.mp hat)
    refine ⟨T, ab_row D, ?_, g2, g3⟩
    have k14 : mm_cl d 14 [.ref a, .int (cd_fo none)] S = some (none, S) := by
      show mm_cl d 14 [.ref a, .int (-1)] S = _
      rw [e14, b14_0, if_pos (by decide), b14_12]
    rw [b15_6 (wd_k hw ha), k14, hp_bd, hp_tn, g1]
  | some k =>
    have hk := at_some hat
    obtain ⟨T1, f1, f2, f3⟩ := s14k (d := d) hA hk.1
    have hnb : b ∉ (ab_row D).eraseIdx k := by
      intro hm
      obtain ⟨q, hq, e⟩ := List.mem_iff_getElem.mp hm
      have hlen : ((ab_row D).eraseIdx k).length = (ab_row D).length - 1 := List.length_eraseIdx_of_lt hk.1
      have e2 : ((ab_row D).eraseIdx k)[q]? = some b := by rw [List.getElem?_eq_getElem hq, e]
      rw [List.getElem?_eraseIdx] at e2
      have ek : (ab_row D)[k]? = some b := by
        have := hk.2
        rw [List.getD_eq_getElem?_getD, List.getElem?_eq_getElem hk.1] at this
        rw [List.getElem?_eq_getElem hk.1]
        exact congrArg some this
      have nd := hA.2.2.2.2.2.1
      by_cases h : q < k
      · rw [if_pos h] at e2
        have := (List.getElem?_inj (by omega) nd).mp (e2.trans ek.symm)
        omega
      · rw [if_neg h] at e2
        have := (List.getElem?_inj (by omega) nd).mp (e2.trans ek.symm)
        omega
    obtain ⟨T, g1, g2, g3⟩ := s15i (d := d + 1) f3 hb hnb
    refine ⟨T, (ab_row D).eraseIdx k, ?_, fr_tr f2 g2, g3⟩
    show mm_ex (d + 1) 15 6 _ [.int (nI k), .ref a] S = _
    rw [b15_6 (wd_k hw ha), f1, hp_bd, hp_tn, g1]
theorem c_10 (ok : gb_ok G) (hR : RC S G) : ∃ v, oC S (d + 4) 83 [.ref 0, .int x] (.int v) G := by
  have hw := hR.1
  have hk : gK G ≤ 6 := ok.1.1.1
  rcases kw_c hk x with ⟨e, h⟩ | ⟨b, hb, e, rfl⟩
  · have k := s8n (d := d + 3) ok hR e
    refine ⟨-1, oC_id hR ?_⟩
    rw [e83, b83_0 (wx_o0 hw) (wx_s0_0 hw) (by rw [wx_g0_0 hw]; exact wx_k6 hw), wx_g0_0 hw, k, hp_bd, hp_ts, b83_8, if_pos rfl, b83_11]
  have k := s8s (d := d + 3) ok hR hb
  obtain ⟨f1, f2, f3⟩ := t_copy (d := d + 2) (a := 24) ok hR (Or.inl rfl)
  obtain ⟨T1, l, g1, g2, g3⟩ := s15q (d := d + 2) f3 hb
  obtain ⟨T2, e2, g4, g5, g6, g7⟩ := s19w (d := d) g3 hb
  have w1 := f3.1
  have w2 := g3.1
  have w3 := g6.1.1
  have hc := (cw_k g6).1
  have sd := sdo (d := d) g6 (Nat.succ_pos _)
  have rk := by_k hc g6.2.2.1
  have q := QC_tr f2 (QC_fr ok f2.1 (Or.inl rfl) (fr_tr g2 g5))
  have cl : (nI b).toNatClampNeg = b := nI_clamp (by omega)
  have hbi : mm_inb (nI b) 6 = true := hp_inb (by omega) (by omega)
  have he : mm_R T2 25 b = some e2 := g7
  refine ⟨nI (ab_act (gP G) (gD_row (gD G) (b :: l)) b ((ab_row (gD_row (gD G) (b :: l))).length - 1)), oC_Q q ?_⟩
  rw [e83, b83_0 (wx_o0 hw) (wx_s0_0 hw) (by rw [wx_g0_0 hw]; exact wx_k6 hw), wx_g0_0 hw, k, hp_bd, hp_ts, b83_8, if_neg i01, b83_13 (wx_o0 hw) (wx_s0_2 hw) (wx_s0_0 hw) (by rw [wx_g0_2 hw]; exact wx_k24 hw), wx_g0_2 hw, wx_g0_0 hw, f1, hp_bd, hp_tn, b83_24 (wx_o0 w1) (wx_s0_2 w1) (by rw [wx_g0_2 w1]; exact wx_k24 w1), wx_g0_2 w1, g1, hp_bd, hp_tn, b83_32 (wx_o0 w2) (wx_s0_2 w2) (by rw [wx_g0_2 w2]; exact wx_k24 w2), wx_g0_2 w2, g4, hp_bd, hp_tn]
  have fin : ∀ v, mm_ex (d + 4) 83 56 [.ref 0, .int (nI b)] [.int v] T2 = some (some (.int v), T2) := fun v => by rw [b83_56]
  rcases k7c hc with hk | hk | hk | hk | hk | hk | hk <;> rw [hk] at sd rk
  · rw [b83_40_k0 (wx_o0 w3) (wx_s0_2 w3) (by rw [wx_g0_2 w3]; exact wx_o24 w3) (by rw [wx_g0_2 w3]; exact wx_s24_0 w3) (by rw [wx_g0_2 w3, wx_g24_0 w3, wx_N25 w3]; exact hbi) (by rw [wx_g0_2 w3, wx_g24_0 w3]; exact wx_a25 w3) (by rw [wx_g0_2 w3, wx_g24_0 w3, cl]; exact hp_rs he) (by rw [wx_g0_2 w3, wx_g24_0 w3, cl, hp_rg he]; exact rk), wx_g0_2 w3, wx_g24_0 w3, cl, hp_rg he, show mm_cl (d + 3) 2 [.ref e2, .ref 24] T2 = _ from sd, hp_bd, hp_ts, fin]
  · rw [b83_40_k4 (wx_o0 w3) (wx_s0_2 w3) (by rw [wx_g0_2 w3]; exact wx_o24 w3) (by rw [wx_g0_2 w3]; exact wx_s24_0 w3) (by rw [wx_g0_2 w3, wx_g24_0 w3, wx_N25 w3]; exact hbi) (by rw [wx_g0_2 w3, wx_g24_0 w3]; exact wx_a25 w3) (by rw [wx_g0_2 w3, wx_g24_0 w3, cl]; exact hp_rs he) (by rw [wx_g0_2 w3, wx_g24_0 w3, cl, hp_rg he]; exact rk), wx_g0_2 w3, wx_g24_0 w3, cl, hp_rg he, show mm_cl (d + 3) 32 [.ref e2, .ref 24] T2 = _ from sd, hp_bd, hp_ts, fin]
  · rw [b83_40_k10 (wx_o0 w3) (wx_s0_2 w3) (by rw [wx_g0_2 w3]; exact wx_o24 w3) (by rw [wx_g0_2 w3]; exact wx_s24_0 w3) (by rw [wx_g0_2 w3, wx_g24_0 w3, wx_N25 w3]; exact hbi) (by rw [wx_g0_2 w3, wx_g24_0 w3]; exact wx_a25 w3) (by rw [wx_g0_2 w3, wx_g24_0 w3, cl]; exact hp_rs he) (by rw [wx_g0_2 w3, wx_g24_0 w3, cl, hp_rg he]; exact rk), wx_g0_2 w3, wx_g24_0 w3, cl, hp_rg he, show mm_cl (d + 3) 70 [.ref e2, .ref 24] T2 = _ from sd, hp_bd, hp_ts, fin]
  · rw [b83_40_k2 (wx_o0 w3) (wx_s0_2 w3) (by rw [wx_g0_2 w3]; exact wx_o24 w3) (by rw [wx_g0_2 w3]; exact wx_s24_0 w3) (by rw [wx_g0_2 w3, wx_g24_0 w3, wx_N25 w3]; exact hbi) (by rw [wx_g0_2 w3, wx_g24_0 w3]; exact wx_a25 w3) (by rw [wx_g0_2 w3, wx_g24_0 w3, cl]; exact hp_rs he) (by rw [wx_g0_2 w3, wx_g24_0 w3, cl, hp_rg he]; exact rk), wx_g0_2 w3, wx_g24_0 w3, cl, hp_rg he, show mm_cl (d + 3) 26 [.ref e2, .ref 24] T2 = _ from sd, hp_bd, hp_ts, fin]
  · rw [b83_40_k7 (wx_o0 w3) (wx_s0_2 w3) (by rw [wx_g0_2 w3]; exact wx_o24 w3) (by rw [wx_g0_2 w3]; exact wx_s24_0 w3) (by rw [wx_g0_2 w3, wx_g24_0 w3, wx_N25 w3]; exact hbi) (by rw [wx_g0_2 w3, wx_g24_0 w3]; exact wx_a25 w3) (by rw [wx_g0_2 w3, wx_g24_0 w3, cl]; exact hp_rs he) (by rw [wx_g0_2 w3, wx_g24_0 w3, cl, hp_rg he]; exact rk), wx_g0_2 w3, wx_g24_0 w3, cl, hp_rg he, show mm_cl (d + 3) 56 [.ref e2, .ref 24] T2 = _ from sd, hp_bd, hp_ts, fin]
  · rw [b83_40_k3 (wx_o0 w3) (wx_s0_2 w3) (by rw [wx_g0_2 w3]; exact wx_o24 w3) (by rw [wx_g0_2 w3]; exact wx_s24_0 w3) (by rw [wx_g0_2 w3, wx_g24_0 w3, wx_N25 w3]; exact hbi) (by rw [wx_g0_2 w3, wx_g24_0 w3]; exact wx_a25 w3) (by rw [wx_g0_2 w3, wx_g24_0 w3, cl]; exact hp_rs he) (by rw [wx_g0_2 w3, wx_g24_0 w3, cl, hp_rg he]; exact rk), wx_g0_2 w3, wx_g24_0 w3, cl, hp_rg he, show mm_cl (d + 3) 29 [.ref e2, .ref 24] T2 = _ from sd, hp_bd, hp_ts, fin]
  · rw [b83_40_k9 (wx_o0 w3) (wx_s0_2 w3) (by rw [wx_g0_2 w3]; exact wx_o24 w3) (by rw [wx_g0_2 w3]; exact wx_s24_0 w3) (by rw [wx_g0_2 w3, wx_g24_0 w3, wx_N25 w3]; exact hbi) (by rw [wx_g0_2 w3, wx_g24_0 w3]; exact wx_a25 w3) (by rw [wx_g0_2 w3, wx_g24_0 w3, cl]; exact hp_rs he) (by rw [wx_g0_2 w3, wx_g24_0 w3, cl, hp_rg he]; exact rk), wx_g0_2 w3, wx_g24_0 w3, cl, hp_rg he, show mm_cl (d + 3) 66 [.ref e2, .ref 24] T2 = _ from sd, hp_bd, hp_ts, fin]
end Q3
end
section
/-! ===== rows in turn, in the class: order, lot ===== -/
def np_s (f : Nat → Nat) (i j : Nat) : Nat → Nat := fun k => if k = j then f i else if k = i then f j else f k
def np_t (f : Nat → Nat) : Nat → Option Nat
  | 0 => none
  | k + 1 => if f (k + 1) < f k then np_t f k else some k
def np_l (f : Nat → Nat) (t : Nat) : Nat → Nat
  | 0 => 0
  | l + 1 => if l + 1 ≤ t then l + 1 else if f t ≤ f (l + 1) then l + 1 else np_l f t l
def np_r : Nat → Nat → Nat → (Nat → Nat) → (Nat → Nat)
  | 0, _, _, f => f
  | k + 1, l, r, f => if r ≤ l then f else np_r k (l + 1) (r - 1) (np_s f l r)
def np_n (f : Nat → Nat) (n : Nat) : Option (Nat → Nat) := match np_t f (n - 1) with
  | none => none
  | some t => some (np_r n (t + 1) (n - 1) (np_s f t (np_l f t (n - 1))))
/-- from f on, so many at most -/
def np_a (n : Nat) : Nat → (Nat → Nat) → List (Nat → Nat)
  | 0, _ => []
  | k + 1, f => f :: (match np_n f n with
    | none => []
    | some g => np_a n k g)
def np_f (f : Nat → Nat) (n : Nat) : List Nat := (List.range n).map f
def np_0 (kn : Nat) (r : List Nat) : List Nat := (List.range kn).filter (fun b => decide (b ∈ r))
def np_ok (r : List Nat) (f : Nat → Nat) : Prop := (∀ p q, p < r.length → q < r.length → f p = f q → p = q) ∧ ∀ p, p < r.length → f p ∈ r
def ab_ov (P : ab_P) (D : ab_D) (w : Nat) (f : Nat → Nat) : Int32 := if w = 0 then ab_ti (ab_fin P (gD_row D (np_f f (ab_row D).length))) else ab_all (ab_kn P) (ab_ga (ab_fin P (gD_row D (np_f f (ab_row D).length))))
def ab_oo (P : ab_P) (D : ab_D) (w : Nat) (s : Option (Int32 × (Nat → Nat))) (f : Nat → Nat) : Option (Int32 × (Nat → Nat)) := match s with
  | none => some (ab_ov P D w f, f)
  | some q => if q.1 < ab_ov P D w f then some (ab_ov P D w f, f) else some q
def ab_os (G : gb_G) : List (Nat → Nat) := np_a (ab_row (gD G)).length 120 (fun i => (np_0 (gK G) (ab_row (gD G))).getD i 0)
def an_14 (G : gb_G) (x k : Int32) : Int32 := if ¬ (x = nI 0 ∨ x = nI 1) ∨ k < -1 ∨ nI (ab_row (gD G)).length ≤ k then -100001 else if 5 < (ab_row (gD G)).length then -9 else match (ab_os G).foldl (ab_oo (gP G) (gD G) (if x = nI 0 then 0 else 1)) none with
  | none => nI 0
  | some q => if k < nI 0 then q.1 else nI (q.2 k.toNatClampNeg)
section NP
variable {S T U : mm_S} {G : gb_G} {P : ab_P} {D E : ab_D} {a b c d n k i j p t l : Nat} {x w y : Int32} {r : List Nat} {f g : Nat → Nat}
theorem np_nd (h : np_ok r f) : (np_f f r.length).Nodup := by
  unfold np_f List.Nodup
  rw [List.pairwise_map]
  refine List.Pairwise.imp_of_mem ?_ (List.nodup_range (n := r.length))
  intro a b ha hb hab e
  exact hab (h.1 a b (List.mem_range.mp ha) (List.mem_range.mp hb) e)
theorem np_me (h : np_ok r f) : ∀ b ∈ np_f f r.length, b ∈ r := by
  intro b hb
  unfold np_f at hb
  obtain ⟨p, hp, rfl⟩ := List.mem_map.mp hb
  exact h.2 p (List.mem_range.mp hp)
theorem np_gl : (np_f f n).length = n := by unfold np_f; rw [List.length_map, List.length_range]
theorem np_ge (hp : p < n) : (np_f f n).getD p 0 = f p := by
  unfold np_f
  rw [List.getD_eq_getElem?_getD, List.getElem?_map, List.getElem?_range hp]
  rfl
theorem np_sk (h : np_ok r f) (hi : i < r.length) (hj : j < r.length) : np_ok r (np_s f i j) := by
  refine ⟨fun p q hp hq e => ?_, fun p hp => ?_⟩
  · unfold np_s at e
    have i1 := h.1
    by_cases h1 : p = j <;> by_cases h2 : q = j
    · omega
    · rw [if_pos h1, if_neg h2] at e
      by_cases h3 : q = i
      · rw [if_pos h3] at e
        have := i1 _ _ hi hj e
        omega
      · rw [if_neg h3] at e
        have := i1 _ _ hi hq e
        omega
    · rw [if_neg h1, if_pos h2] at e
      by_cases h3 : p = i
      · rw [if_pos h3] at e
        have := i1 _ _ hj hi e
        omega
      · rw [if_neg h3] at e
        have := i1 _ _ hp hi e
        omega
    · rw [if_neg h1, if_neg h2] at e
      by_cases h3 : p = i <;> by_cases h4 : q = i
      · omega
      · rw [if_pos h3, if_neg h4] at e
        have := i1 _ _ hj hq e
        omega
      · rw [if_neg h3, if_pos h4] at e
        have := i1 _ _ hp hj e
        omega
      · rw [if_neg h3, if_neg h4] at e
        exact i1 _ _ hp hq e
  · unfold np_s
    split
    · exact h.2 i hi
    · split
      · exact h.2 j hj
      · exact h.2 p hp
theorem np_tl : ∀ {k t}, np_t f k = some t → t < k := by
  intro k
  induction k with
  | zero => intro t e; cases e
  | succ k ih =>
    intro t e
    unfold np_t at e
    split at e
    · have := ih e; omega
    · cases e; omega
theorem np_ll : ∀ {l}, np_l f t l ≤ l := by
  intro l
  induction l with
  | zero => exact Nat.le_refl _
  | succ l ih =>
    unfold np_l
    split
    · omega
    · split
      · omega
      · omega
theorem np_rk : ∀ {k l q : Nat} {f : Nat → Nat}, np_ok r f → q < r.length → np_ok r (np_r k l q f) := by
  intro k
  induction k with
  | zero => intro l q f h _; exact h
  | succ k ih =>
    intro l q f h hq
    unfold np_r
    split
    · exact h
    · exact ih (np_sk h (by omega) hq) (by omega)
theorem np_nk (h : np_ok r f) (e : np_n f r.length = some g) : np_ok r g := by
  unfold np_n at e
  split at e
  · cases e
  · rename_i t ht
    have h1 := np_tl ht
    have h2 := @np_ll t f (r.length - 1)
    cases e
    exact np_rk (np_sk h (by omega) (by omega)) (by omega)
/-- the row of numbers in the cell c -/
def np_c (S : mm_S) (c n : Nat) (f : Nat → Nat) : Prop := ∀ p, p < n → mm_M S c p = nI (f p)
theorem np_6 (ok : gb_ok G) (h : np_ok (ab_row (gD G)) f) (hp : p < (ab_row (gD G)).length) : f p < 6 := Nat.lt_of_lt_of_le (ok.1.2.1.2.1 _ (h.2 p hp)) ok.1.1.1
theorem s123q (hw : mm_W S) (hc : np_c S 89 n f) (hn : n ≤ 6) (hi : i < n) (hj : j < n) : ∃ T, mm_cl d 123 [.ref 0, .int (nI i), .int (nI j)] S = some (none, T) ∧ np_c T 89 n (np_s f i j) ∧ sf_f (fun c _ => c = 89) S T ∧ mm_W T ∧ mm_n T = mm_n S ∧ mm_z T = mm_z S := by
  have ci : (nI i).toNatClampNeg = i := nI_clamp (by omega)
  have cj : (nI j).toNatClampNeg = j := nI_clamp (by omega)
  refine ⟨mm_uM (mm_uM S 89 i (nI (f j))) 89 j (nI (f i)), ?_, fun p hp => ?_, sf_tr (sf_uM rfl) (sf_uM rfl), hw, rfl, rfl⟩
  · rw [e123, b123_0 (wx_o0 hw) (wx_s0_8 hw) (by rw [wx_g0_8 hw, wx_N89 hw]; exact hp_inb (by omega) (by omega)) (by rw [wx_g0_8 hw]; exact wx_a89 hw) (by rw [wx_g0_8 hw, wx_N89 hw]; exact hp_inb (by omega) (by omega)), wx_g0_8 hw, ci, cj, hc i hi, hc j hj]
  · rw [rdk, rdk]
    unfold np_s
    by_cases h1 : p = j
    · rw [if_pos h1, if_pos h1]
    · rw [if_neg h1, if_neg h1]
      by_cases h2 : p = i
      · rw [if_pos h2, if_pos h2]
      · rw [if_neg h2, if_neg h2]; exact hc p hp
theorem l122t (hw : mm_W S) (hc : np_c S 89 n f) (hn : n ≤ 6) (h6 : ∀ p, p < n → f p < 6) {v2 v3 v4 : Value} (q2 : v2 = .null) (q3 : v3 = .null) (q4 : v4 = .null) : ∀ k, k + 1 < n → mm_ex d 122 10 [.ref 0, .int (nI k), v2, v3, v4] [] S = match np_t f (k + 1) with
    | none => mm_ex d 122 37 [.ref 0, .int (-1), v2, v3, v4] [] S
    | some t => mm_ex d 122 37 [.ref 0, .int (nI t), v2, v3, v4] [] S := by
  subst q2 q3 q4
  intro k
  induction k with
  | zero =>
    intro hk
    rw [b122_10, if_neg (by decide), b122_14 (wx_o0 hw) (wx_s0_8 hw) (by rw [wx_g0_8 hw, wx_N89 hw]; decide) (by rw [wx_g0_8 hw]; exact wx_a89 hw) (by rw [nI_add, wx_g0_8 hw, wx_N89 hw]; decide), wx_g0_8 hw, nI_add, nI_clamp (by decide), nI_clamp (by decide), hc 0 (by omega), hc (0 + 1) hk]
    have e : np_t f (0 + 1) = if f (0 + 1) < f 0 then none else some 0 := rfl
    have a0 := h6 0 (by omega)
    have a1 := h6 (0 + 1) hk
    rw [e]
    by_cases h : f (0 + 1) < f 0
    · rw [if_neg (nI_ge h (by omega)), if_pos h, b122_31, b122_10, show nI 0 + (-1) = (-1 : Int32) from rfl, if_pos (by decide)]
    · rw [if_pos (nI_le (by omega) (by omega)), if_neg h]
  | succ k ih =>
    intro hk
    rw [b122_10, if_neg (nI_n0 (by omega)), b122_14 (wx_o0 hw) (wx_s0_8 hw) (by rw [wx_g0_8 hw, wx_N89 hw]; exact hp_inb (by omega) (by omega)) (by rw [wx_g0_8 hw]; exact wx_a89 hw) (by rw [nI_add, wx_g0_8 hw, wx_N89 hw]; exact hp_inb (by omega) (by omega)), wx_g0_8 hw, nI_add, nI_clamp (by omega), nI_clamp (by omega), hc (k + 1) (by omega), hc (k + 1 + 1) hk]
    have e : np_t f (k + 1 + 1) = if f (k + 1 + 1) < f (k + 1) then np_t f (k + 1) else some (k + 1) := rfl
    have a0 := h6 (k + 1) (by omega)
    have a1 := h6 (k + 1 + 1) hk
    rw [e]
    by_cases h : f (k + 1 + 1) < f (k + 1)
    · rw [if_neg (nI_ge h (by omega)), if_pos h, b122_31, show nI (k + 1) + (-1) = nI k from pk_m1 _]
      exact ih (by omega)
    · rw [if_pos (nI_le (by omega) (by omega)), if_neg h]
theorem l122l (hw : mm_W S) (hc : np_c S 89 n f) (hn : n ≤ 6) (h6 : ∀ p, p < n → f p < 6) (ht : t < n) : ∀ l, l < n → mm_ex d 122 53 [.ref 0, .int (nI t), .int (nI l), .null, .null] [] S = mm_ex d 122 79 [.ref 0, .int (nI t), .int (nI (np_l f t l)), .null, .null] [] S := by
  intro l
  induction l with
  | zero => intro _; rw [b122_53, if_pos (nI_le (Nat.zero_le _) (by omega))]; rfl
  | succ l ih =>
    intro hl
    have e : np_l f t (l + 1) = if l + 1 ≤ t then l + 1 else if f t ≤ f (l + 1) then l + 1 else np_l f t l := rfl
    have a0 := h6 t ht
    have a1 := h6 (l + 1) hl
    rw [e, b122_53]
    by_cases h1 : l + 1 ≤ t
    · rw [if_pos (nI_le h1 (by omega)), if_pos h1]
    · rw [if_neg (nI_ge (by omega) (by omega)), if_neg h1, b122_58 (wx_o0 hw) (wx_s0_8 hw) (by rw [wx_g0_8 hw, wx_N89 hw]; exact hp_inb (by omega) (by omega)) (by rw [wx_g0_8 hw]; exact wx_a89 hw) (by rw [wx_g0_8 hw, wx_N89 hw]; exact hp_inb (by omega) (by omega)), wx_g0_8 hw, nI_clamp (by omega), nI_clamp (by omega), hc t ht, hc (l + 1) hl]
      by_cases h2 : f t ≤ f (l + 1)
      · rw [if_pos (nI_le h2 (by omega)), if_pos h2]
      · rw [if_neg (nI_ge (by omega) (by omega)), if_neg h2, b122_73, show nI (l + 1) + (-1) = nI l from pk_m1 _]
        exact ih (by omega)
theorem l122r {x1 x2 : Int32} (hn : n ≤ 6) : ∀ (k l q : Nat) (S : mm_S) (f : Nat → Nat), mm_W S → np_c S 89 n f → q < n → q ≤ l + k → l ≤ q + 1 → ∃ T, mm_ex (d + 1) 122 100 [.ref 0, .int x1, .int x2, .int (nI l), .int (nI q)] [] S = some (some (.int (nI 1)), T) ∧ np_c T 89 n (np_r k l q f) ∧ sf_f (fun c _ => c = 89) S T ∧ mm_W T ∧ mm_n T = mm_n S ∧ mm_z T = mm_z S := by
  intro k
  induction k with
  | zero =>
    intro l q S f hw hc hq hk hl
    refine ⟨S, ?_, hc, sf_rf, hw, rfl, rfl⟩
    rw [b122_100, if_pos (nI_le (by omega) (by omega)), b122_122]
  | succ k ih =>
    intro l q S f hw hc hq hk hl
    have e : np_r (k + 1) l q f = if q ≤ l then f else np_r k (l + 1) (q - 1) (np_s f l q) := rfl
    rw [e]
    by_cases h : q ≤ l
    · rw [if_pos h]
      refine ⟨S, ?_, hc, sf_rf, hw, rfl, rfl⟩
      rw [b122_100, if_pos (nI_le h (by omega)), b122_122]
    · rw [if_neg h]
      obtain ⟨T1, g1, g2, g3, g4, g5, g6⟩ := s123q (d := d) hw hc hn (i := l) (j := q) (by omega) hq
      obtain ⟨T2, f1, f2, f3, f4, f5, f6⟩ := ih (l + 1) (q - 1) T1 _ g4 g2 (by omega) (by omega) (by omega)
      refine ⟨T2, ?_, f2, sf_tr g3 f3, f4, f5.trans g5, f6.trans g6⟩
      have m1 : nI q + (-1) = nI (q - 1) := by
        have : q = (q - 1) + 1 := by omega
        conv => lhs; rw [this]
        exact pk_m1 _
      rw [b122_100, if_neg (nI_ge (by omega) (by omega)), b122_106 (wx_k0 hw), g1, hp_bd, hp_tn, b122_113, nI_add, m1, f1]
theorem s122q (ok : gb_ok G) (hR : RC S G) (hf : np_ok (ab_row (gD G)) f) (hc : np_c S 89 (ab_row (gD G)).length f) : ∃ T, QC S T G ∧ (match np_n f (ab_row (gD G)).length with
    | none => mm_cl (d + 1) 122 [.ref 0] S = some (some (.int (nI 0)), T) ∧ np_c T 89 (ab_row (gD G)).length f
    | some g => mm_cl (d + 1) 122 [.ref 0] S = some (some (.int (nI 1)), T) ∧ np_c T 89 (ab_row (gD G)).length g) ∧ sf_f (fun c _ => c = 89) S T := by
  have hw := hR.1
  have hl6 : (ab_row (gD G)).length ≤ 6 := row_le ok.1.1 ok.1.2.1
  have h11 : mm_M S 6 11 = nI (ab_row (gD G)).length := hR.2.1.2.1.1
  have h6 : ∀ p, p < (ab_row (gD G)).length → f p < 6 := fun p hp => np_6 ok hf hp
  have st : mm_cl (d + 1) 122 [.ref 0] S = mm_ex (d + 1) 122 10 [.ref 0, .int (nI (ab_row (gD G)).length - nI 2), .null, .null, .null] [] S := by
    rw [e122, b122_0 (wx_o0 hw) (wx_s0_0 hw) (by rw [wx_g0_0 hw]; exact wx_o6 hw), wx_g0_0 hw, h11]
  by_cases h2 : (ab_row (gD G)).length < 2
  · have en : np_n f (ab_row (gD G)).length = none := by
      unfold np_n
      have e0 : (ab_row (gD G)).length - 1 = 0 := by omega
      rw [e0]
      rfl
    rw [en]
    refine ⟨S, QC_rf hR, ⟨?_, hc⟩, sf_rf⟩
    have hneg : nI (ab_row (gD G)).length - nI 2 < nI 0 := by
      rcases (by omega : (ab_row (gD G)).length = 0 ∨ (ab_row (gD G)).length = 1) with e | e <;> rw [e] <;> decide
    rw [st, b122_10, if_pos hneg, b122_37, if_neg (Int32.not_le.mpr hneg), b122_41]
  have l1 := l122t (d := d + 1) hw hc hl6 h6 (v2 := .null) (v3 := .null) (v4 := .null) rfl rfl rfl ((ab_row (gD G)).length - 2) (by omega)
  have e2 : (ab_row (gD G)).length - 2 + 1 = (ab_row (gD G)).length - 1 := by omega
  rw [e2] at l1
  rw [pk_sub (by omega)] at st
  unfold np_n
  cases ht : np_t f ((ab_row (gD G)).length - 1) with
  | none =>
    rw [ht] at l1
    refine ⟨S, QC_rf hR, ⟨?_, hc⟩, sf_rf⟩
    rw [st, l1]
    show mm_ex (d + 1) 122 37 _ [] S = _
    rw [b122_37, if_neg (by decide), b122_41]
  | some t =>
    rw [ht] at l1
    have h1 := np_tl ht
    have hll := @np_ll t f ((ab_row (gD G)).length - 1)
    have l2 := l122l (d := d + 1) hw hc hl6 h6 (t := t) (by omega) ((ab_row (gD G)).length - 1) (by omega)
    obtain ⟨T1, g1, g2, g3, g4, g5, g6⟩ := s123q (d := d) hw hc hl6 (i := t) (j := np_l f t ((ab_row (gD G)).length - 1)) (by omega) (by omega)
    obtain ⟨T2, f1, f2, f3, f4, f5, f6⟩ := l122r (d := d) (x1 := nI t) (x2 := nI (np_l f t ((ab_row (gD G)).length - 1))) hl6 (ab_row (gD G)).length (t + 1) ((ab_row (gD G)).length - 1) T1 _ g4 g2 (by omega) (by omega) (by omega)
    have f := sf_tr g3 f3
    refine ⟨T2, QC_f ok hR (sf_mo f (fun c j (h : c = 89) => by unfold gc_F; omega)) f4 (f5.trans g5) (f6.trans g6), ⟨?_, f2⟩, f⟩
    have h11T : mm_M T1 6 11 = nI (ab_row (gD G)).length := (g3.1 6 11 (fun (e : 6 = 89) => by omega)).1.trans h11
    rw [st, l1]
    show mm_ex (d + 1) 122 37 _ [] S = _
    rw [b122_37, if_pos (nI_le (Nat.zero_le _) (by omega)), b122_43 (wx_o0 hw) (wx_s0_0 hw) (by rw [wx_g0_0 hw]; exact wx_o6 hw), wx_g0_0 hw, h11, pk_sub (by omega), l2, b122_79 (wx_k0 hw), g1, hp_bd, hp_tn, b122_85 (wx_o0 g4) (wx_s0_0 g4) (by rw [wx_g0_0 g4]; exact wx_o6 g4), wx_g0_0 g4, h11T, nI_add, pk_sub (by omega), f1]
-- the first of all rows
theorem n0_s {kn : Nat} : np_0 (kn + 1) r = np_0 kn r ++ (if kn ∈ r then [kn] else []) := by
  unfold np_0
  rw [List.range_succ, List.filter_append]
  by_cases h : kn ∈ r
  · rw [if_pos h, List.filter_cons_of_pos (by simpa using h)]; rfl
  · rw [if_neg h, List.filter_cons_of_neg (by simpa using h)]; rfl
theorem n0_nd {kn : Nat} : (np_0 kn r).Nodup := (List.nodup_range (n := kn)).sublist List.filter_sublist
theorem n0_me {kn b : Nat} : b ∈ np_0 kn r ↔ b < kn ∧ b ∈ r := by
  unfold np_0
  rw [List.mem_filter, List.mem_range]
  simp
theorem n0_len {kn : Nat} (hn : r.Nodup) (hm : ∀ b ∈ r, b < kn) : (np_0 kn r).length = r.length := by
  refine List.Perm.length_eq ((List.perm_ext_iff_of_nodup n0_nd hn).mpr (fun b => ?_))
  rw [n0_me]
  exact ⟨fun h => h.2, fun h => ⟨hm b h, h⟩⟩
theorem n0_ok {kn : Nat} (hn : r.Nodup) (hm : ∀ b ∈ r, b < kn) : np_ok r (fun i => (np_0 kn r).getD i 0) := by
  have hl := n0_len hn hm
  refine ⟨fun p q hp hq e => ?_, fun p hp => ?_⟩
  · have e : (np_0 kn r).getD p 0 = (np_0 kn r).getD q 0 := e
    rw [List.getD_eq_getElem?_getD, List.getD_eq_getElem?_getD, List.getElem?_eq_getElem (by omega), List.getElem?_eq_getElem (by omega)] at e
    exact (List.getElem_inj n0_nd).mp e
  · show (np_0 kn r).getD p 0 ∈ r
    rw [List.getD_eq_getElem?_getD, List.getElem?_eq_getElem (by omega)]
    exact (n0_me.mp (List.getElem_mem (l := np_0 kn r) (by omega))).2
theorem s120_loop (ok : gb_ok G) : ∀ (k b : Nat) (S : mm_S), RC S G → b + k = gK G → (∀ i, i < (np_0 b (ab_row (gD G))).length → mm_M S 89 i = nI ((np_0 b (ab_row (gD G))).getD i 0)) → ∃ T, mm_ex (d + 1) 120 4 [.ref 0, .int (nI (np_0 b (ab_row (gD G))).length), .int (nI b)] [] S = some (none, T) ∧ QC S T G ∧ (∀ i, i < (np_0 (gK G) (ab_row (gD G))).length → mm_M T 89 i = nI ((np_0 (gK G) (ab_row (gD G))).getD i 0)) ∧ sf_f (fun c _ => c = 89) S T := by
  have hk6 : gK G ≤ 6 := ok.1.1.1
  have hl6 : (ab_row (gD G)).length ≤ 6 := row_le ok.1.1 ok.1.2.1
  intro k
  induction k with
  | zero =>
    intro b S hR hb hv
    have hw := hR.1
    have h10 : mm_M S 6 10 = nI (gK G) := hR.2.1.1.1
    have e : b = gK G := by omega
    subst e
    refine ⟨S, ?_, QC_rf hR, hv, sf_rf⟩
    rw [b120_4 (wx_o0 hw) (wx_s0_0 hw) (by rw [wx_g0_0 hw]; exact wx_o6 hw), wx_g0_0 hw, h10, if_pos (nI_le (Nat.le_refl _) (by omega)), b120_42]
  | succ k ih =>
    intro b S hR hb hv
    have hw := hR.1
    have hA := RC_A ok hR
    have h10 : mm_M S 6 10 = nI (gK G) := hR.2.1.1.1
    have hbk : b < gK G := by omega
    have k12 := s12b (d := d) hA hbk
    have f2 : ∀ k, ab_at b (ab_row (gD G)) = some k → k < 2 ^ 31 := fun k h => by have := at_lt hl6 h; omega
    have hlen : (np_0 b (ab_row (gD G))).length ≤ 6 := by
      have := List.length_filter_le (fun c => decide (c ∈ ab_row (gD G))) (List.range b)
      rw [List.length_range] at this
      unfold np_0
      omega
    have st : mm_ex (d + 1) 120 4 [.ref 0, .int (nI (np_0 b (ab_row (gD G))).length), .int (nI b)] [] S = if cd_fo (ab_at b (ab_row (gD G))) < nI 0 then mm_ex (d + 1) 120 36 [.ref 0, .int (nI (np_0 b (ab_row (gD G))).length), .int (nI b)] [] S else mm_ex (d + 1) 120 26 [.ref 0, .int (nI (np_0 b (ab_row (gD G))).length), .int (nI b)] [] S := by
      rw [b120_4 (wx_o0 hw) (wx_s0_0 hw) (by rw [wx_g0_0 hw]; exact wx_o6 hw), wx_g0_0 hw, h10, if_neg (nI_ge hbk (by omega)), b120_15 (wx_o0 hw) (wx_s0_0 hw) (by rw [wx_g0_0 hw]; exact wx_k6 hw), wx_g0_0 hw, k12, hp_bd, hp_ts, b120_23]
    by_cases hm : b ∈ ab_row (gD G)
    · have hn : ¬ (cd_fo (ab_at b (ab_row (gD G))) < nI 0) := by rw [fo_neg f2, at_none]; exact fun h => h hm
      have es : np_0 (b + 1) (ab_row (gD G)) = np_0 b (ab_row (gD G)) ++ [b] := by rw [n0_s, if_pos hm]
      have hl5 : (np_0 b (ab_row (gD G))).length < 6 := by
        have := List.length_filter_le (fun c => decide (c ∈ ab_row (gD G))) (List.range b)
        rw [List.length_range] at this
        unfold np_0
        omega
      have q1 : QC S (mm_uM S 89 (np_0 b (ab_row (gD G))).length (nI b)) G := gF_w (by unfold gc_F; omega) hR ok
      obtain ⟨T, g1, g2, g3, g4⟩ := ih (b + 1) _ q1.1 (by omega) (fun i hi => by
        rw [es] at hi ⊢
        rw [len1] at hi
        rw [rdk]
        by_cases h : i = (np_0 b (ab_row (gD G))).length
        · rw [if_pos h, h, List.getD_eq_getElem?_getD, List.getElem?_append_right (Nat.le_refl _), Nat.sub_self]; rfl
        · rw [if_neg h, List.getD_eq_getElem?_getD, List.getElem?_append_left (by omega), ← List.getD_eq_getElem?_getD]
          exact hv i (by omega))
      rw [es, len1] at g1
      refine ⟨T, ?_, QC_tr q1 g2, g3, sf_tr (sf_uM rfl) g4⟩
      rw [st, if_neg hn, b120_26 (wx_o0 hw) (wx_s0_8 hw) (by rw [wx_g0_8 hw]; exact wx_a89 hw) (by rw [wx_g0_8 hw, wx_N89 hw]; exact hp_inb hl5 (by omega)), wx_g0_8 hw, nI_clamp (by omega), nI_add, nI_add, g1]
    · have hn : cd_fo (ab_at b (ab_row (gD G))) < nI 0 := by rw [fo_neg f2, at_none]; exact hm
      have es : np_0 (b + 1) (ab_row (gD G)) = np_0 b (ab_row (gD G)) := by rw [n0_s, if_neg hm, List.append_nil]
      obtain ⟨T, g1, g2, g3, g4⟩ := ih (b + 1) S hR (by omega) (by rw [es]; exact hv)
      rw [es] at g1
      refine ⟨T, ?_, g2, g3, g4⟩
      rw [st, if_pos hn, b120_36, nI_add, g1]
theorem s120q (ok : gb_ok G) (hR : RC S G) : ∃ T, mm_cl (d + 1) 120 [.ref 0] S = some (none, T) ∧ QC S T G ∧ np_c T 89 (ab_row (gD G)).length (fun i => (np_0 (gK G) (ab_row (gD G))).getD i 0) := by
  obtain ⟨T, g1, g2, g3, -⟩ := s120_loop (d := d) ok (gK G) 0 S hR (Nat.zero_add _) (fun i hi => absurd hi (Nat.not_lt_zero i))
  refine ⟨T, ?_, g2, fun p hp => g3 p ?_⟩
  · rw [e120, b120_0]; exact g1
  · have e := n0_len (kn := gK G) (r := ab_row (gD G)) ok.1.2.1.1 ok.1.2.1.2.1
    omega
theorem s121q (ok : gb_ok G) (hR : RC S G) (hf : np_ok (ab_row (gD G)) f) (hc : np_c S 89 (ab_row (gD G)).length f) : ∃ T, mm_cl (d + 2) 121 [.ref 0] S = some (none, T) ∧ QC S T G ∧ cd_A T 24 (gP G) (gD_row (gD G) (np_f f (ab_row (gD G)).length)) ∧ sf_f (fun c _ => 24 ≤ c ∧ c ≤ 32) S T := by
  have hw := hR.1
  have hl6 : (ab_row (gD G)).length ≤ 6 := row_le ok.1.1 ok.1.2.1
  obtain ⟨g1, g2, g3⟩ := t_copy (d := d) (a := 24) ok hR (Or.inl rfl)
  have w1 := g3.1
  have h11 : mm_M (mm_cD S 24 6) 6 11 = nI (ab_row (gD G)).length := g2.1.2.1.2.1.1
  have h89 : ∀ j, mm_M (mm_cD S 24 6) 89 j = mm_M S 89 j := fun j => (cD_sf.1 89 j (by unfold gc_dy; omega)).1
  have cn : (nI (ab_row (gD G)).length).toNatClampNeg = (ab_row (gD G)).length := nI_clamp (by omega)
  have c0 : (nI 0).toNatClampNeg = 0 := nI_clamp (by decide)
  have fV : sf_f (fun c j => c = 24 + 6) (mm_cD S 24 6) (mm_cpM (mm_cD S 24 6) 89 30 0 0 (ab_row (gD G)).length) := by
    refine ⟨fun c j h => ⟨?_, rfl, rfl⟩, fun _ _ => ⟨rfl, rfl⟩, Nat.le_refl _⟩
    rw [hp_McpM, if_neg (fun e => h e.1)]
  have AV : cd_A (mm_cpM (mm_cD S 24 6) 89 30 0 0 (ab_row (gD G)).length) 24 (gP G) (gD_row (gD G) (np_f f (ab_row (gD G)).length)) := by
    refine A_row (T := mm_cpM (mm_cD S 24 6) 89 30 0 0 (ab_row (gD G)).length) g3 w1 fV (fun c j h => h) (np_nd hf) (fun b hb => ok.1.2.1.2.1 b (np_me hf b hb)) np_gl (fun q hq => ?_)
    rw [np_gl] at hq
    rw [np_ge hq]
    show mm_M (mm_cpM (mm_cD S 24 6) 89 30 0 0 (ab_row (gD G)).length) 30 q = _
    rw [hp_McpM, if_pos ⟨rfl, Nat.zero_le _, by omega⟩, Nat.sub_zero, Nat.zero_add, h89]
    exact hc q hq
  refine ⟨mm_cpM (mm_cD S 24 6) 89 30 0 0 (ab_row (gD G)).length, ?_, QC_tr g2 (QC_f ok g2.1 (sf_mo fV (fun c j (h : c = 24 + 6) => by unfold gc_F; omega)) w1 rfl rfl), AV, sf_tr (sf_mo cD_sf (fun c j h => by unfold gc_dy at h; omega)) (sf_mo fV (fun c j (h : c = 24 + 6) => by omega))⟩
  rw [e121, b121_0 (wx_o0 hw) (wx_s0_2 hw) (wx_s0_0 hw) (by rw [wx_g0_2 hw]; exact wx_k24 hw), wx_g0_2 hw, wx_g0_0 hw, g1, hp_bd, hp_tn, b121_11 (wx_o0 w1) (wx_s0_8 w1) (wx_s0_2 w1) (by rw [wx_g0_2 w1]; exact wx_o24 w1) (by rw [wx_g0_2 w1]; exact wx_s24_5 w1) (wx_s0_0 w1) (by rw [wx_g0_0 w1]; exact wx_o6 w1) (by rw [wx_g0_8 w1]; exact wx_a89 w1) (by rw [wx_g0_2 w1, wx_g24_5 w1]; exact wx_a30 w1) (by rw [wx_g0_0 w1, h11, wx_g0_8 w1, wx_g0_2 w1, wx_g24_5 w1, wx_N89 w1, wx_N30 w1]; exact cp_ok (by decide) (by decide) (by omega) (by omega) (by omega)), wx_g0_8 w1, wx_g0_2 w1, wx_g24_5 w1, wx_g0_0 w1, h11, c0, cn]
end NP
end
section
/-! ===== order and lot, in the class ===== -/
def lt_l : Nat → Int64 → Int64 → Int64
  | 0, a, _ => a
  | k + 1, a, b => if lg_cmp b 0 ≤ nI 0 then a else lt_l k b (a - a / b * b)
def ab_lt (a b : Int64) (x : Int32) : Int64 := if nI 0 < lg_cmp (lt_l 100 a b) 0 then (if x = nI 0 then a / lt_l 100 a b else b / lt_l 100 a b) else -9223372036854775808
def ab_sm (P : ab_P) (D : ab_D) (s : Int64 × Int64) (f : Nat → Nat) : Int64 × Int64 := (s.1 + (ab_ti (ab_fin P (gD_row D (np_f f (ab_row D).length)))).toInt64, s.2 + 1)
def an_16 (G : gb_G) (x : Int32) : Int64 := if ¬ (x = nI 0 ∨ x = nI 1) ∨ 5 < (ab_row (gD G)).length then -9223372036854775808 else ab_lt ((ab_os G).foldl (ab_sm (gP G) (gD G)) (0, 0)).1 ((ab_os G).foldl (ab_sm (gP G) (gD G)) (0, 0)).2 x
section OL
variable {S T U : mm_S} {G : gb_G} {P : ab_P} {D E : ab_D} {a b c d n k i j p t l : Nat} {x w y z : Int32} {r : List Nat} {f g : Nat → Nat}
/-- what the best is so far, in cells -/
def ob_c (S : mm_S) (n : Nat) (s : Option (Int32 × (Nat → Nat))) (m : Int32) : Prop := match s with
  | none => m = nI 0
  | some q => m = q.1 ∧ np_c S 90 n q.2
theorem ob_tr (h : ∀ j, mm_M T 90 j = mm_M S 90 j) {s : Option (Int32 × (Nat → Nat))} {m : Int32} (hb : ob_c S n s m) : ob_c T n s m := by
  cases s with
  | none => exact hb
  | some q => exact ⟨hb.1, fun p hp => (h p).trans (hb.2 p hp)⟩
theorem np_tr (h : ∀ j, mm_M T c j = mm_M S c j) (hb : np_c S c n f) : np_c T c n f := fun p hp => (h p).trans (hb p hp)
/-- one row tried, and what it comes to -/
theorem s119v (ok : gb_ok G) (hR : RC S G) (hf : np_ok (ab_row (gD G)) f) (hc : np_c S 89 (ab_row (gD G)).length f) {x2 x3 x4 : Int32} {v5 : Value} (hx : x = nI 0 ∨ x = nI 1) : ∃ T, QC S T G ∧ np_c T 89 (ab_row (gD G)).length f ∧ (∀ j, mm_M T 90 j = mm_M S 90 j) ∧ mm_ex (d + 6) 119 22 [.ref 0, .int x, .int x2, .int x3, .int x4, v5] [] S = if x4 = nI 0 then mm_ex (d + 6) 119 67 [.ref 0, .int x, .int x2, .int x3, .int x4, .int (ab_ov (gP G) (gD G) (if x = nI 0 then 0 else 1) f)] [] T else mm_ex (d + 6) 119 61 [.ref 0, .int x, .int x2, .int x3, .int x4, .int (ab_ov (gP G) (gD G) (if x = nI 0 then 0 else 1) f)] [] T := by
  have hw := hR.1
  obtain ⟨T1, g1, g2, g3, g4⟩ := s121q (d := d + 3) ok hR hf hc
  obtain ⟨T2, f1, f2, f3⟩ := s23 (d := d) g3
  have w1 := g3.1
  have w2 := f3.1
  have q2 := QC_tr g2 (QC_fr ok g2.1 (Or.inl rfl) f2)
  have h24 := s24 (d := d + 5) f3
  obtain ⟨t1, t2, t3, t4, t5, t6, t7, t8⟩ := f3.2.2.2.1
  have k89 : ∀ j, mm_M T2 89 j = mm_M S 89 j := fun j => (f2.2 89 j (by unfold cd_dc; omega)).trans (g4.1 89 j (fun (e : 24 ≤ 89 ∧ 89 ≤ 32) => by omega)).1
  have k90 : ∀ j, mm_M T2 90 j = mm_M S 90 j := fun j => (f2.2 90 j (by unfold cd_dc; omega)).trans (g4.1 90 j (fun (e : 24 ≤ 90 ∧ 90 ≤ 32) => by omega)).1
  refine ⟨T2, q2, np_tr k89 hc, k90, ?_⟩
  unfold ab_ov
  rw [b119_22 (wx_k0 hw), g1, hp_bd, hp_tn, b119_26 (wx_o0 w1) (wx_s0_2 w1) (by rw [wx_g0_2 w1]; exact wx_k24 w1), wx_g0_2 w1, f1, hp_bd, hp_tn, b119_33]
  by_cases x0 : x = nI 0
  · rw [if_pos x0, if_pos x0, b119_37 (wx_o0 w2) (wx_s0_2 w2) (by rw [wx_g0_2 w2]; exact wx_o24 w2), wx_g0_2 w2, t7]
    rfl
  · rw [if_neg x0, if_neg x0, b119_47 (wx_o0 w2) (wx_s0_2 w2) (by rw [wx_g0_2 w2]; exact wx_k24 w2), wx_g0_2 w2, h24, hp_bd, hp_ts, b119_54]
    rfl
/-- the next row, or none -/
theorem s119n (ok : gb_ok G) (hR : RC S G) (hf : np_ok (ab_row (gD G)) f) (hc : np_c S 89 (ab_row (gD G)).length f) : ∃ T z, mm_cl (d + 1) 122 [.ref 0] S = some (some (.int z), T) ∧ QC S T G ∧ (∀ j, mm_M T 90 j = mm_M S 90 j) ∧ (match np_n f (ab_row (gD G)).length with
    | none => z = nI 0
    | some g => z = nI 1 ∧ np_c T 89 (ab_row (gD G)).length g) := by
  obtain ⟨T, g1, g2, g3⟩ := s122q (d := d) ok hR hf hc
  have h90 : ∀ j, mm_M T 90 j = mm_M S 90 j := fun j => (g3.1 90 j (fun (e : 90 = 89) => by omega)).1
  cases hn : np_n f (ab_row (gD G)).length with
  | none => rw [hn] at g2; exact ⟨T, nI 0, g2.1, g1, h90, rfl⟩
  | some g => rw [hn] at g2; exact ⟨T, nI 1, g2.1, g1, h90, rfl, g2.2⟩
theorem s119_loop (ok : gb_ok G) (hx : x = nI 0 ∨ x = nI 1) : ∀ (k i : Nat) (S : mm_S) (f : Nat → Nat) (s : Option (Int32 × (Nat → Nat))) (m : Int32) (v5 : Value), RC S G → np_ok (ab_row (gD G)) f → np_c S 89 (ab_row (gD G)).length f → ob_c S (ab_row (gD G)).length s m → (s = none ↔ i = 0) → i + k = 120 → ∃ T m', mm_ex (d + 6) 119 11 [.ref 0, .int x, .int m, .int (nI 1), .int (nI i), v5] [] S = some (some (.int m'), T) ∧ QC S T G ∧ ob_c T (ab_row (gD G)).length ((np_a (ab_row (gD G)).length k f).foldl (ab_oo (gP G) (gD G) (if x = nI 0 then 0 else 1)) s) m' := by
  have hl6 : (ab_row (gD G)).length ≤ 6 := row_le ok.1.1 ok.1.2.1
  intro k
  induction k with
  | zero =>
    intro i S f s m v5 hR hf hc hb hs hi
    refine ⟨S, m, ?_, QC_rf hR, hb⟩
    rw [b119_11, if_pos (nI_le (by omega) (by omega)), b119_96]
  | succ k ih =>
    intro i S f s m v5 hR hf hc hb hs hi
    obtain ⟨T1, q1, c1, n1, g1⟩ := s119v (d := d) (x2 := m) (x3 := nI 1) (x4 := nI i) (v5 := v5) ok hR hf hc hx
    have st : mm_ex (d + 6) 119 11 [.ref 0, .int x, .int m, .int (nI 1), .int (nI i), v5] [] S = mm_ex (d + 6) 119 22 [.ref 0, .int x, .int m, .int (nI 1), .int (nI i), v5] [] S := by
      rw [b119_11, if_neg (nI_ge (by omega) (by decide)), b119_18, if_neg i01]
    -- the better one is kept
    have w1 := q1.1.1
    have cpo : mm_cpOk (nI 0) (nI 0) (nI 6) 6 6 = true := by decide
    have c0 : (nI 0).toNatClampNeg = 0 := nI_clamp (by decide)
    have c6 : (nI 6).toNatClampNeg = 6 := nI_clamp (by decide)
    have keep : ∃ T2 z, mm_ex (d + 6) 119 67 [.ref 0, .int x, .int m, .int (nI 1), .int (nI i), .int (ab_ov (gP G) (gD G) (if x = nI 0 then 0 else 1) f)] [] T1 = mm_ex (d + 6) 119 11 [.ref 0, .int x, .int (ab_ov (gP G) (gD G) (if x = nI 0 then 0 else 1) f), .int z, .int (nI (i + 1)), .int (ab_ov (gP G) (gD G) (if x = nI 0 then 0 else 1) f)] [] T2 ∧ QC T1 T2 G ∧ np_c T2 90 (ab_row (gD G)).length f ∧ (match np_n f (ab_row (gD G)).length with
    | none => z = nI 0
    | some g => z = nI 1 ∧ np_c T2 89 (ab_row (gD G)).length g) := by
      have qV : QC T1 (mm_cpM T1 89 90 0 0 6) G := by
        refine QC_f ok q1.1 ⟨fun c j h => ⟨?_, rfl, rfl⟩, fun _ _ => ⟨rfl, rfl⟩, Nat.le_refl _⟩ w1 rfl rfl
        rw [hp_McpM, if_neg (fun e => h (by unfold gc_F; omega))]
      have cV : np_c (mm_cpM T1 89 90 0 0 6) 89 (ab_row (gD G)).length f := fun p hp => by
        rw [hp_McpM, if_neg (fun e => by omega)]
        exact c1 p hp
      have c90 : np_c (mm_cpM T1 89 90 0 0 6) 90 (ab_row (gD G)).length f := fun p hp => by
        rw [hp_McpM, if_pos ⟨rfl, Nat.zero_le _, by omega⟩, Nat.sub_zero, Nat.zero_add]
        exact c1 p hp
      obtain ⟨T2, z, h1, h2, h3, h4⟩ := s119n (d := d + 4) ok qV.1 hf cV
      refine ⟨T2, z, ?_, QC_tr qV h2, np_tr h3 c90, h4⟩
      rw [b119_67 (wx_o0 w1) (wx_s0_8 w1) (wx_s0_9 w1) (by rw [wx_g0_8 w1]; exact wx_a89 w1) (by rw [wx_g0_9 w1]; exact wx_a90 w1) (by rw [wx_g0_8 w1, wx_g0_9 w1, wx_N89 w1, wx_N90 w1]; exact cpo) (wx_k0 w1), wx_g0_8 w1, wx_g0_9 w1, c0, c6, h1, hp_bd, hp_ts, b119_89, nI_add]
    have skip : ∃ T2 z, mm_ex (d + 6) 119 85 [.ref 0, .int x, .int m, .int (nI 1), .int (nI i), .int (ab_ov (gP G) (gD G) (if x = nI 0 then 0 else 1) f)] [] T1 = mm_ex (d + 6) 119 11 [.ref 0, .int x, .int m, .int z, .int (nI (i + 1)), .int (ab_ov (gP G) (gD G) (if x = nI 0 then 0 else 1) f)] [] T2 ∧ QC T1 T2 G ∧ (∀ j, mm_M T2 90 j = mm_M T1 90 j) ∧ (match np_n f (ab_row (gD G)).length with
    | none => z = nI 0
    | some g => z = nI 1 ∧ np_c T2 89 (ab_row (gD G)).length g) := by
      obtain ⟨T2, z, h1, h2, h3, h4⟩ := s119n (d := d + 4) ok q1.1 hf c1
      refine ⟨T2, z, ?_, h2, h3, h4⟩
      rw [b119_85 (wx_k0 w1), h1, hp_bd, hp_ts, b119_89, nI_add]
    -- one round: what stands at 11 then
    have round : ∃ T2 z s' m' v, mm_ex (d + 6) 119 11 [.ref 0, .int x, .int m, .int (nI 1), .int (nI i), v5] [] S = mm_ex (d + 6) 119 11 [.ref 0, .int x, .int m', .int z, .int (nI (i + 1)), v] [] T2 ∧ QC S T2 G ∧ s' = ab_oo (gP G) (gD G) (if x = nI 0 then 0 else 1) s f ∧ ob_c T2 (ab_row (gD G)).length s' m' ∧ (match np_n f (ab_row (gD G)).length with
    | none => z = nI 0
    | some g => z = nI 1 ∧ np_c T2 89 (ab_row (gD G)).length g) := by
      cases s with
      | none =>
        have i0 := hs.mp rfl
        subst i0
        obtain ⟨T2, z, h1, h2, h3, h4⟩ := keep
        refine ⟨T2, z, some (ab_ov (gP G) (gD G) (if x = nI 0 then 0 else 1) f, f), ab_ov (gP G) (gD G) (if x = nI 0 then 0 else 1) f, .int (ab_ov (gP G) (gD G) (if x = nI 0 then 0 else 1) f), ?_, QC_tr q1 h2, rfl, ⟨rfl, h3⟩, h4⟩
        rw [st, g1, if_pos rfl, h1]
      | some q =>
        have i0 : ¬ i = 0 := fun e => by have := hs.mpr e; cases this
        have es : ab_oo (gP G) (gD G) (if x = nI 0 then 0 else 1) (some q) f = if q.1 < ab_ov (gP G) (gD G) (if x = nI 0 then 0 else 1) f then some (ab_ov (gP G) (gD G) (if x = nI 0 then 0 else 1) f, f) else some q := rfl
        rw [if_neg (fun e => i0 ((nI_eq (by omega) (by decide)).mp e)), b119_61] at g1
        have hm : m = q.1 := hb.1
        by_cases h : q.1 < ab_ov (gP G) (gD G) (if x = nI 0 then 0 else 1) f
        · obtain ⟨T2, z, h1, h2, h3, h4⟩ := keep
          refine ⟨T2, z, some (ab_ov (gP G) (gD G) (if x = nI 0 then 0 else 1) f, f), ab_ov (gP G) (gD G) (if x = nI 0 then 0 else 1) f, .int (ab_ov (gP G) (gD G) (if x = nI 0 then 0 else 1) f), ?_, QC_tr q1 h2, ?_, ⟨rfl, h3⟩, h4⟩
          · rw [st, g1, if_neg (by rw [hm]; exact Int32.not_le.mpr h), h1]
          · rw [es, if_pos h]
        · obtain ⟨T2, z, h1, h2, h3, h4⟩ := skip
          refine ⟨T2, z, some q, m, .int (ab_ov (gP G) (gD G) (if x = nI 0 then 0 else 1) f), ?_, QC_tr q1 h2, ?_, ob_tr (fun j => (h3 j).trans (n1 j)) hb, h4⟩
          · rw [st, g1, if_pos (by rw [hm]; exact Int32.not_lt.mp h), h1]
          · rw [es, if_neg h]
    obtain ⟨T2, z, s', m', v, h1, h2, h3, h4, h5⟩ := round
    have ea : np_a (ab_row (gD G)).length (k + 1) f = f :: (match np_n f (ab_row (gD G)).length with
    | none => []
    | some g => np_a (ab_row (gD G)).length k g) := rfl
    rw [ea, List.foldl_cons, ← h3]
    cases hn : np_n f (ab_row (gD G)).length with
    | none =>
      rw [hn] at h5
      have h5 : z = nI 0 := h5
      refine ⟨T2, m', ?_, h2, h4⟩
      rw [h1, h5, b119_11]
      by_cases hk : nI 120 ≤ nI (i + 1)
      · rw [if_pos hk, b119_96]
      · rw [if_neg hk, b119_18, if_pos rfl, b119_96]
    | some g =>
      rw [hn] at h5
      obtain ⟨h5, h6⟩ := h5
      have sn : s' = none ↔ i + 1 = 0 := by
        refine ⟨fun e => ?_, fun e => by omega⟩
        rw [h3] at e
        cases s with
        | none => cases e
        | some q =>
          exfalso
          have es : ab_oo (gP G) (gD G) (if x = nI 0 then 0 else 1) (some q) f = if q.1 < ab_ov (gP G) (gD G) (if x = nI 0 then 0 else 1) f then some (ab_ov (gP G) (gD G) (if x = nI 0 then 0 else 1) f, f) else some q := rfl
          rw [es] at e
          by_cases hq : q.1 < ab_ov (gP G) (gD G) (if x = nI 0 then 0 else 1) f
          · rw [if_pos hq] at e; cases e
          · rw [if_neg hq] at e; cases e
      obtain ⟨T3, m3, j1, j2, j3⟩ := ih (i + 1) T2 g s' m' v h2.1 (np_nk hf hn) h6 h4 sn (by omega)
      refine ⟨T3, m3, ?_, QC_tr h2 j2, j3⟩
      rw [h1, h5, j1]
theorem oo_some : ∀ (l : List (Nat → Nat)) (s : Option (Int32 × (Nat → Nat))), l ≠ [] ∨ s ≠ none → l.foldl (ab_oo P D n) s ≠ none := by
  intro l
  induction l with
  | nil => intro s h; exact h.resolve_left (fun q => q rfl)
  | cons f l ih =>
    intro s _
    rw [List.foldl_cons]
    refine ih _ (Or.inr ?_)
    cases s with
    | none => intro e; cases e
    | some q =>
      show (if q.1 < ab_ov P D n f then some (ab_ov P D n f, f) else some q) ≠ none
      split <;> (intro e; cases e)
theorem c_14 (ok : gb_ok G) (hR : RC S G) : oC S (d + 7) 87 [.ref 0, .int x, .int w] (.int (an_14 G x w)) G := by
  have hw := hR.1
  have hl6 : (ab_row (gD G)).length ≤ 6 := row_le ok.1.1 ok.1.2.1
  have h11 : mm_M S 6 11 = nI (ab_row (gD G)).length := hR.2.1.2.1.1
  unfold an_14
  by_cases hx : x = nI 0 ∨ x = nI 1
  rotate_left 1
  · rw [if_pos (Or.inl hx)]
    refine oC_id hR ?_
    rw [e87, b87_0, if_neg (fun e => hx (Or.inl e)), b87_4, if_neg (fun e => hx (Or.inr e)), b87_25]
  have st : mm_cl (d + 7) 87 [.ref 0, .int x, .int w] S = mm_ex (d + 7) 87 9 [.ref 0, .int x, .int w, .null] [] S := by
    rw [e87, b87_0]
    by_cases x0 : x = nI 0
    · rw [if_pos x0]
    · rw [if_neg x0, b87_4, if_pos (hx.resolve_left x0)]
  by_cases h1 : w < -1
  · rw [if_pos (Or.inr (Or.inl h1))]
    refine oC_id hR ?_
    rw [st, b87_9, if_pos h1, b87_25]
  by_cases h2 : nI (ab_row (gD G)).length ≤ w
  · rw [if_pos (Or.inr (Or.inr h2))]
    refine oC_id hR ?_
    rw [st, b87_9, if_neg h1, b87_14 (wx_o0 hw) (wx_s0_0 hw) (by rw [wx_g0_0 hw]; exact wx_o6 hw), wx_g0_0 hw, h11, if_neg (Int32.not_lt.mpr h2), b87_25]
  have hno : ¬ (¬ (x = nI 0 ∨ x = nI 1) ∨ w < -1 ∨ nI (ab_row (gD G)).length ≤ w) := fun e => e.elim (fun q => q hx) (fun q => q.elim h1 h2)
  rw [if_neg hno]
  have st2 : mm_cl (d + 7) 87 [.ref 0, .int x, .int w] S = if nI (ab_row (gD G)).length ≤ nI 5 then mm_ex (d + 7) 87 42 [.ref 0, .int x, .int w, .null] [] S else mm_ex (d + 7) 87 39 [.ref 0, .int x, .int w, .null] [] S := by
    rw [st, b87_9, if_neg h1, b87_14 (wx_o0 hw) (wx_s0_0 hw) (by rw [wx_g0_0 hw]; exact wx_o6 hw), wx_g0_0 hw, h11, if_pos (Int32.not_le.mp h2), b87_28 (wx_o0 hw) (wx_s0_0 hw) (by rw [wx_g0_0 hw]; exact wx_o6 hw), wx_g0_0 hw, h11]
  by_cases h5 : 5 < (ab_row (gD G)).length
  · rw [if_pos h5]
    refine oC_id hR ?_
    rw [st2, if_neg (nI_ge h5 (by omega)), b87_39]
  rw [if_neg h5]
  rw [if_pos (nI_le (by omega) (by omega))] at st2
  obtain ⟨T1, g1, g2, g3⟩ := s120q (d := d + 4) ok hR
  obtain ⟨T2, m, f1, f2, f3⟩ := s119_loop (d := d) (x := x) ok hx 120 0 T1 _ none (nI 0) .null g2.1 (n0_ok ok.1.2.1.1 ok.1.2.1.2.1) g3 rfl ⟨fun _ => rfl, fun _ => rfl⟩ rfl
  have k119 : mm_cl (d + 6) 119 [.ref 0, .int x] S = some (some (.int m), T2) := by
    rw [e119, b119_0 (wx_k0 hw), g1, hp_bd, hp_tn, b119_6, f1]
  have w2 := f2.1.1
  have f3 : ob_c T2 (ab_row (gD G)).length ((ab_os G).foldl (ab_oo (gP G) (gD G) (if x = nI 0 then 0 else 1)) none) m := f3
  have hne : (ab_os G).foldl (ab_oo (gP G) (gD G) (if x = nI 0 then 0 else 1)) none ≠ none := oo_some _ _ (Or.inl (fun e => by
    have e : np_a (ab_row (gD G)).length 120 (fun i => (np_0 (gK G) (ab_row (gD G))).getD i 0) = [] := e
    cases e))
  cases hfo : (ab_os G).foldl (ab_oo (gP G) (gD G) (if x = nI 0 then 0 else 1)) none with
  | none => exact absurd hfo hne
  | some q =>
    rw [hfo] at f3
    obtain ⟨f3, f4⟩ := f3
    refine oC_Q (QC_tr g2 f2) ?_
    rw [st2, b87_42 (wx_k0 hw), k119, hp_bd, hp_ts, b87_47]
    by_cases h0 : w < nI 0
    · rw [if_neg (Int32.not_le.mpr h0), b87_52]
      show _ = some (some (Value.int (if w < nI 0 then q.1 else nI (q.2 w.toNatClampNeg))), T2)
      rw [if_pos h0, f3]
    · obtain ⟨k, hk, rfl⟩ := nI_of (x := w) h0
      have hkl : k < (ab_row (gD G)).length := by
        rw [nI_leI (by omega) hk] at h2
        omega
      have ck : (nI k).toNatClampNeg = k := nI_clamp hk
      rw [if_pos (nI_le (Nat.zero_le _) hk), b87_56 (wx_o0 w2) (wx_s0_9 w2) (by rw [wx_g0_9 w2, wx_N90 w2]; exact hp_inb (by omega) hk) (by rw [wx_g0_9 w2]; exact wx_a90 w2), wx_g0_9 w2, ck, f4 k hkl]
      show _ = some (some (Value.int (if nI k < nI 0 then q.1 else nI (q.2 k))), T2)
      rw [if_neg h0]
-- lowest terms
theorem lg_pos {b : Int64} (h : ¬ lg_cmp b 0 ≤ nI 0) : ¬ b = 0 := by
  intro e
  subst e
  exact h (by decide)
theorem lg_pos2 {b : Int64} (h : nI 0 < lg_cmp b 0) : ¬ b = 0 := by
  intro e
  subst e
  exact absurd h (by decide)
theorem s126_loop {j0 j2 : Int64} : ∀ (k i : Nat) (a b : Int64) (v : Value), i + k = 100 → ∃ b' z v', mm_ex d 126 9 [.long j0, .null, .long j2, .null, .int x, .long a, .null, .long b, .null, .int (nI i), v, .null] [] S = mm_ex d 126 44 [.long j0, .null, .long j2, .null, .int x, .long (lt_l k a b), .null, .long b', .null, .int z, v', .null] [] S := by
  intro k
  induction k with
  | zero =>
    intro i a b v hi
    refine ⟨b, nI i, v, ?_⟩
    rw [b126_9, if_pos (nI_le (by omega) (by omega))]
    rfl
  | succ k ih =>
    intro i a b v hi
    have e : lt_l (k + 1) a b = if lg_cmp b 0 ≤ nI 0 then a else lt_l k b (a - a / b * b) := rfl
    rw [b126_9, if_neg (nI_ge (by omega) (by decide)), b126_16, e]
    by_cases h : lg_cmp b 0 ≤ nI 0
    · rw [if_pos h, if_pos h]
      exact ⟨b, nI i, v, rfl⟩
    · rw [if_neg h, if_neg h, b126_23 (lg_pos h), nI_add]
      exact ih (i + 1) b (a - a / b * b) _ (by omega)
theorem s126q {j0 j2 : Int64} : mm_cl d 126 [.long j0, .long j2, .int x] S = some (some (.long (ab_lt j0 j2 x)), S) := by
  obtain ⟨b', z, v', h⟩ := s126_loop (S := S) (d := d) (x := x) (j0 := j0) (j2 := j2) 100 0 j0 j2 .null rfl
  unfold ab_lt
  rw [e126, b126_0, h, b126_44]
  by_cases h1 : nI 0 < lg_cmp (lt_l 100 j0 j2) 0
  · rw [if_pos h1, if_pos h1, b126_55]
    by_cases x0 : x = nI 0
    · rw [if_pos x0, if_pos x0, b126_60 (lg_pos2 h1)]
    · rw [if_neg x0, if_neg x0, b126_67 (lg_pos2 h1)]
  · rw [if_neg h1, if_neg h1, b126_51]
theorem s89_loop (ok : gb_ok G) : ∀ (k i : Nat) (S : mm_S) (f : Nat → Nat) (s : Int64 × Int64), RC S G → np_ok (ab_row (gD G)) f → np_c S 89 (ab_row (gD G)).length f → i + k = 120 → ∃ T y z, mm_ex (d + 6) 89 39 [.ref 0, .int x, .long s.1, .null, .long s.2, .null, .int (nI 1), .int (nI i)] [] S = mm_ex (d + 6) 89 91 [.ref 0, .int x, .long ((np_a (ab_row (gD G)).length k f).foldl (ab_sm (gP G) (gD G)) s).1, .null, .long ((np_a (ab_row (gD G)).length k f).foldl (ab_sm (gP G) (gD G)) s).2, .null, .int y, .int z] [] T ∧ QC S T G := by
  intro k
  induction k with
  | zero =>
    intro i S f s hR hf hc hi
    refine ⟨S, nI 1, nI i, ?_, QC_rf hR⟩
    rw [b89_39, if_pos (nI_le (by omega) (by omega))]
    rfl
  | succ k ih =>
    intro i S f s hR hf hc hi
    have hw := hR.1
    obtain ⟨T1, g1, g2, g3, g4⟩ := s121q (d := d + 3) ok hR hf hc
    obtain ⟨T2, f1, f2, f3⟩ := s23 (d := d) g3
    have w1 := g3.1
    have w2 := f3.1
    have q2 := QC_tr g2 (QC_fr ok g2.1 (Or.inl rfl) f2)
    have t7 : mm_M T2 24 14 = ab_ti (ab_fin (gP G) (gD_row (gD G) (np_f f (ab_row (gD G)).length))) := f3.2.2.2.1.2.2.2.2.2.2.1
    have k89 : ∀ j, mm_M T2 89 j = mm_M S 89 j := fun j => (f2.2 89 j (by unfold cd_dc; omega)).trans (g4.1 89 j (fun (e : 24 ≤ 89 ∧ 89 ≤ 32) => by omega)).1
    obtain ⟨T3, z, h1, h2, h3, h4⟩ := s119n (d := d + 4) ok q2.1 hf (np_tr k89 hc)
    have st : mm_ex (d + 6) 89 39 [.ref 0, .int x, .long s.1, .null, .long s.2, .null, .int (nI 1), .int (nI i)] [] S = mm_ex (d + 6) 89 39 [.ref 0, .int x, .long (ab_sm (gP G) (gD G) s f).1, .null, .long (ab_sm (gP G) (gD G) s f).2, .null, .int z, .int (nI (i + 1))] [] T3 := by
      unfold ab_sm
      rw [b89_39, if_neg (nI_ge (by omega) (by decide)), b89_46, if_neg i01, b89_51 (wx_k0 hw), g1, hp_bd, hp_tn, b89_55 (wx_o0 w1) (wx_s0_2 w1) (by rw [wx_g0_2 w1]; exact wx_k24 w1), wx_g0_2 w1, f1, hp_bd, hp_tn, b89_62 (wx_o0 w2) (wx_s0_2 w2) (by rw [wx_g0_2 w2]; exact wx_o24 w2) (wx_k0 w2), wx_g0_2 w2, t7, h1, hp_bd, hp_ts, b89_83, nI_add]
    have ea : np_a (ab_row (gD G)).length (k + 1) f = f :: (match np_n f (ab_row (gD G)).length with
    | none => []
    | some g => np_a (ab_row (gD G)).length k g) := rfl
    rw [ea, List.foldl_cons]
    cases hn : np_n f (ab_row (gD G)).length with
    | none =>
      rw [hn] at h4
      have h4 : z = nI 0 := h4
      refine ⟨T3, z, nI (i + 1), ?_, QC_tr q2 h2⟩
      rw [st, b89_39]
      by_cases hk : nI 120 ≤ nI (i + 1)
      · rw [if_pos hk]; rfl
      · rw [if_neg hk, b89_46, if_pos h4]; rfl
    | some g =>
      rw [hn] at h4
      obtain ⟨h4, h5⟩ := h4
      obtain ⟨T4, y, z2, j1, j2⟩ := ih (i + 1) T3 g (ab_sm (gP G) (gD G) s f) h2.1 (np_nk hf hn) h5 (by omega)
      refine ⟨T4, y, z2, ?_, QC_tr q2 (QC_tr h2 j2)⟩
      rw [st, h4, j1]
theorem c_16 (ok : gb_ok G) (hR : RC S G) : oC S (d + 6) 89 [.ref 0, .int x] (.long (an_16 G x)) G := by
  have hw := hR.1
  have hl6 : (ab_row (gD G)).length ≤ 6 := row_le ok.1.1 ok.1.2.1
  have h11 : mm_M S 6 11 = nI (ab_row (gD G)).length := hR.2.1.2.1.1
  unfold an_16
  by_cases hx : x = nI 0 ∨ x = nI 1
  rotate_left 1
  · rw [if_pos (Or.inl hx)]
    refine oC_id hR ?_
    rw [e89, b89_0, if_neg (fun e => hx (Or.inl e)), b89_4, if_neg (fun e => hx (Or.inr e)), b89_20]
  have st : mm_cl (d + 6) 89 [.ref 0, .int x] S = if nI (ab_row (gD G)).length ≤ nI 5 then mm_ex (d + 6) 89 24 [.ref 0, .int x, .null, .null, .null, .null, .null, .null] [] S else mm_ex (d + 6) 89 20 [.ref 0, .int x, .null, .null, .null, .null, .null, .null] [] S := by
    have h1 : mm_cl (d + 6) 89 [.ref 0, .int x] S = mm_ex (d + 6) 89 9 [.ref 0, .int x, .null, .null, .null, .null, .null, .null] [] S := by
      rw [e89, b89_0]
      by_cases x0 : x = nI 0
      · rw [if_pos x0]
      · rw [if_neg x0, b89_4, if_pos (hx.resolve_left x0)]
    rw [h1, b89_9 (wx_o0 hw) (wx_s0_0 hw) (by rw [wx_g0_0 hw]; exact wx_o6 hw), wx_g0_0 hw, h11]
  by_cases h5 : 5 < (ab_row (gD G)).length
  · rw [if_pos (Or.inr h5)]
    refine oC_id hR ?_
    rw [st, if_neg (nI_ge h5 (by omega)), b89_20]
  rw [if_neg (fun e => e.elim (fun q => q hx) h5)]
  rw [if_pos (nI_le (by omega) (by omega))] at st
  obtain ⟨T1, g1, g2, g3⟩ := s120q (d := d + 4) ok hR
  obtain ⟨T2, y, z, f1, f2⟩ := s89_loop (d := d) (x := x) ok 120 0 T1 _ (0, 0) g2.1 (n0_ok ok.1.2.1.1 ok.1.2.1.2.1) g3 rfl
  refine oC_Q (QC_tr g2 f2) ?_
  rw [st, b89_24 (wx_k0 hw), g1, hp_bd, hp_tn, b89_33, f1, b89_91, s126q, hp_bd, hp_ts, b89_98]
  rfl
end OL
end
section
/-! ===== sure, in the class ===== -/
def sb (x : Int32) (k : Nat) : Bool := decide (((x >>> (nI k &&& 31)) &&& nI 1) = nI 1)
def ab_wg (s n : Nat) (x : Int32) : Int64 := (List.range n).foldl (fun w k => w * (if sb x k = true then (nI s).toInt64 else (nI 10 - nI s).toInt64)) 1
def ab_wh (P : ab_P) (x : Int32) : Nat → ab_D → Nat → Int32 → Int32
  | 0, D, _, b => if ab_com D = true then -1 else b
  | k + 1, D, n, b => if ab_com D = true then (if ab_ha P D = 1 then (if sb x n = true then ab_wh P x k (ab_does P D 2) (n + 1) b else ab_wh P x k (ab_does P D 1) (n + 1) (b ||| (nI 1 <<< (nI ((ab_row D).headD 0) &&& 31)))) else ab_wh P x k (ab_does P D (ab_ha P D)) n b) else b
def ab_sr (P : ab_P) (D : ab_D) (s b : Nat) (x : Int32) : Nat → Nat → Int64 → Int64 → Int64
  | 0, _, l, a => ab_lt l a x
  | k + 1, i, l, a => if lg_cmp (ab_wg s (ab_row D).length (nI i)) 0 ≤ nI 0 then ab_sr P D s b x k (i + 1) l a else if nI 0 ≤ ab_wh P (nI i) 12 D 0 (nI 0) then (if sb (ab_wh P (nI i) 12 D 0 (nI 0)) b = true then ab_sr P D s b x k (i + 1) (l + ab_wg s (ab_row D).length (nI i)) (a + ab_wg s (ab_row D).length (nI i)) else ab_sr P D s b x k (i + 1) l (a + ab_wg s (ab_row D).length (nI i))) else -9223372036854775808
def an_21 (G : gb_G) (x p : Int32) : Int64 := match ab_kw (gK G) x with
  | none => -9223372036854775808
  | some b => if p = nI 0 ∨ p = nI 1 then ab_sr (gP G) (gD G) (gx_s G.1) b p (2 ^ (ab_row (gD G)).length) 0 0 0 else -9223372036854775808
section SU
variable {S T U : mm_S} {G : gb_G} {P : ab_P} {D E : ab_D} {a b c d n k i j t l e s : Nat} {x w y z p : Int32} {r : List Nat}
theorem sb_t (h : sb x k = true) : ((x >>> (nI k &&& 31)) &&& nI 1) = nI 1 := of_decide_eq_true h
theorem sb_f (h : ¬ sb x k = true) : ¬ (((x >>> (nI k &&& 31)) &&& nI 1) = nI 1) := fun e => h (decide_eq_true e)
theorem s124q (hR : RC S G) (ok : gb_ok G) : mm_cl d 124 [.ref 0, .int x] S = some (some (.long (ab_wg (gx_s G.1) (ab_row (gD G)).length x)), S) := by
  have hw := hR.1
  have hl6 : (ab_row (gD G)).length ≤ 6 := row_le ok.1.1 ok.1.2.1
  have h11 : mm_M S 6 11 = nI (ab_row (gD G)).length := hR.2.1.2.1.1
  have h16 : mm_M S 6 16 = nI (gx_s G.1) := hR.2.1.2.2.1
  have loop : ∀ k i, i + k = (ab_row (gD G)).length → mm_ex d 124 5 [.ref 0, .int x, .long (ab_wg (gx_s G.1) i x), .null, .int (nI i)] [] S = some (some (.long (ab_wg (gx_s G.1) (ab_row (gD G)).length x)), S) := by
    intro k
    induction k with
    | zero =>
      intro i hi
      have e : i = (ab_row (gD G)).length := by omega
      rw [b124_5 (wx_o0 hw) (wx_s0_0 hw) (by rw [wx_g0_0 hw]; exact wx_o6 hw), wx_g0_0 hw, h11, if_pos (nI_le (by omega) (by omega)), b124_58, e]
    | succ k ih =>
      intro i hi
      have e : ab_wg (gx_s G.1) (i + 1) x = ab_wg (gx_s G.1) i x * (if sb x i = true then (nI (gx_s G.1)).toInt64 else (nI 10 - nI (gx_s G.1)).toInt64) := by
        unfold ab_wg
        rw [List.range_succ, List.foldl_append]
        rfl
      have h := ih (i + 1) (by omega)
      rw [e] at h
      rw [b124_5 (wx_o0 hw) (wx_s0_0 hw) (by rw [wx_g0_0 hw]; exact wx_o6 hw), wx_g0_0 hw, h11, if_neg (nI_ge (by omega) (by omega)), b124_17]
      by_cases hb : sb x i = true
      · rw [if_pos hb] at h
        rw [if_pos (sb_t hb), b124_28 (wx_o0 hw) (wx_s0_0 hw) (by rw [wx_g0_0 hw]; exact wx_o6 hw), wx_g0_0 hw, h16, nI_add, h]
      · rw [if_neg hb] at h
        rw [if_neg (sb_f hb), b124_39 (wx_o0 hw) (wx_s0_0 hw) (by rw [wx_g0_0 hw]; exact wx_o6 hw), wx_g0_0 hw, h16, nI_add, h]
  rw [e124, b124_0]
  exact loop _ 0 (Nat.zero_add _)
theorem s125_loop : ∀ (k t : Nat) (S : mm_S) (D : ab_D) (n : Nat) (b : Int32) (v5 v6 : Value), cd_A S 24 P D → t + k = 12 → n ≤ t → ∃ T, mm_ex (d + 5) 125 18 [.ref 0, .int x, .int (nI n), .int b, .int (nI t), v5, v6] [] S = some (some (.int (ab_wh P x k D n b)), T) ∧ cd_fr 24 S T := by
  intro k
  induction k with
  | zero =>
    intro t S D n b v5 v6 hA ht hn
    have hw := hA.1
    refine ⟨S, ?_, fr_rf⟩
    have e : ab_wh P x 0 D n b = if ab_com D = true then -1 else b := rfl
    rw [b125_18, if_pos (nI_le (by omega) (by omega)), b125_118 (wx_o0 hw) (wx_s0_2 hw) (by rw [wx_g0_2 hw]; exact wx_k24 hw), wx_g0_2 hw, s20w hA, hp_bd, hp_ts, b125_125, e]
    cases hc : ab_com D with
    | false => rw [if_pos (by decide), b125_132, if_neg (by decide)]
    | true => rw [if_neg (by decide), b125_128, if_pos rfl]
  | succ k ih =>
    intro t S D n b v5 v6 hA ht hn
    have hw := hA.1
    have e : ab_wh P x (k + 1) D n b = if ab_com D = true then (if ab_ha P D = 1 then (if sb x n = true then ab_wh P x k (ab_does P D 2) (n + 1) b else ab_wh P x k (ab_does P D 1) (n + 1) (b ||| (nI 1 <<< (nI ((ab_row D).headD 0) &&& 31)))) else ab_wh P x k (ab_does P D (ab_ha P D)) n b) else b := rfl
    have st : mm_ex (d + 5) 125 18 [.ref 0, .int x, .int (nI n), .int b, .int (nI t), v5, v6] [] S = mm_ex (d + 5) 125 32 [.ref 0, .int x, .int (nI n), .int b, .int (nI t), v5, v6] [.int (if ab_com D = true then nI 1 else nI 0)] S := by
      rw [b125_18, if_neg (nI_ge (by omega) (by omega)), b125_25 (wx_o0 hw) (wx_s0_2 hw) (by rw [wx_g0_2 hw]; exact wx_k24 hw), wx_g0_2 hw, s20w hA, hp_bd, hp_ts]
    cases hc : ab_com D with
    | false =>
      refine ⟨S, ?_, fr_rf⟩
      rw [st, b125_32, hc, if_pos (by decide), b125_118 (wx_o0 hw) (wx_s0_2 hw) (by rw [wx_g0_2 hw]; exact wx_k24 hw), wx_g0_2 hw, s20w hA, hp_bd, hp_ts, b125_125, hc, if_pos (by decide), b125_132, e, hc, if_neg (by decide)]
    | true =>
      obtain ⟨h, r, hr, hlo⟩ := com_row hc
      have hb : h < ab_kn P := hA.2.2.2.2.2.2.1 h (by rw [hr]; exact List.mem_cons_self)
      have hh6 := Nat.lt_of_lt_of_le hb hA.2.2.2.2.1.1
      have ehd : (ab_row D).headD 0 = h := by rw [hr]; rfl
      have hlen : 0 < (ab_row D).length := by rw [hr]; exact Nat.succ_pos _
      have eha : ab_ha P D = ab_act P D h ((ab_row D).length - 1) := by unfold ab_ha; rw [hr]; rfl
      have edo : ∀ act, ab_does P D act = ab_do P D h r act := fun act => by unfold ab_does; rw [hr]
      have ok3 := @ab_act_ok P D h ((ab_row D).length - 1) hA.2.2.2.2.1 hA.2.2.2.2.2 hb
      obtain ⟨T1, e1, g1, g2, g3, g4⟩ := s19w (d := d + 1) hA hb
      have w1 := g3.1.1
      have hc7 := (cw_k g3).1
      have sd := sdo (d := d + 1) g3 hlen
      have rk := by_k hc7 g3.2.2.1
      have cl : (nI h).toNatClampNeg = h := nI_clamp (by omega)
      have hbi : mm_inb (nI h) 6 = true := hp_inb hh6 (by omega)
      have he : mm_R T1 25 h = some e1 := g4
      have st2 : mm_ex (d + 5) 125 18 [.ref 0, .int x, .int (nI n), .int b, .int (nI t), v5, v6] [] S = mm_ex (d + 5) 125 70 [.ref 0, .int x, .int (nI n), .int b, .int (nI t), .int (nI h), v6] [.int (nI (ab_ha P D))] T1 := by
        rw [st, b125_32, hc, if_neg (by decide), b125_35 (wx_o0 hw) (wx_s0_2 hw) (by rw [wx_g0_2 hw]; exact wx_k24 hw), wx_g0_2 hw, s11h hA hc, ehd, hp_bd, hp_ts, b125_42 (wx_o0 hw) (wx_s0_2 hw) (by rw [wx_g0_2 hw]; exact wx_k24 hw), wx_g0_2 hw, g1, hp_bd, hp_tn, eha]
        rcases k7c hc7 with hk | hk | hk | hk | hk | hk | hk <;> rw [hk] at sd rk
        · rw [b125_53_k0 (wx_o0 w1) (wx_s0_2 w1) (by rw [wx_g0_2 w1]; exact wx_o24 w1) (by rw [wx_g0_2 w1]; exact wx_s24_0 w1) (by rw [wx_g0_2 w1, wx_g24_0 w1, wx_N25 w1]; exact hbi) (by rw [wx_g0_2 w1, wx_g24_0 w1]; exact wx_a25 w1) (by rw [wx_g0_2 w1, wx_g24_0 w1, cl]; exact hp_rs he) (by rw [wx_g0_2 w1, wx_g24_0 w1, cl, hp_rg he]; exact rk), wx_g0_2 w1, wx_g24_0 w1, cl, hp_rg he, show mm_cl (d + 4) 2 [.ref e1, .ref 24] T1 = _ from sd, hp_bd, hp_ts]
        · rw [b125_53_k4 (wx_o0 w1) (wx_s0_2 w1) (by rw [wx_g0_2 w1]; exact wx_o24 w1) (by rw [wx_g0_2 w1]; exact wx_s24_0 w1) (by rw [wx_g0_2 w1, wx_g24_0 w1, wx_N25 w1]; exact hbi) (by rw [wx_g0_2 w1, wx_g24_0 w1]; exact wx_a25 w1) (by rw [wx_g0_2 w1, wx_g24_0 w1, cl]; exact hp_rs he) (by rw [wx_g0_2 w1, wx_g24_0 w1, cl, hp_rg he]; exact rk), wx_g0_2 w1, wx_g24_0 w1, cl, hp_rg he, show mm_cl (d + 4) 32 [.ref e1, .ref 24] T1 = _ from sd, hp_bd, hp_ts]
        · rw [b125_53_k10 (wx_o0 w1) (wx_s0_2 w1) (by rw [wx_g0_2 w1]; exact wx_o24 w1) (by rw [wx_g0_2 w1]; exact wx_s24_0 w1) (by rw [wx_g0_2 w1, wx_g24_0 w1, wx_N25 w1]; exact hbi) (by rw [wx_g0_2 w1, wx_g24_0 w1]; exact wx_a25 w1) (by rw [wx_g0_2 w1, wx_g24_0 w1, cl]; exact hp_rs he) (by rw [wx_g0_2 w1, wx_g24_0 w1, cl, hp_rg he]; exact rk), wx_g0_2 w1, wx_g24_0 w1, cl, hp_rg he, show mm_cl (d + 4) 70 [.ref e1, .ref 24] T1 = _ from sd, hp_bd, hp_ts]
        · rw [b125_53_k2 (wx_o0 w1) (wx_s0_2 w1) (by rw [wx_g0_2 w1]; exact wx_o24 w1) (by rw [wx_g0_2 w1]; exact wx_s24_0 w1) (by rw [wx_g0_2 w1, wx_g24_0 w1, wx_N25 w1]; exact hbi) (by rw [wx_g0_2 w1, wx_g24_0 w1]; exact wx_a25 w1) (by rw [wx_g0_2 w1, wx_g24_0 w1, cl]; exact hp_rs he) (by rw [wx_g0_2 w1, wx_g24_0 w1, cl, hp_rg he]; exact rk), wx_g0_2 w1, wx_g24_0 w1, cl, hp_rg he, show mm_cl (d + 4) 26 [.ref e1, .ref 24] T1 = _ from sd, hp_bd, hp_ts]
        · rw [b125_53_k7 (wx_o0 w1) (wx_s0_2 w1) (by rw [wx_g0_2 w1]; exact wx_o24 w1) (by rw [wx_g0_2 w1]; exact wx_s24_0 w1) (by rw [wx_g0_2 w1, wx_g24_0 w1, wx_N25 w1]; exact hbi) (by rw [wx_g0_2 w1, wx_g24_0 w1]; exact wx_a25 w1) (by rw [wx_g0_2 w1, wx_g24_0 w1, cl]; exact hp_rs he) (by rw [wx_g0_2 w1, wx_g24_0 w1, cl, hp_rg he]; exact rk), wx_g0_2 w1, wx_g24_0 w1, cl, hp_rg he, show mm_cl (d + 4) 56 [.ref e1, .ref 24] T1 = _ from sd, hp_bd, hp_ts]
        · rw [b125_53_k3 (wx_o0 w1) (wx_s0_2 w1) (by rw [wx_g0_2 w1]; exact wx_o24 w1) (by rw [wx_g0_2 w1]; exact wx_s24_0 w1) (by rw [wx_g0_2 w1, wx_g24_0 w1, wx_N25 w1]; exact hbi) (by rw [wx_g0_2 w1, wx_g24_0 w1]; exact wx_a25 w1) (by rw [wx_g0_2 w1, wx_g24_0 w1, cl]; exact hp_rs he) (by rw [wx_g0_2 w1, wx_g24_0 w1, cl, hp_rg he]; exact rk), wx_g0_2 w1, wx_g24_0 w1, cl, hp_rg he, show mm_cl (d + 4) 29 [.ref e1, .ref 24] T1 = _ from sd, hp_bd, hp_ts]
        · rw [b125_53_k9 (wx_o0 w1) (wx_s0_2 w1) (by rw [wx_g0_2 w1]; exact wx_o24 w1) (by rw [wx_g0_2 w1]; exact wx_s24_0 w1) (by rw [wx_g0_2 w1, wx_g24_0 w1, wx_N25 w1]; exact hbi) (by rw [wx_g0_2 w1, wx_g24_0 w1]; exact wx_a25 w1) (by rw [wx_g0_2 w1, wx_g24_0 w1, cl]; exact hp_rs he) (by rw [wx_g0_2 w1, wx_g24_0 w1, cl, hp_rg he]; exact rk), wx_g0_2 w1, wx_g24_0 w1, cl, hp_rg he, show mm_cl (d + 4) 66 [.ref e1, .ref 24] T1 = _ from sd, hp_bd, hp_ts]
      -- what a turn carried out leaves
      have carry : ∀ act, (act = 1 ∨ act = 2 ∨ act = 3) → (act = 3 → ab_may P D h = true) → ∃ T2, mm_cl (d + 4) 22 [.ref 24, .int (nI act)] T1 = some (none, T2) ∧ cd_fr 24 T1 T2 ∧ cd_A T2 24 P (ab_does P D act) := by
        intro act ha hm
        rw [edo]
        exact s22w (d := d + 3) g3.1 hr g3.2.2.2.1 g3.2.2.2.2 ha hlo hm
      rw [e, hc, if_pos rfl]
      by_cases h1 : ab_ha P D = 1
      · rw [if_pos h1]
        by_cases hs : sb x n = true
        · obtain ⟨T2, f1, f2, f3⟩ := carry 2 (Or.inr (Or.inl rfl)) (fun q => by cases q)
          obtain ⟨T3, j1, j2⟩ := ih (t + 1) T2 (ab_does P D 2) (n + 1) b (.int (nI h)) (.int (nI 2)) f3 (by omega) (by omega)
          refine ⟨T3, ?_, fr_tr g2 (fr_tr f2 j2)⟩
          rw [if_pos hs, st2, b125_70, if_pos (by rw [h1]), b125_78, if_pos (sb_t hs), b125_87 (wx_o0 w1) (wx_s0_2 w1) (by rw [wx_g0_2 w1]; exact wx_k24 w1), wx_g0_2 w1, f1, hp_bd, hp_tn, nI_add, b125_112, nI_add]
          exact j1
        · obtain ⟨T2, f1, f2, f3⟩ := carry 1 (Or.inl rfl) (fun q => by cases q)
          obtain ⟨T3, j1, j2⟩ := ih (t + 1) T2 (ab_does P D 1) (n + 1) (b ||| (nI 1 <<< (nI h &&& 31))) (.int (nI h)) (.int (nI 1)) f3 (by omega) (by omega)
          refine ⟨T3, ?_, fr_tr g2 (fr_tr f2 j2)⟩
          rw [if_neg hs, st2, b125_70, h1, if_pos rfl, b125_78, if_neg (sb_f hs), b125_93 (wx_o0 w1) (wx_s0_2 w1) (by rw [wx_g0_2 w1]; exact wx_k24 w1), wx_g0_2 w1, f1, hp_bd, hp_tn, nI_add, b125_112, nI_add, ehd]
          exact j1
      · rw [if_neg h1]
        obtain ⟨T2, f1, f2, f3⟩ := carry (ab_ha P D) (by rw [eha] at h1 ⊢; omega) (by rw [eha]; exact ok3.2.2)
        obtain ⟨T3, j1, j2⟩ := ih (t + 1) T2 (ab_does P D (ab_ha P D)) n b (.int (nI h)) (.int (nI (ab_ha P D))) f3 (by omega) (by omega)
        refine ⟨T3, ?_, fr_tr g2 (fr_tr f2 j2)⟩
        have h3 : ab_ha P D ≤ 3 := by rw [eha]; exact ok3.2.1
        rw [st2, b125_70, if_neg (fun q => h1 ((nI_eq (by omega) (by decide)).mp q)), b125_103 (wx_o0 w1) (wx_s0_2 w1) (by rw [wx_g0_2 w1]; exact wx_k24 w1), wx_g0_2 w1, f1, hp_bd, hp_tn, b125_112, nI_add]
        exact j1
theorem s125q (ok : gb_ok G) (hR : RC S G) : ∃ T, mm_cl (d + 5) 125 [.ref 0, .int x] S = some (some (.int (ab_wh (gP G) x 12 (gD G) 0 (nI 0))), T) ∧ QC S T G := by
  have hw := hR.1
  obtain ⟨g1, g2, g3⟩ := t_copy (d := d + 3) (a := 24) ok hR (Or.inl rfl)
  obtain ⟨T, g4, g5⟩ := s125_loop (d := d) (x := x) 12 0 _ (gD G) 0 (nI 0) .null .null g3 rfl (Nat.le_refl _)
  refine ⟨T, ?_, QC_tr g2 (QC_fr ok g2.1 (Or.inl rfl) g5)⟩
  rw [e125, b125_0 (wx_o0 hw) (wx_s0_2 hw) (wx_s0_0 hw) (by rw [wx_g0_2 hw]; exact wx_k24 hw), wx_g0_2 hw, wx_g0_0 hw, g1, hp_bd, hp_tn, b125_11, g4]
theorem c94_loop (ok : gb_ok G) (hb : b < 6) {m : Nat} (hm : m ≤ 64) : ∀ (k i : Nat) (S : mm_S) (j4 j6 : Int64) (v9 v11 : Value), RC S G → i + k = m → ∃ T, mm_ex (d + 6) 94 43 [.ref 0, .int (nI b), .int x, .int (nI m), .long j4, .null, .long j6, .null, .int (nI i), v9, .null, v11] [] S = some (some (.long (ab_sr (gP G) (gD G) (gx_s G.1) b x k i j4 j6)), T) ∧ QC S T G := by
  intro k
  induction k with
  | zero =>
    intro i S j4 j6 v9 v11 hR hi
    refine ⟨S, ?_, QC_rf hR⟩
    rw [b94_43, if_pos (nI_le (by omega) (by omega)), b94_111, s126q, hp_bd, hp_ts, b94_119]
    rfl
  | succ k ih =>
    intro i S j4 j6 v9 v11 hR hi
    have hw := hR.1
    have e : ab_sr (gP G) (gD G) (gx_s G.1) b x (k + 1) i j4 j6 = if lg_cmp (ab_wg (gx_s G.1) (ab_row (gD G)).length (nI i)) 0 ≤ nI 0 then ab_sr (gP G) (gD G) (gx_s G.1) b x k (i + 1) j4 j6 else if nI 0 ≤ ab_wh (gP G) (nI i) 12 (gD G) 0 (nI 0) then (if sb (ab_wh (gP G) (nI i) 12 (gD G) 0 (nI 0)) b = true then ab_sr (gP G) (gD G) (gx_s G.1) b x k (i + 1) (j4 + ab_wg (gx_s G.1) (ab_row (gD G)).length (nI i)) (j6 + ab_wg (gx_s G.1) (ab_row (gD G)).length (nI i)) else ab_sr (gP G) (gD G) (gx_s G.1) b x k (i + 1) j4 (j6 + ab_wg (gx_s G.1) (ab_row (gD G)).length (nI i))) else -9223372036854775808 := rfl
    have st : mm_ex (d + 6) 94 43 [.ref 0, .int (nI b), .int x, .int (nI m), .long j4, .null, .long j6, .null, .int (nI i), v9, .null, v11] [] S = if lg_cmp (ab_wg (gx_s G.1) (ab_row (gD G)).length (nI i)) 0 ≤ nI 0 then mm_ex (d + 6) 94 105 [.ref 0, .int (nI b), .int x, .int (nI m), .long j4, .null, .long j6, .null, .int (nI i), .long (ab_wg (gx_s G.1) (ab_row (gD G)).length (nI i)), .null, v11] [] S else mm_ex (d + 6) 94 64 [.ref 0, .int (nI b), .int x, .int (nI m), .long j4, .null, .long j6, .null, .int (nI i), .long (ab_wg (gx_s G.1) (ab_row (gD G)).length (nI i)), .null, v11] [] S := by
      rw [b94_43, if_neg (nI_ge (by omega) (by omega)), b94_49 (wx_k0 hw), s124q hR ok, hp_bd, hp_ts, b94_55]
    rw [e]
    by_cases h1 : lg_cmp (ab_wg (gx_s G.1) (ab_row (gD G)).length (nI i)) 0 ≤ nI 0
    · rw [if_pos h1] at st ⊢
      obtain ⟨T, g1, g2⟩ := ih (i + 1) S j4 j6 (.long (ab_wg (gx_s G.1) (ab_row (gD G)).length (nI i))) v11 hR (by omega)
      refine ⟨T, ?_, g2⟩
      rw [st, b94_105, nI_add, g1]
    rw [if_neg h1] at st ⊢
    obtain ⟨T1, f1, f2⟩ := s125q (d := d) (x := nI i) ok hR
    rw [b94_64 (wx_k0 hw), f1, hp_bd, hp_ts, b94_70] at st
    by_cases h2 : nI 0 ≤ ab_wh (gP G) (nI i) 12 (gD G) 0 (nI 0)
    · rw [if_pos h2] at st ⊢
      rw [b94_81] at st
      by_cases h3 : sb (ab_wh (gP G) (nI i) 12 (gD G) 0 (nI 0)) b = true
      · rw [if_pos h3]
        obtain ⟨T, g1, g2⟩ := ih (i + 1) T1 (j4 + ab_wg (gx_s G.1) (ab_row (gD G)).length (nI i)) (j6 + ab_wg (gx_s G.1) (ab_row (gD G)).length (nI i)) (.long (ab_wg (gx_s G.1) (ab_row (gD G)).length (nI i))) (.int (ab_wh (gP G) (nI i) 12 (gD G) 0 (nI 0))) f2.1 (by omega)
        refine ⟨T, ?_, QC_tr f2 g2⟩
        rw [st, if_pos (sb_t h3), b94_98, nI_add, g1]
      · rw [if_neg h3]
        obtain ⟨T, g1, g2⟩ := ih (i + 1) T1 j4 (j6 + ab_wg (gx_s G.1) (ab_row (gD G)).length (nI i)) (.long (ab_wg (gx_s G.1) (ab_row (gD G)).length (nI i))) (.int (ab_wh (gP G) (nI i) 12 (gD G) 0 (nI 0))) f2.1 (by omega)
        refine ⟨T, ?_, QC_tr f2 g2⟩
        rw [st, if_neg (sb_f h3), b94_105, nI_add, g1]
    · rw [if_neg h2] at st ⊢
      refine ⟨T1, ?_, f2⟩
      rw [st, b94_77]
theorem sh_2 : ∀ n, n ≤ 6 → nI 1 <<< (nI n &&& 31) = nI (2 ^ n) := by decide
theorem c_21 (ok : gb_ok G) (hR : RC S G) : oC S (d + 6) 94 [.ref 0, .int x, .int p] (.long (an_21 G x p)) G := by
  have hw := hR.1
  have hk : gK G ≤ 6 := ok.1.1.1
  have hl6 : (ab_row (gD G)).length ≤ 6 := row_le ok.1.1 ok.1.2.1
  have h11 : mm_M S 6 11 = nI (ab_row (gD G)).length := hR.2.1.2.1.1
  unfold an_21
  rcases kw_c hk x with ⟨e, h⟩ | ⟨b, hb, e, rfl⟩
  · have k := s8n (d := d + 5) ok hR e
    rw [e]
    refine oC_id hR ?_
    rw [e94, b94_0 (wx_o0 hw) (wx_s0_0 hw) (by rw [wx_g0_0 hw]; exact wx_k6 hw), wx_g0_0 hw, k, hp_bd, hp_ts, b94_8, if_pos rfl, b94_20]
  have k := s8s (d := d + 5) ok hR hb
  rw [e]
  simp only
  have st : mm_cl (d + 6) 94 [.ref 0, .int (nI b), .int p] S = mm_ex (d + 6) 94 11 [.ref 0, .int (nI b), .int p, .null, .null, .null, .null, .null, .null, .null, .null, .null] [] S := by
    rw [e94, b94_0 (wx_o0 hw) (wx_s0_0 hw) (by rw [wx_g0_0 hw]; exact wx_k6 hw), wx_g0_0 hw, k, hp_bd, hp_ts, b94_8, if_neg i01]
  by_cases hx : p = nI 0 ∨ p = nI 1
  · rw [if_pos hx]
    have hp2 : 2 ^ (ab_row (gD G)).length ≤ 64 := by
      have : 2 ^ (ab_row (gD G)).length ≤ 2 ^ 6 := Nat.pow_le_pow_right (by decide) hl6
      omega
    obtain ⟨T, g1, g2⟩ := c94_loop (d := d) (x := p) ok (b := b) (by omega) hp2 (2 ^ (ab_row (gD G)).length) 0 S 0 0 .null .null hR (Nat.zero_add _)
    refine oC_Q g2 ?_
    have st2 : mm_cl (d + 6) 94 [.ref 0, .int (nI b), .int p] S = mm_ex (d + 6) 94 24 [.ref 0, .int (nI b), .int p, .null, .null, .null, .null, .null, .null, .null, .null, .null] [] S := by
      rw [st, b94_11]
      by_cases x0 : p = nI 0
      · rw [if_pos x0]
      · rw [if_neg x0, b94_15, if_pos (hx.resolve_left x0)]
    rw [st2, b94_24 (wx_o0 hw) (wx_s0_0 hw) (by rw [wx_g0_0 hw]; exact wx_o6 hw), wx_g0_0 hw, h11, sh_2 _ hl6, g1]
  · rw [if_neg hx]
    refine oC_id hR ?_
    rw [st, b94_11, if_neg (fun e => hx (Or.inl e)), b94_15, if_neg (fun e => hx (Or.inr e)), b94_20]
end SU
end
section
/-! ===== questions of the reference: what they write is laid back ===== -/
def gm_e (c j : Nat) : Prop := md_dc c j ∨ c = 121
def QK (S T : mm_S) : Prop := T = mm_wM S (mm_M T) ∧ ∀ c j, ¬ gm_e c j → mm_M T c j = mm_M (mm_kp S) c j
def QM (S T : mm_S) (G : gb_G) : Prop := RM T G ∧ sf_f gm_F S T ∧ mm_n T = mm_n S ∧ mm_z T = mm_z S
section QMS
variable {S T U : mm_S} {G : gb_G} {P : ab_P} {D : ab_D} {b c d n k i j : Nat} {x w y : Int32} {r : List Nat}
theorem nI_m5 {n : Nat} (h : n < 2 ^ 31) : ¬ nI n = -5 := by
  intro e
  have := congrArg Int32.toInt e
  rw [nI_toInt h, show (-5 : Int32).toInt = -5 from rfl] at this
  omega
theorem QM_rf (hR : RM S G) : QM S S G := ⟨hR, sf_rf, rfl, rfl⟩
theorem QM_tr (h : QM S T G) (h2 : QM T U G) : QM S U G := ⟨h2.1, sf_tr h.2.1 h2.2.1, h2.2.2.1.trans h.2.2.1, h2.2.2.2.trans h.2.2.2⟩
theorem QM_f (ok : gb_ok G) (hR : RM S G) (h : sf_f gm_F S T) (hw : mm_W T) (hn : mm_n T = mm_n S) (hz : mm_z T = mm_z S) : QM S T G := ⟨RM_q ok h hw hR, h, hn, hz⟩
theorem QM_q (ok : gb_ok G) (hR : RM S G) (h : md_q S T) : QM S T G := QM_f ok hR (mq_F h) (mq_W h hR.1) (by rw [h.1]; rfl) (by rw [h.1]; rfl)
theorem oM_Q (h : QM S T G) {y : Nat} {as : List Value} {v : Value} (e : mm_cl d y as S = some (some v, T)) : oM S d y as v G := ⟨T, e, h.1, gmF_0 h.2.1, h.2.2⟩
theorem QK_kp : QK S (mm_kp S) := ⟨rfl, fun _ _ _ => rfl⟩
theorem QK_W (h : QK S T) (hw : mm_W S) : mm_W T := by rw [h.1]; exact hw
theorem QK_md (h : QK S T) (h2 : md_fr T U) : QK S U := by
  refine ⟨?_, fun c j hc => (h2.2 c j (fun e => hc (Or.inl e))).trans (h.2 c j hc)⟩
  have e := h2.1
  rw [h.1] at e
  exact e
theorem QK_w (h : QK S T) (hc : gm_e c j) : QK S (mm_uM T c j x) := by
  refine ⟨?_, fun c2 j2 h2 => ?_⟩
  · have e : mm_uM T c j x = mm_wM T (mm_M (mm_uM T c j x)) := hp_uMw
    refine e.trans ?_
    generalize mm_M (mm_uM T c j x) = F
    rw [h.1]
    rfl
  · rw [rdn (fun e => h2 (by rw [e.1, e.2]; exact hc))]
    exact h.2 c2 j2 h2
theorem kp_F : sf_f gm_F S (mm_kp S) := by
  refine ⟨fun c j hc => ⟨?_, rfl, rfl⟩, fun _ _ => ⟨rfl, rfl⟩, Nat.le_refl _⟩
  unfold gm_F at hc
  rw [kp_M]
  by_cases h : c = 92
  · subst h
    rw [if_pos rfl, if_neg (by omega), if_neg (by omega), if_neg (by omega), if_neg (by omega), if_neg (by omega), if_neg (by omega), if_neg (by omega)]
  · rw [if_neg h, if_neg (by omega), if_neg (by omega), if_neg (by omega)]
theorem QM_kp (ok : gb_ok G) (hR : RM S G) : QM S (mm_kp S) G := QM_f ok hR kp_F hR.1 rfl rfl
theorem kp_A (ok : gb_ok G) (hR : RM S G) : md_A (mm_kp S) (gP G) (gD G) := RM_A ok (QM_kp ok hR).1
theorem QK_ly (h : QK S T) : sf_f gm_F S (mm_ly T) ∧ mm_n (mm_ly T) = mm_n S ∧ mm_z (mm_ly T) = mm_z S := by
  have e1 : mm_n T = mm_n S := by rw [h.1]; rfl
  have e2 : mm_z T = mm_z S := by rw [h.1]; rfl
  refine ⟨⟨fun c j hc => ⟨?_, by rw [ly_L, h.1]; rfl, by rw [ly_R, h.1]; rfl⟩, fun c _ => ⟨by rw [ly_K, h.1]; rfl, by rw [ly_N, h.1]; rfl⟩, by rw [ly_n, e1]; exact Nat.le_refl _⟩, e1, e2⟩
  have q := h.2
  unfold gm_F at hc
  unfold gm_e md_dc at q
  rw [ly_M]
  by_cases h92 : c = 92
  · subst h92
    rw [if_pos rfl]
    by_cases h13 : j = 13
    · rw [if_pos h13, q 92 51 (by omega), kp_M, h13]; rfl
    rw [if_neg h13]
    by_cases h12 : j = 12
    · rw [if_pos h12, q 92 50 (by omega), kp_M, h12]; rfl
    rw [if_neg h12]
    by_cases h11 : j = 11
    · rw [if_pos h11, q 92 49 (by omega), kp_M, h11]; rfl
    rw [if_neg h11]
    by_cases h10 : j = 10
    · rw [if_pos h10, q 92 48 (by omega), kp_M, h10]; rfl
    rw [if_neg h10]
    by_cases h8 : j = 8
    · rw [if_pos h8, q 92 47 (by omega), kp_M, h8]; rfl
    rw [if_neg h8, q 92 j (by omega)]
    exact (kp_F.1 92 j (by unfold gm_F; omega)).1
  rw [if_neg h92]
  by_cases h98 : j < 6 ∧ c = 98
  · rw [if_pos h98, q 120 j (by omega), kp_M, if_neg (by decide), if_pos ⟨h98.1, rfl⟩, h98.2]
  rw [if_neg h98]
  by_cases h97 : j < 6 ∧ c = 97
  · rw [if_pos h97, q 119 j (by omega), kp_M, if_neg (by decide), if_neg (by omega), if_pos ⟨h97.1, rfl⟩, h97.2]
  rw [if_neg h97]
  by_cases h100 : j < 6 ∧ c = 100
  · rw [if_pos h100, q 118 j (by omega), kp_M, if_neg (by decide), if_neg (by omega), if_neg (by omega), if_pos ⟨h100.1, rfl⟩, h100.2]
  rw [if_neg h100, q c j (by omega)]
  exact (kp_F.1 c j (by unfold gm_F; omega)).1
theorem QM_ly (ok : gb_ok G) (hR : RM S G) (h : QK S T) : QM S (mm_ly T) G := QM_f ok hR (QK_ly h).1 (by rw [ly_W]; exact QK_W h hR.1) (QK_ly h).2.1 (QK_ly h).2.2
/-- to the end, from what is kept -/
theorem m173q (ok : gb_ok G) (hR : RM S G) : ∃ T, mm_cl (d + 9) 173 [.ref 92] (mm_kp S) = some (none, T) ∧ QK S T ∧ md_A T (gP G) (ab_fin (gP G) (gD G)) ∧ mm_M T 92 42 = ab_bits (ab_lgs (gP G) (gD G)) (nI 0) ∧ mm_M T 92 43 = ab_refs (ab_lgs (gP G) (gD G)) (nI 0) := by
  obtain ⟨T, g1, g2, g3, g4, g5⟩ := s173 (d := d) (kp_A ok hR)
  exact ⟨T, g1, QK_md QK_kp g2, g3, g4, g5⟩
/-- would: an answer of its own -/
def mn_10 (G : gb_G) (x : Int32) : Int32 := match ab_kw (gK G) x with
  | none => -1
  | some b => nI (ab_act (gP G) (gD G) b (ab_oth (gD G) b))
theorem m_10 (ok : gb_ok G) (hR : RM S G) : oM S (d + 9) 167 [.ref 92, .int x] (.int (mn_10 G x)) G := by
  have hw := hR.1
  have hk : gK G ≤ 6 := ok.1.1.1
  unfold mn_10
  rcases kw_c hk x with ⟨e, -⟩ | ⟨b, hb, e, rfl⟩
  · have k := m129n (d := d + 7) ok hR e
    rw [e]
    refine oM_id hR ?_
    rw [e167, b167_0 (wx_k92 hw), k, hp_bd, hp_ts, b167_5, if_pos rfl, b167_16]
  · have k := m129s (d := d + 7) ok hR hb
    obtain ⟨T, g1, g2⟩ := s166 (d := d) (RM_A ok hR) hb
    rw [e]
    refine oM_Q (QM_q ok hR g2) ?_
    rw [e167, b167_0 (wx_k92 hw), k, hp_bd, hp_ts, b167_5, if_neg i01, b167_8 (wx_k92 hw), g1, hp_bd, hp_ts, b167_13]
theorem m_12 (ok : gb_ok G) (hR : RM S G) : oM S (d + 10) 175 [.ref 92, .int w] (.int (an_12 G w)) G := by
  have hw := hR.1
  have wk : mm_W (mm_kp S) := hw
  have hk : gK G ≤ 6 := ok.1.1.1
  obtain ⟨T, g1, g2, g3, g4, -⟩ := m173q (d := d) ok hR
  have wT := g3.1
  have wl : mm_W (mm_ly T) := wT
  have q := QM_ly ok hR g2
  obtain ⟨t1, t2, t3, t4, t5, t6, t7, t8⟩ := g3.2.2.1
  unfold an_12
  rcases kw_c hk w with ⟨e, h⟩ | ⟨b, hb, e, rfl⟩
  · have k := m129n (d := d + 8) ok hR e
    rw [e]
    simp only
    have st : mm_cl (d + 10) 175 [.ref 92, .int w] S = mm_ex (d + 10) 175 16 [.ref 92, .int w, .null, .null] [.int (if w < nI 10 ∨ nI 13 < w then nI 0 else nI 1)] S := by
      rw [e175, b175_0 (wx_k92 hw), k, hp_bd, hp_ts, b175_5, if_pos rfl, b175_8, s128, hp_bd, hp_ts]
    have st2 : ¬ (w < nI 10 ∨ nI 13 < w) → mm_cl (d + 10) 175 [.ref 92, .int w] S = mm_ex (d + 10) 175 40 [.ref 92, .int w, .int (nI 1), .null] [] T := by
      intro h
      rw [st, if_neg h, b175_16, if_neg i01, b175_19, if_neg i01, b175_32 (wx_k92 hw), s171 hw, hp_bd, hp_tn, b175_36 (wx_k92 wk), g1, hp_bd, hp_tn]
    by_cases w0 : w = nI 10
    · subst w0
      refine oM_Q q ?_
      rw [if_pos rfl, st2 (by decide), b175_40, if_pos (by decide), b175_55, if_pos rfl, b175_61 (wx_o92 wT) (wx_k92 wT), s172 wT, hp_bd, hp_tn, b175_103, t7]
    by_cases w1 : w = nI 11
    · subst w1
      refine oM_Q q ?_
      rw [if_neg w0, if_pos rfl, st2 (by decide), b175_40, if_pos (by decide), b175_55, if_neg (by decide), b175_68, if_pos rfl, b175_74 (wx_o92 wT) (wx_k92 wT), s172 wT, hp_bd, hp_tn, b175_103, t5]
    by_cases w2 : w = nI 12
    · subst w2
      refine oM_Q q ?_
      rw [if_neg w0, if_neg w1, if_pos rfl, st2 (by decide), b175_40, if_pos (by decide), b175_55, if_neg (by decide), b175_68, if_neg (by decide), b175_81, if_pos rfl, b175_87 (wx_o92 wT) (wx_k92 wT), s172 wT, hp_bd, hp_tn, b175_103, t8]
    by_cases w3 : w = nI 13
    · subst w3
      refine oM_Q q ?_
      rw [if_neg w0, if_neg w1, if_neg w2, if_pos rfl, st2 (by decide), b175_40, if_pos (by decide), b175_55, if_neg (by decide), b175_68, if_neg (by decide), b175_81, if_neg (by decide), b175_94 (wx_o92 wT) (wx_k92 wT), s172 wT, hp_bd, hp_tn, b175_103, g4]
    have hn : w < nI 10 ∨ nI 13 < w := by
      rcases kw_d (n := 13) (m := 14) rfl (by decide) w with ⟨-, z, -⟩ | ⟨-, -, -, z, -⟩ | ⟨j, hj, -, rfl, -⟩
      · refine Or.inl ?_
        have := of_eq_true z
        exact Int32.lt_trans this (by decide)
      · exact Or.inr (of_eq_true z)
      · refine Or.inl (nI_lt ?_ (by omega))
        have h0 : j ≠ 10 := fun e => w0 (by rw [e])
        have h1 : j ≠ 11 := fun e => w1 (by rw [e])
        have h2 : j ≠ 12 := fun e => w2 (by rw [e])
        have h3 : j ≠ 13 := fun e => w3 (by rw [e])
        omega
    rw [if_neg w0, if_neg w1, if_neg w2, if_neg w3]
    refine oM_id hR ?_
    rw [st, if_pos hn, b175_16, if_pos rfl, b175_23, if_pos rfl, b175_29]
  · have k := m129s (d := d + 8) ok hR hb
    have cl : (nI b).toNatClampNeg = b := nI_clamp (by omega)
    have hbi : mm_inb (nI b) 6 = true := hp_inb (by omega) (by omega)
    rw [e]
    refine oM_Q q ?_
    rw [e175, b175_0 (wx_k92 hw), k, hp_bd, hp_ts, b175_5, if_neg i01, b175_19, if_neg i01, b175_32 (wx_k92 hw), s171 hw, hp_bd, hp_tn, b175_36 (wx_k92 wk), g1, hp_bd, hp_tn, b175_40, if_neg (nI_ge (by omega) (by omega)), b175_46 (wx_o92 wT) (wx_s92_6 wT) (by rw [wx_g92_6 wT, wx_N98 wT]; exact hbi) (by rw [wx_g92_6 wT]; exact wx_a98 wT) (wx_k92 wT), s172 wT, hp_bd, hp_tn, b175_103, wx_g92_6 wT, cl, show mm_M T 98 b = _ from t4 b hb]
theorem m195_loop (hA : md_A T P D) {t i s : Nat} {it : Nat → Int64} (ht : t < 6) (hi : i < 2 ^ 31) (hs : s ≤ 60) (p2 : mm_M T 111 t = nI s) (p3 : ∀ i, i < s → mm_L T 112 (60 * t + i) = it i) : ∀ (k b : Nat), b + k = ab_kn P → b ≤ s → ∃ x, mm_ex d 195 57 [.ref 92, .int (nI t), .int (nI i), .int (-5), .int (nI b)] [] T = mm_ex d 195 131 [.ref 92, .int (nI t), .int (nI i), .int (ab_ju it (ab_ga D) s i k b), .int x] [] T := by
  have hw := hA.1
  have hk : ab_kn P ≤ 6 := hA.2.2.2.1.1
  have h0 : mm_M T 92 0 = nI (ab_kn P) := hA.2.1.1
  intro k
  induction k with
  | zero =>
    intro b hb _
    refine ⟨nI b, ?_⟩
    rw [b195_57 (wx_o92 hw), h0, if_pos (nI_le (by omega) (by omega))]
    rfl
  | succ k ih =>
    intro b hb hbs
    have e : ab_ju it (ab_ga D) s i (k + 1) b = if s - b ≤ i then nI (100 + b) else if lg_cmp (it (i + b)) (ab_ga D b).toInt64 = nI 0 then ab_ju it (ab_ga D) s i k (b + 1) else nI b := rfl
    have clt : (nI t).toNatClampNeg = t := nI_clamp (by omega)
    have hti : mm_inb (nI t) 6 = true := hp_inb ht (by omega)
    have out : ∀ {m : Nat} {w : Int32}, nI m ≠ -5 → mm_ex d 195 57 [.ref 92, .int (nI t), .int (nI i), .int (nI m), .int w] [] T = mm_ex d 195 131 [.ref 92, .int (nI t), .int (nI i), .int (nI m), .int w] [] T := by
      intro m w hm
      rw [b195_57 (wx_o92 hw)]
      by_cases z : mm_M T 92 0 ≤ w
      · rw [if_pos z]
      · rw [if_neg z, b195_66, if_neg hm]
    have c1 : (nI i ≤ nI s - nI 1 - nI b) = (i + b < s) := by
      have q : nI s - nI 1 - nI b = nI s - nI (1 + b) := by rw [← nI_add, Int32.sub_sub]
      rw [q, Int32.le_iff_toInt_le, nI_toInt hi, pk_sub_toInt (by omega) (by omega)]
      exact propext (by omega)
    have st : mm_ex d 195 57 [.ref 92, .int (nI t), .int (nI i), .int (-5), .int (nI b)] [] T = if i + b < s then mm_ex d 195 96 [.ref 92, .int (nI t), .int (nI i), .int (-5), .int (nI b)] [] T else mm_ex d 195 87 [.ref 92, .int (nI t), .int (nI i), .int (-5), .int (nI b)] [] T := by
      rw [b195_57 (wx_o92 hw), h0, if_neg (nI_ge (by omega) (by omega)), b195_66, if_pos rfl, b195_72 (wx_o92 hw) (wx_s92_31 hw) (by rw [wx_g92_31 hw, wx_N111 hw]; exact hti) (by rw [wx_g92_31 hw]; exact wx_a111 hw), wx_g92_31 hw, clt, p2]
      simp only [c1]
    rw [e]
    by_cases h1 : s - b ≤ i
    · refine ⟨nI (b + 1), ?_⟩
      rw [st, if_neg (by omega), b195_87, if_pos h1, nI_add, nI_add]
      exact out (nI_m5 (by omega))
    · have g : mm_M T 98 b = ab_ga D b := hA.2.2.1.2.2.2.1 b (by omega)
      have cl : (nI b).toNatClampNeg = b := nI_clamp (by omega)
      have hbi : mm_inb (nI b) 6 = true := hp_inb (by omega) (by omega)
      have ex : nI 60 * nI t + nI i + nI b = nI (60 * t + (i + b)) := by rw [nI_mul, nI_add, nI_add, Nat.add_assoc]
      have st2 : mm_ex d 195 57 [.ref 92, .int (nI t), .int (nI i), .int (-5), .int (nI b)] [] T = if lg_cmp (it (i + b)) (ab_ga D b).toInt64 = nI 0 then mm_ex d 195 125 [.ref 92, .int (nI t), .int (nI i), .int (-5), .int (nI b)] [] T else mm_ex d 195 122 [.ref 92, .int (nI t), .int (nI i), .int (-5), .int (nI b)] [] T := by
        rw [st, if_pos (by omega), b195_96 (wx_o92 hw) (wx_s92_32 hw) (by rw [ex, wx_g92_32 hw, wx_N112 hw]; exact hp_inb (by omega) (by omega)) (by rw [wx_g92_32 hw]; exact wx_a112 hw) (wx_s92_6 hw) (by rw [wx_g92_6 hw, wx_N98 hw]; exact hbi) (by rw [wx_g92_6 hw]; exact wx_a98 hw), ex, wx_g92_32 hw, wx_g92_6 hw, cl, g, nI_clamp (by omega), p3 (i + b) (by omega)]
      rw [if_neg h1]
      by_cases h2 : lg_cmp (it (i + b)) (ab_ga D b).toInt64 = nI 0
      · obtain ⟨x, hx⟩ := ih (b + 1) (by omega) (by omega)
        refine ⟨x, ?_⟩
        rw [st2, if_pos h2, if_pos h2, b195_125, nI_add, hx]
      · refine ⟨nI (b + 1), ?_⟩
        rw [st2, if_neg h2, if_neg h2, b195_122, nI_add]
        exact out (nI_m5 (by omega))
theorem m_24 (ok : gb_ok G) (hR : RM S G) {t i : Int32} : oM S (d + 10) 195 [.ref 92, .int t, .int i] (.int (an_24 G t i)) G := by
  have hw := hR.1
  have wk : mm_W (mm_kp S) := hw
  unfold an_24
  rcases kw_c (n := 6) (by decide) t with ⟨e, -⟩ | ⟨t, ht, e, rfl⟩
  · have k := m194n (d := d + 8) (S := S) (a := 92) e
    rw [e]
    refine oM_id hR ?_
    rw [e195, b195_0 (wx_k92 hw), k, hp_bd, hp_ts, b195_5, if_pos rfl, b195_8]
  have k := m194s (d := d + 8) (S := S) (a := 92) ht
  obtain ⟨p1, p2, p3⟩ := hR.2.2.2.2.2.1 t ht
  have cl : (nI t).toNatClampNeg = t := nI_clamp (by omega)
  have hti : mm_inb (nI t) 6 = true := hp_inb ht (by omega)
  rw [e]
  simp only
  have st : mm_cl (d + 10) 195 [.ref 92, .int (nI t), .int i] S = if (gb_p G t).1 = -1 then mm_ex (d + 10) 195 20 [.ref 92, .int (nI t), .int i, .null, .null] [] S else mm_ex (d + 10) 195 23 [.ref 92, .int (nI t), .int i, .null, .null] [] S := by
    rw [e195, b195_0 (wx_k92 hw), k, hp_bd, hp_ts, b195_5, if_neg i01, b195_10 (wx_o92 hw) (wx_s92_30 hw) (by rw [wx_g92_30 hw, wx_N110 hw]; exact hti) (by rw [wx_g92_30 hw]; exact wx_a110 hw), wx_g92_30 hw, cl, p1]
  by_cases hs : (gb_p G t).1 = -1
  · rw [if_pos hs]
    refine oM_id hR ?_
    rw [st, if_pos hs, b195_20]
  rw [if_neg hs]
  rw [if_neg hs, b195_23 (wx_o92 hw) (wx_s92_30 hw) (by rw [wx_g92_30 hw, wx_N110 hw]; exact hti) (by rw [wx_g92_30 hw]; exact wx_a110 hw), wx_g92_30 hw, cl, p1] at st
  by_cases h2 : (gb_p G t).1 = nI 2
  · rw [if_neg (fun e => e h2)]
    rw [if_pos h2, b195_36] at st
    by_cases hi : i < nI 0
    · rw [if_pos hi]
      refine oM_id hR ?_
      rw [st, if_neg (Int32.not_le.mpr hi), b195_40]
    · rw [if_neg hi]
      rw [if_pos (Int32.not_lt.mp hi)] at st
      obtain ⟨n, hn, rfl⟩ := nI_of (x := i) hi
      obtain ⟨T, g1, g2, g3, -⟩ := m173q (d := d) ok hR
      have wT := g3.1
      have sz := tsz ok ht
      have q2 : mm_M T 111 t = nI (gb_p G t).2.1 := (g2.2 111 t (by unfold gm_e md_dc; omega)).trans (((QM_kp ok hR).1.2.2.2.2.2.1 t ht).2.1 hs)
      have q3 : ∀ i, i < (gb_p G t).2.1 → mm_L T 112 (60 * t + i) = (gb_p G t).2.2 i := by
        intro i hi
        rw [g2.1]
        exact p3 i hi
      obtain ⟨x, hx⟩ := m195_loop (d := d + 10) (i := n) g3 ht hn sz q2 q3 (gK G) 0 (Nat.zero_add _) (Nat.zero_le _)
      refine oM_Q (QM_ly ok hR g2) ?_
      rw [st, b195_43 (wx_k92 hw), s171 hw, hp_bd, hp_tn, b195_47 (wx_k92 wk), g1, hp_bd, hp_tn, b195_51, nI_clamp hn, hx, b195_131 (wx_k92 wT), s172 wT, hp_bd, hp_tn, b195_135]
  · rw [if_pos h2]
    rw [if_neg h2, b195_33] at st
    exact oM_id hR st
end QMS
end
section
/-! ===== questions of the reference: off, first, fee, one price ===== -/
section QM1
variable {S T U : mm_S} {G : gb_G} {P : ab_P} {D : ab_D} {b c d n k i j p : Nat} {x w y : Int32} {r : List Nat}
theorem m193_loop (ok : gb_ok G) (hR : RM S G) : ∀ (l : List Nat) (i : Nat) (T : mm_S) (D : ab_D) (v : Value), QK S T → md_A T (gP G) D → gx_f G.1 = (gx_f G.1).take i ++ l → i + l.length = (gx_f G.1).length → ∃ T' w v', mm_ex (d + 9) 193 9 [.ref 92, .int (-5), .int (nI i), v] [] T = mm_ex (d + 9) 193 71 [.ref 92, .int (ab_off (gP G) l i D), .int w, v'] [] T' ∧ QK S T' := by
  have hl12 : (gx_f G.1).length ≤ 12 := ok.1.2.2.2.1
  have h15S : mm_M (mm_kp S) 92 15 = nI (gx_f G.1).length := (QM_kp ok hR).1.2.1.2.2.2.1
  have hfS : ∀ i, i < (gx_f G.1).length → mm_M (mm_kp S) 101 i = nI ((gx_f G.1).getD i 0) := (QM_kp ok hR).1.2.1.2.2.2.2.1
  intro l
  induction l with
  | nil =>
    intro i T D v hQ hA _ hi
    have hw := hA.1
    have h15 : mm_M T 92 15 = nI (gx_f G.1).length := (hQ.2 92 15 (by unfold gm_e md_dc; omega)).trans h15S
    refine ⟨T, nI i, v, ?_, hQ⟩
    rw [b193_9 (wx_o92 hw), h15, if_pos (nI_le (by rw [List.length_nil] at hi; omega) (by rw [List.length_nil] at hi; omega))]
    rfl
  | cons f l ih =>
    intro i T D v hQ hA hf hi
    have hw := hA.1
    rw [List.length_cons] at hi
    have h15 : mm_M T 92 15 = nI (gx_f G.1).length := (hQ.2 92 15 (by unfold gm_e md_dc; omega)).trans h15S
    have hif : i < (gx_f G.1).length := by omega
    have hfi : (gx_f G.1).getD i 0 = f := by
      rw [List.getD_eq_getElem?_getD]
      conv => lhs; rw [hf]
      rw [List.getElem?_append_right (by rw [List.length_take]; omega), List.length_take, Nat.min_eq_left (by omega), Nat.sub_self]
      rfl
    have hfm : f ∈ gx_f G.1 := by rw [hf]; exact List.mem_append.mpr (Or.inr List.mem_cons_self)
    have hf3 := ok.1.2.2.2.2.1 f hfm
    have cl : (nI i).toNatClampNeg = i := nI_clamp (by omega)
    have hbi : mm_inb (nI i) 12 = true := hp_inb (by omega) (by omega)
    have fm : ∀ {U : mm_S}, QK S U → mm_M U 101 i = nI f := fun q => ((q.2 101 i (by unfold gm_e md_dc; omega)).trans (hfS i hif)).trans (by rw [hfi])
    have out : ∀ {U : mm_S} {v : Value}, mm_W U → mm_ex (d + 9) 193 9 [.ref 92, .int (nI i), .int (nI (i + 1)), v] [] U = mm_ex (d + 9) 193 71 [.ref 92, .int (nI i), .int (nI (i + 1)), v] [] U := by
      intro U v hu
      rw [b193_9 (wx_o92 hu)]
      by_cases z : mm_M U 92 15 ≤ nI (i + 1)
      · rw [if_pos z]
      · rw [if_neg z, b193_17, if_neg (nI_m5 (by omega))]
    have st : mm_ex (d + 9) 193 9 [.ref 92, .int (-5), .int (nI i), v] [] T = mm_ex (d + 9) 193 27 [.ref 92, .int (-5), .int (nI i), v] [.int (if ab_com D = true then nI 1 else nI 0)] T := by
      rw [b193_9 (wx_o92 hw), h15, if_neg (nI_ge hif (by omega)), b193_17, if_pos rfl, b193_23 (wx_k92 hw), s168w hA, hp_bd, hp_ts]
    have eo : ab_off (gP G) (f :: l) i D = if ab_com D = true ∧ ab_ha (gP G) D = f then ab_off (gP G) l (i + 1) (ab_turn (gP G) D) else nI i := rfl
    cases hc : ab_com D with
    | false =>
      refine ⟨T, nI (i + 1), .int (nI 0), ?_, hQ⟩
      have nf : ¬ nI 0 = nI f := fun e => by
        have := (nI_eq (by omega) (by omega)).mp e
        omega
      rw [st, b193_27, hc, if_pos (by decide), b193_43 (wx_o92 hw) (wx_s92_16 hw) (by rw [wx_g92_16 hw, wx_N101 hw]; exact hbi) (by rw [wx_g92_16 hw]; exact wx_a101 hw), wx_g92_16 hw, cl, fm hQ, if_neg nf, b193_63, nI_add, out hw, eo, hc, if_neg (fun e => by cases e.1)]
    | true =>
      obtain ⟨b, r, U, T2, hr, hh, g1, g2, g3, g4, g5, -, -⟩ := s169t (d := d) hA hc
      have qU := QK_md hQ (mf_q g2)
      have q2 := QK_md hQ g4
      have wU := mq_W g2 hw
      have hb : b < ab_kn (gP G) := hA.2.2.2.2.2.1 b (by rw [hr]; exact List.mem_cons_self)
      have a3 : ab_ha (gP G) D ≤ 3 := by
        have := (@ab_act_ok (gP G) D b ((ab_row D).length - 1) hA.2.2.2.1 hA.2.2.2.2 hb).2.1
        unfold ab_ha
        rw [hr] at this ⊢
        exact this
      have e2 : (nI (ab_ha (gP G) D) = nI f) = (ab_ha (gP G) D = f) := propext (nI_eq (by omega) (by omega))
      have st2 : mm_ex (d + 9) 193 9 [.ref 92, .int (-5), .int (nI i), v] [] T = if nI (ab_ha (gP G) D) = nI f then mm_ex (d + 9) 193 55 [.ref 92, .int (-5), .int (nI i), .int (nI (ab_ha (gP G) D))] [] U else mm_ex (d + 9) 193 63 [.ref 92, .int (-5), .int (nI i), .int (nI (ab_ha (gP G) D))] [] U := by
        rw [st, b193_27, hc, if_neg (by decide), b193_30 (wx_o92 hw) (wx_s92_9 hw) (by rw [wx_g92_9 hw, wx_N100 hw]; rfl) (by rw [wx_g92_9 hw]; exact wx_a100 hw) (wx_k92 hw), wx_g92_9 hw, show (nI 0).toNatClampNeg = 0 from rfl, hh, g1, hp_bd, hp_ts, b193_40 (wx_o92 wU) (wx_s92_16 wU) (by rw [wx_g92_16 wU, wx_N101 wU]; exact hbi) (by rw [wx_g92_16 wU]; exact wx_a101 wU), wx_g92_16 wU, cl, fm qU]
      by_cases he : ab_ha (gP G) D = f
      · obtain ⟨T3, w, v', g6, g7⟩ := ih (i + 1) T2 (ab_turn (gP G) D) (.int (nI (ab_ha (gP G) D))) q2 g5 (by
          rw [List.take_add_one]
          conv => lhs; rw [hf]
          rw [List.append_assoc]
          congr 1
          have : (gx_f G.1)[i]? = some f := by
            rw [List.getD_eq_getElem?_getD, List.getElem?_eq_getElem hif] at hfi
            rw [List.getElem?_eq_getElem hif]
            exact congrArg some hfi
          rw [this]
          rfl) (by omega)
        refine ⟨T3, w, v', ?_, g7⟩
        rw [st2, if_pos (by rw [e2]; exact he), b193_55 (wx_k92 wU), g3, hp_bd, hp_tn, b193_60, nI_add, g6, eo, if_pos ⟨hc, he⟩]
      · refine ⟨U, nI (i + 1), .int (nI (ab_ha (gP G) D)), ?_, qU⟩
        rw [st2, if_neg (by rw [e2]; exact he), b193_63, nI_add, out wU, eo, if_neg (fun e => he e.2)]
theorem m_23 (ok : gb_ok G) (hR : RM S G) : oM S (d + 9) 193 [.ref 92] (.int (an_23 G)) G := by
  have hw := hR.1
  obtain ⟨T, w, v, g1, g2⟩ := m193_loop (d := d) ok hR (gx_f G.1) 0 (mm_kp S) (gD G) .null QK_kp (kp_A ok hR) (by simp) (by omega)
  have wT := QK_W g2 hw
  refine oM_Q (QM_ly ok hR g2) ?_
  rw [e193, b193_0 (wx_k92 hw), s171 hw, hp_bd, hp_tn, b193_4, g1, b193_71 (wx_k92 wT), s172 wT, hp_bd, hp_tn, b193_75]
  rfl
theorem m176_it (ok : gb_ok G) (hR : RM S G) (hc : ab_com (gD G) = true) {act : Nat} (ha : act = 1 ∨ act = 2 ∨ act = 3) (hx : x = nI 0 ∨ x = nI 1) {s : Nat × Int32} (hs : s.1 ≤ 3) {v6 : Value} : ∃ T v, mm_ex (d + 10) 176 36 [.ref 92, .int x, .int (nI ((ab_row (gD G)).headD 0)), .int (nI s.1), .int s.2, .int (nI act), v6] [] S = mm_ex (d + 10) 176 36 [.ref 92, .int x, .int (nI ((ab_row (gD G)).headD 0)), .int (nI (ab_f1 (gP G) (gD G) (if x = nI 0 then 0 else 1) s act).1), .int (ab_f1 (gP G) (gD G) (if x = nI 0 then 0 else 1) s act).2, .int (nI (act + 1)), v] [] T ∧ QM S T G := by
  have hw := hR.1
  have wk : mm_W (mm_kp S) := hw
  have hA := RM_A ok hR
  obtain ⟨b, r, hr, hlo⟩ := com_row hc
  have hb : b < ab_kn (gP G) := ok.1.2.1.2.1 b (by have e : ab_row (gx_D (gb_x G)) = b :: r := hr; rw [e]; exact List.mem_cons_self)
  have hk : ab_kn (gP G) ≤ 6 := ok.1.1.1
  have ehd : (ab_row (gD G)).headD 0 = b := by rw [hr]; rfl
  have edo : ab_does (gP G) (gD G) act = ab_do (gP G) (gD G) b r act := by unfold ab_does; rw [hr]
  have go : (act = 3 → ab_may (gP G) (gD G) b = true) → ∃ T v, mm_ex (d + 10) 176 56 [.ref 92, .int x, .int (nI b), .int (nI s.1), .int s.2, .int (nI act), v6] [] S = mm_ex (d + 10) 176 36 [.ref 92, .int x, .int (nI b), .int (nI (ab_f1 (gP G) (gD G) (if x = nI 0 then 0 else 1) s act).1), .int (ab_f1 (gP G) (gD G) (if x = nI 0 then 0 else 1) s act).2, .int (nI (act + 1)), v] [] T ∧ QM S T G := by
    intro hm
    obtain ⟨T1, g1, g2, g3, -⟩ := s169 (d := d + 4) (kp_A ok hR) hr ha hlo hm
    obtain ⟨T2, g4, g5, g6, -⟩ := s173 (d := d) g3
    have w1 := g3.1
    have w2 := g6.1
    have q2 : QK S T2 := QK_md (QK_md QK_kp g2) g5
    have wl : mm_W (mm_ly T2) := w2
    obtain ⟨t1, t2, t3, t4, t5, t6, t7, t8⟩ := g6.2.2.1
    have cl : (nI b).toNatClampNeg = b := nI_clamp (by omega)
    have hbi : mm_inb (nI b) 6 = true := hp_inb (by omega) (by omega)
    have st : mm_ex (d + 10) 176 56 [.ref 92, .int x, .int (nI b), .int (nI s.1), .int s.2, .int (nI act), v6] [] S = mm_ex (d + 10) 176 98 [.ref 92, .int x, .int (nI b), .int (nI s.1), .int s.2, .int (nI act), .int (ab_fv (gP G) (gD G) (if x = nI 0 then 0 else 1) act)] [] (mm_ly T2) := by
      unfold ab_fv
      rw [ehd, edo, b176_56 (wx_k92 hw), s171 hw, hp_bd, hp_tn, b176_60 (wx_k92 wk), g1, hp_bd, hp_tn, b176_66 (wx_k92 w1), g4, hp_bd, hp_tn, b176_70]
      by_cases x0 : x = nI 0
      · rw [if_pos x0, if_pos x0, if_pos rfl, b176_74 (wx_o92 w2) (wx_s92_6 w2) (by rw [wx_g92_6 w2, wx_N98 w2]; exact hbi) (by rw [wx_g92_6 w2]; exact wx_a98 w2) (wx_k92 w2), s172 w2, hp_bd, hp_tn, wx_g92_6 w2, cl, show mm_M T2 98 b = _ from t4 b hb]
      · rw [if_neg x0, if_neg x0, if_neg (by decide), b176_83 (wx_o92 w2) (wx_k92 w2), s174 g6, hp_bd, hp_tsc, b176_91 (wx_k92 w2), s172 w2, hp_bd, hp_tn, t7]
    refine ⟨mm_ly T2, .int (ab_fv (gP G) (gD G) (if x = nI 0 then 0 else 1) act), ?_, QM_ly ok hR q2⟩
    have hn3 : ¬ (act = 3 ∧ ab_may (gP G) (gD G) ((ab_row (gD G)).headD 0) = false) := by
      rw [ehd]
      intro e
      rw [hm e.1] at e
      cases e.2
    have e0 : (nI s.1 = nI 0) = (s.1 = 0) := propext (nI_eq (by omega) (by omega))
    rw [st, b176_98]
    unfold ab_f1
    rw [if_neg hn3]
    simp only [e0]
    by_cases h0 : s.1 = 0
    · rw [if_pos h0, if_pos (Or.inl h0), b176_109, nI_add]
    · rw [if_neg h0, b176_102]
      by_cases h1 : s.2 < ab_fv (gP G) (gD G) (if x = nI 0 then 0 else 1) act
      · rw [if_pos (Or.inr h1), if_neg (Int32.not_le.mpr h1), b176_109, nI_add]
      · have nn : ¬ (s.1 = 0 ∨ s.2 < ab_fv (gP G) (gD G) (if x = nI 0 then 0 else 1) act) := fun e => Or.elim e h0 h1
        rw [if_neg nn, if_pos (Int32.not_lt.mp h1), b176_116, nI_add]
  rw [ehd]
  by_cases h3 : act = 3
  · subst h3
    have k160 := s160 (d := d + 8) hA hb
    cases hm : ab_may (gP G) (gD G) b with
    | true =>
      obtain ⟨T, v, g1, g2⟩ := go (fun _ => hm)
      refine ⟨T, v, ?_, g2⟩
      rw [b176_36, if_neg (by decide), b176_42, if_pos rfl, b176_48 (wx_k92 hw), k160, hp_bd, hp_ts, b176_53, hm, if_pos rfl, if_neg i01, g1]
    | false =>
      refine ⟨S, v6, ?_, QM_rf hR⟩
      unfold ab_f1
      rw [ehd, hm, if_pos ⟨rfl, rfl⟩, b176_36, if_neg (by decide), b176_42, if_pos rfl, b176_48 (wx_k92 hw), k160, hp_bd, hp_ts, b176_53, hm, if_pos (by decide), b176_116, nI_add]
  · obtain ⟨T, v, g1, g2⟩ := go (fun e => absurd e h3)
    refine ⟨T, v, ?_, g2⟩
    have n3 : ¬ nI act = nI 3 := fun e => h3 ((nI_eq (by omega) (by omega)).mp e)
    rw [b176_36, if_neg (nI_nlt (by omega) (by omega)), b176_42, if_neg n3, g1]
theorem m_13 (ok : gb_ok G) (hR : RM S G) : oM S (d + 10) 176 [.ref 92, .int x] (.int (an_13 G x)) G := by
  have hw := hR.1
  have hA := RM_A ok hR
  unfold an_13
  by_cases hx : x = nI 0 ∨ x = nI 1
  · rw [if_pos hx]
    have k128 : mm_cl (d + 9) 128 [.int x, .int (nI 0), .int (nI 1)] S = some (some (.int (nI 1)), S) := by
      rcases hx with rfl | rfl
      · exact m128s (n := 1) rfl (by decide) (j := 0) (by decide)
      · exact m128s (n := 1) rfl (by decide) (j := 1) (by decide)
    have st : mm_cl (d + 10) 176 [.ref 92, .int x] S = mm_ex (d + 10) 176 15 [.ref 92, .int x, .null, .null, .null, .null, .null] [.int (if ab_com (gD G) = true then nI 1 else nI 0)] S := by
      rw [e176, b176_0, k128, hp_bd, hp_ts, b176_6, if_neg i01, b176_11 (wx_k92 hw), s168w hA, hp_bd, hp_ts]
    cases hc : ab_com (gD G) with
    | false =>
      refine oM_id hR ?_
      rw [st, hc, b176_15, if_pos (by decide), b176_18, if_neg (by decide)]
    | true =>
      obtain ⟨b, r, hr, hlo⟩ := com_row hc
      have ehd : (ab_row (gD G)).headD 0 = b := by rw [hr]; rfl
      have h0 : mm_M S 100 0 = nI b := by
        have := hR.2.1.2.1.2.1 0 (by have e : ab_row (gx_D (gb_x G)) = b :: r := hr; rw [e]; exact Nat.succ_pos _)
        have e : ab_row (gx_D (gb_x G)) = b :: r := hr
        rw [e] at this
        exact this
      obtain ⟨T1, v1, g1, q1⟩ := m176_it (d := d) (s := (0, nI 0)) (v6 := .null) ok hR hc (act := 1) (by decide) hx (by decide)
      obtain ⟨T2, v2, g2, q2⟩ := m176_it (d := d) (s := ab_f1 (gP G) (gD G) (if x = nI 0 then 0 else 1) (0, nI 0) 1) (v6 := v1) ok q1.1 hc (act := 2) (by decide) hx (f1_le (by decide) (by decide))
      obtain ⟨T3, v3, g3, q3⟩ := m176_it (d := d) (s := ab_f1 (gP G) (gD G) (if x = nI 0 then 0 else 1) (ab_f1 (gP G) (gD G) (if x = nI 0 then 0 else 1) (0, nI 0) 1) 2) (v6 := v2) ok q2.1 hc (act := 3) (by decide) hx (f1_le (f1_le (by decide) (by decide)) (by decide))
      rw [ehd] at g1 g2 g3
      refine oM_Q (QM_tr q1 (QM_tr q2 q3)) ?_
      rw [st, hc, b176_15, if_pos rfl, if_neg i01, b176_21 (wx_o92 hw) (wx_s92_9 hw) (by rw [wx_g92_9 hw, wx_N100 hw]; rfl) (by rw [wx_g92_9 hw]; exact wx_a100 hw), wx_g92_9 hw, show (nI 0).toNatClampNeg = 0 from rfl, h0, if_pos rfl]
      refine Eq.trans g1 (g2.trans (g3.trans ?_))
      rw [b176_36, if_pos (by decide), b176_122]
      rfl
  · rw [if_neg hx]
    have e : ab_kw 2 x = none := by
      rcases kw_d (n := 1) (m := 2) rfl (by decide) x with ⟨z, -⟩ | ⟨z, -⟩ | ⟨j, hj, -, z, -⟩
      · exact z
      · exact z
      · exfalso
        rcases (by omega : j = 0 ∨ j = 1) with rfl | rfl
        · exact hx (Or.inl z)
        · exact hx (Or.inr z)
    refine oM_id hR ?_
    rw [e176, b176_0, m128n (n := 1) rfl (by decide) e, hp_bd, hp_ts, b176_6, if_pos rfl, b176_9]
/-! fee -/
theorem log_len : ∀ (k : Nat) (D : ab_D), (ab_log P k D).length ≤ k := by
  intro k
  induction k with
  | zero => intro D; exact Nat.le_refl _
  | succ k ih =>
    intro D
    show (if ab_com D = true then _ else _ : List (Nat × Nat)).length ≤ _
    split
    · rw [List.length_cons]
      have := ih (ab_turn P D)
      omega
    · exact Nat.zero_le _
theorem refs_c : ∀ (l : List (Nat × Nat)) (n : Nat), n + l.length ≤ 100 → (ab_refs l (nI n) = nI 0) = (n = 0 ∧ ab_nob l = true) := by
  intro l
  induction l with
  | nil =>
    intro n h
    rw [List.length_nil] at h
    show (nI n = nI 0) = (n = 0 ∧ true = true)
    rw [eq_self, and_true]
    exact propext (nI_eq (by omega) (by omega))
  | cons e l ih =>
    intro n h
    rw [List.length_cons] at h
    have e1 : ab_refs (e :: l) (nI n) = ab_refs l (if e.2 = 2 then nI n + nI 1 else nI n) := rfl
    have e2 : ab_nob (e :: l) = (decide (e.2 ≠ 2) && ab_nob l) := rfl
    rw [e1, e2]
    by_cases h2 : e.2 = 2
    · rw [if_pos h2, nI_add, ih (n + 1) (by omega), decide_eq_false (fun q => q h2), Bool.false_and]
      exact propext ⟨fun q => absurd q.1 (by omega), fun q => absurd q.2 (by decide)⟩
    · rw [if_neg h2, ih n (by omega), decide_eq_true h2, Bool.true_and]
theorem fe_A (hA : md_A S P D) {f : Nat} (hf : f < 100) : md_A (mm_uM S 92 27 (nI f)) (gP_fe P f) D := by
  obtain ⟨hw, ⟨p1, p2, p3, ⟨o, p4⟩, -⟩, ⟨h1, h2, h3, h4, h5, h6, h7, h8⟩, oP, oD⟩ := hA
  refine ⟨hw, ⟨(rdn (by omega)).trans p1, fun b hb => ?_, fun i hi => (rdn (by omega)).trans (p3 i hi), ⟨o, mf_sh (fun c i a b => rdn (by omega)) (rdn (by omega)) p4⟩, Or.inr rds⟩, ⟨(rdn (by omega)).trans h1, fun i hi => (rdn (by omega)).trans (h2 i hi), fun i hi => (rdn (by omega)).trans (h3 i hi), fun i hi => (rdn (by omega)).trans (h4 i hi), (rdn (by omega)).trans h5, (rdn (by omega)).trans h6, (rdn (by omega)).trans h7, (rdn (by omega)).trans h8⟩, ⟨oP.1, hf, oP.2.2⟩, oD⟩
  obtain ⟨q1, q2, q3, q4⟩ := p2 b hb
  exact ⟨(rdn (by omega)).trans q1, (rdn (by omega)).trans q2, (rdn (by omega)).trans q3, (rdn (by omega)).trans q4⟩
theorem m183_it (ok : gb_ok G) (hR : RM S G) {f : Nat} (hf : f ≤ 20) {v2 : Value} : ∃ T v, mm_ex (d + 10) 183 2 [.ref 92, .int (nI f), v2] [] S = (if ab_nob (ab_lgs (gP_fe (gP G) f) (gD G)) = true then some (some (.int (nI f)), T) else mm_ex (d + 10) 183 2 [.ref 92, .int (nI (f + 1)), v] [] T) ∧ QM S T G := by
  have hw := hR.1
  have w1 : mm_W (mm_uM S 92 27 (nI f)) := hw
  have A1 := fe_A (RM_A ok hR) (f := f) (by omega)
  have k1 : sf_f gm_F (mm_uM S 92 27 (nI f)) (mm_kp (mm_uM S 92 27 (nI f))) := kp_F
  have wk : mm_W (mm_kp (mm_uM S 92 27 (nI f))) := hw
  have Ak : md_A (mm_kp (mm_uM S 92 27 (nI f))) (gP_fe (gP G) f) (gD G) := by
    obtain ⟨-, hp, hd, oP, oD⟩ := A1
    exact ⟨wk, mt_P (fun c j q => (k1.1 c j (by unfold nX at q; unfold gm_F; omega)).1) hp, mt_D oP.1 (row_le oP oD) (fun c j q => (k1.1 c j (by unfold nX at q; unfold gm_F; omega)).1) hd, oP, oD⟩
  obtain ⟨T, g1, g2, g3, -, g5⟩ := s173 (d := d) Ak
  have wT := g3.1
  have wl : mm_W (mm_ly T) := wT
  have qk : QK (mm_uM S 92 27 (nI f)) T := QK_md QK_kp g2
  obtain ⟨l1, l2, l3⟩ := QK_ly qk
  have h43 : mm_M (mm_kp (mm_uM S 92 27 (nI f))) 92 43 = nI 0 := by rw [kp_M]; rfl
  rw [h43] at g5
  have fin : QM S (mm_uM (mm_ly T) 92 27 (-1)) G := by
    refine QM_f ok hR ⟨fun c j hc => ⟨?_, (l1.1 c j hc).2.1, (l1.1 c j hc).2.2⟩, l1.2.1, l1.2.2⟩ wl l2 l3
    by_cases h : c = 92 ∧ j = 27
    · rw [h.1, h.2, rds]
      exact hR.2.1.2.2.2.2.2.2.symm
    · rw [rdn h, (l1.1 c j hc).1, rdn h]
  refine ⟨_, .int (ab_refs (ab_lgs (gP_fe (gP G) f) (gD G)) (nI 0)), ?_, fin⟩
  have e0 := refs_c (ab_lgs (gP_fe (gP G) f) (gD G)) 0 (by have := @log_len (gP_fe (gP G) f) 60 (gD G); unfold ab_lgs; omega)
  have e1 : (ab_refs (ab_lgs (gP_fe (gP G) f) (gD G)) (nI 0) = nI 0) = (ab_nob (ab_lgs (gP_fe (gP G) f) (gD G)) = true) := by
    rw [e0, eq_self, true_and]
  rw [b183_2, if_neg (nI_nlt (by omega) (by omega)), b183_8 (wx_o92 hw) (wx_k92 hw), s171 w1, hp_bd, hp_tn, b183_17 (wx_k92 wk), g1, hp_bd, hp_tn, b183_21 (wx_o92 wT) (wx_k92 wT), s172 wT, hp_bd, hp_tn, b183_30 (wx_o92 wl), g5]
  simp only [e1]
  split
  · rw [b183_39]
  · rw [b183_41, nI_add]
theorem m183_loop (ok : gb_ok G) : ∀ (k i : Nat) (S : mm_S) (v : Value), RM S G → i + k = 21 → ∃ T, mm_ex (d + 10) 183 2 [.ref 92, .int (nI i), v] [] S = some (some (.int (ab_fee (gP G) (gD G) k i)), T) ∧ QM S T G := by
  intro k
  induction k with
  | zero =>
    intro i S v hR hi
    refine ⟨S, ?_, QM_rf hR⟩
    rw [b183_2, if_pos (nI_lt (by omega) (by omega)), b183_47]
    rfl
  | succ k ih =>
    intro i S v hR hi
    obtain ⟨T, v2, g1, g2⟩ := m183_it (d := d) ok hR (f := i) (by omega) (v2 := v)
    have ef : ab_fee (gP G) (gD G) (k + 1) i = if ab_nob (ab_lgs (gP_fe (gP G) i) (gD G)) = true then nI i else ab_fee (gP G) (gD G) k (i + 1) := rfl
    by_cases hb : ab_nob (ab_lgs (gP_fe (gP G) i) (gD G)) = true
    · refine ⟨T, ?_, g2⟩
      rw [g1, ef, if_pos hb, if_pos hb]
    · obtain ⟨T2, g3, g4⟩ := ih (i + 1) T v2 g2.1 (by omega)
      refine ⟨T2, ?_, QM_tr g2 g4⟩
      rw [g1, ef, if_neg hb, if_neg hb, g3]
theorem m_17 (ok : gb_ok G) (hR : RM S G) : oM S (d + 10) 183 [.ref 92] (.int (an_17 G)) G := by
  obtain ⟨T, g1, g2⟩ := m183_loop (d := d) ok 21 0 S .null hR rfl
  refine oM_Q g2 ?_
  rw [e183, b183_0, g1]
  rfl
/-! one price -/
theorem m184_in (hA : md_A S P D) {s : Nat × Nat} (hp : p < 2 ^ 20) {x1 x2 x3 : Int32} : ∀ (l : List Nat) (i : Nat) (T : mm_S), md_q S T → ab_row D = (ab_row D).take i ++ l → i + l.length = (ab_row D).length → ∃ U, mm_ex (d + 5) 184 31 [.ref 92, .int x1, .int x2, .int x3, .int (nI p), .int (nI (min (ab_lo D) (ab_tk (((ab_row D).take i).map (ab_val P D)) p))), .int (nI i)] [] T = mm_ex (d + 5) 184 81 [.ref 92, .int x1, .int x2, .int x3, .int (nI p), .int (nI (min (ab_lo D) (ab_tk (ab_vs P D) p))), .int (nI (ab_row D).length)] [] U ∧ md_q S U := by
  have hl6 := row_le hA.2.2.2.1 hA.2.2.2.2
  have hlo9 : ab_lo D ≤ 9 := hA.2.2.2.2.2.2.2.2
  intro l
  induction l with
  | nil =>
    intro i T hq hr hi
    have AT := mq_A hq hA
    have hw := AT.1
    rw [List.append_nil] at hr
    rw [List.length_nil] at hi
    refine ⟨T, ?_, hq⟩
    have hi' : i = (ab_row D).length := hi
    rw [b184_31 (wx_o92 hw), AT.2.2.1.1, if_pos (nI_le (by omega) (by omega)), ← hr, hi']
    rfl
  | cons o l ih =>
    intro i T hq hr hi
    have AT := mq_A hq hA
    have hw := AT.1
    rw [List.length_cons] at hi
    have hil : i < (ab_row D).length := by omega
    have hio : (ab_row D)[i]? = some o := by
      rw [hr, List.getElem?_append_right (by rw [List.length_take]; omega), List.length_take, Nat.min_eq_left (by omega), Nat.sub_self]
      rfl
    have hgo : (ab_row D).getD i 0 = o := by rw [List.getD_eq_getElem?_getD, hio]; rfl
    have hom : o ∈ ab_row D := by rw [hr]; exact List.mem_append.mpr (Or.inr List.mem_cons_self)
    have hob := hA.2.2.2.2.2.1 o hom
    have cl : (nI i).toNatClampNeg = i := nI_clamp (by omega)
    have hbi : mm_inb (nI i) 6 = true := hp_inb (by omega) (by omega)
    have h100 := AT.2.2.1.2.1 i hil
    rw [hgo] at h100
    obtain ⟨U, g1, g2⟩ := s156 (d := d) AT hob
    have AU := mq_A g2 AT
    have wU := AU.1
    have et : (ab_row D).take (i + 1) = (ab_row D).take i ++ [o] := by
      rw [List.take_add_one, hio]
      rfl
    have etk : ab_tk (((ab_row D).take (i + 1)).map (ab_val P D)) p = ab_tk (((ab_row D).take i).map (ab_val P D)) p + (if p ≤ ab_val P D o then 1 else 0) := by
      rw [et, List.map_append]
      exact tk_s
    obtain ⟨V, g3, g4⟩ := ih (i + 1) U (mq_tr hq g2) (by
      rw [et, List.append_assoc]
      exact hr) (by omega)
    have hv := @ab_val_le P D o hA.2.2.2.1 hob
    have hn : min (ab_lo D) (ab_tk (((ab_row D).take i).map (ab_val P D)) p) ≤ 9 := Nat.le_trans (Nat.min_le_left _ _) hlo9
    refine ⟨V, ?_, g4⟩
    rw [b184_31 (wx_o92 hw), AT.2.2.1.1, if_neg (nI_ge hil (by omega)), b184_40 (wx_o92 hw) (wx_s92_9 hw) (by rw [wx_g92_9 hw, wx_N100 hw]; exact hbi) (by rw [wx_g92_9 hw]; exact wx_a100 hw) (wx_k92 hw), wx_g92_9 hw, cl, h100, g1, hp_bd, hp_tsc, b184_53]
    by_cases h1 : p ≤ ab_val P D o
    · rw [if_neg (nI_nlt h1 (by omega)), b184_58 (wx_o92 wU), AU.2.2.1.2.2.2.2.2.1]
      rw [if_pos h1] at etk
      by_cases h2 : ab_lo D ≤ min (ab_lo D) (ab_tk (((ab_row D).take i).map (ab_val P D)) p)
      · have em : min (ab_lo D) (ab_tk (((ab_row D).take i).map (ab_val P D)) p + 1) = min (ab_lo D) (ab_tk (((ab_row D).take i).map (ab_val P D)) p) + 0 := by omega
        rw [etk, em] at g3
        rw [if_pos (nI_le h2 (by omega)), b184_71, nI_add, nI_add, g3]
      · have em : min (ab_lo D) (ab_tk (((ab_row D).take i).map (ab_val P D)) p + 1) = min (ab_lo D) (ab_tk (((ab_row D).take i).map (ab_val P D)) p) + 1 := by omega
        rw [etk, em] at g3
        rw [if_neg (nI_ge (by omega) (by omega)), b184_67, nI_add, nI_add, g3]
    · rw [if_neg h1] at etk
      rw [if_pos (nI_lt (by omega) (by omega)), b184_71, nI_add, nI_add, ← g3, etk]
      rfl
theorem m184_loop (hA : md_A S P D) : ∀ (k p : Nat) (T : mm_S) (v5 v6 : Value), md_q S T → p + k = 100 → ∃ U v7 v8, mm_ex (d + 5) 184 18 [.ref 92, .int x, .int (nI (ab_o1 P D p).1), .int (nI (ab_o1 P D p).2), .int (nI p), v5, v6] [] T = mm_ex (d + 5) 184 105 [.ref 92, .int x, .int (nI (ab_o1 P D 100).1), .int (nI (ab_o1 P D 100).2), .int (nI 100), v7, v8] [] U ∧ md_q S U := by
  have hlo9 : ab_lo D ≤ 9 := hA.2.2.2.2.2.2.2.2
  intro k
  induction k with
  | zero =>
    intro p T v5 v6 hq hp
    have e : p = 100 := by omega
    subst e
    refine ⟨T, v5, v6, ?_, hq⟩
    rw [b184_18, if_pos (by decide)]
  | succ k ih =>
    intro p T v5 v6 hq hp
    obtain ⟨U, g1, g2⟩ := m184_in (d := d) (s := (0, 0)) (p := p) hA (by omega) (x1 := x) (x2 := nI (ab_o1 P D p).1) (x3 := nI (ab_o1 P D p).2) (ab_row D) 0 T hq (by simp) (by omega)
    obtain ⟨V, v7, v8, g3, g4⟩ := ih (p + 1) U (.int (nI (min (ab_lo D) (ab_tk (ab_vs P D) p)))) (.int (nI (ab_row D).length)) g2 (by omega)
    have e1 : ab_o1 P D (p + 1) = ab_op (ab_lo D) (ab_vs P D) (ab_o1 P D p) p := by
      unfold ab_o1
      rw [List.range_succ, List.foldl_append]
      rfl
    have l1 := @o1_le P D hlo9 p (by omega)
    have hm : min (ab_lo D) (ab_tk (ab_vs P D) p) ≤ 9 := Nat.le_trans (Nat.min_le_left _ _) hlo9
    have hpm : p * min (ab_lo D) (ab_tk (ab_vs P D) p) ≤ 100 * 9 := Nat.mul_le_mul (by omega) hm
    refine ⟨V, v7, v8, ?_, g4⟩
    have e : min (ab_lo D) (ab_tk (((ab_row D).take 0).map (ab_val P D)) p) = 0 := by
      rw [List.take_zero]
      exact Nat.min_zero _
    rw [e] at g1
    rw [b184_18, if_neg (nI_nlt (by omega) (by omega)), b184_25, g1, b184_81, nI_mul]
    rw [e1] at g3
    unfold ab_op at g3
    by_cases h : (ab_o1 P D p).2 < p * min (ab_lo D) (ab_tk (ab_vs P D) p)
    · rw [if_pos h] at g3
      rw [if_neg (nI_ge h (by omega)), b184_90, nI_mul, nI_add]
      exact g3
    · rw [if_neg h] at g3
      rw [if_pos (nI_le (by omega) (by omega)), b184_99, nI_add]
      exact g3
theorem m_18 (ok : gb_ok G) (hR : RM S G) : oM S (d + 5) 184 [.ref 92, .int x] (.int (an_18 G x)) G := by
  have hw := hR.1
  unfold an_18
  obtain ⟨U, v7, v8, g1, g2⟩ := m184_loop (d := d) (x := x) (RM_A ok hR) 100 0 S .null .null mq_rf (by decide)
  by_cases h0 : x = nI 0
  · refine oM_Q (QM_q ok hR g2) ?_
    have k128 : mm_cl (d + 4) 128 [.int x, .int (nI 0), .int (nI 1)] S = some (some (.int (nI 1)), S) := by
      rw [h0]; exact m128s (n := 1) rfl (by decide) (j := 0) (by decide)
    rw [e184, b184_0, k128, hp_bd, hp_ts, b184_6, if_neg i01, b184_11, if_pos h0]
    refine Eq.trans g1 ?_
    rw [b184_105, if_pos h0, b184_109]
  by_cases h1 : x = nI 1
  · refine oM_Q (QM_q ok hR g2) ?_
    have k128 : mm_cl (d + 4) 128 [.int x, .int (nI 0), .int (nI 1)] S = some (some (.int (nI 1)), S) := by
      rw [h1]; exact m128s (n := 1) rfl (by decide) (j := 1) (by decide)
    rw [e184, b184_0, k128, hp_bd, hp_ts, b184_6, if_neg i01, b184_11, if_neg h0, if_pos h1]
    refine Eq.trans g1 ?_
    rw [b184_105, if_neg h0, b184_113]
  · have e : ab_kw 2 x = none := by
      rcases kw_d (n := 1) (m := 2) rfl (by decide) x with ⟨z, -⟩ | ⟨z, -⟩ | ⟨j, hj, -, z, -⟩
      · exact z
      · exact z
      · exfalso
        rcases (by omega : j = 0 ∨ j = 1) with rfl | rfl
        · exact h0 z
        · exact h1 z
    refine oM_id hR ?_
    rw [e184, b184_0, m128n (n := 1) rfl (by decide) e, hp_bd, hp_ts, b184_6, if_pos rfl, b184_9, if_neg h0, if_neg h1]
end QM1
end
section
/-! ===== questions of the reference: aunt, let by ===== -/
def ab_sg (D : ab_D) (b : Nat) (l : List Nat) (s : Int32) : Int32 := l.foldl (fun s o => if o = b then s else s + ab_ga D o) s
def ab_l2 (u v : Int32) : Bool := decide (nI 0 ≤ u) && decide (nI 0 ≤ v) && decide (nI 0 < u + v)
section QM2
variable {S T U : mm_S} {G : gb_G} {P : ab_P} {D E : ab_D} {b c d n k i j p : Nat} {x w y : Int32} {r l : List Nat}
theorem mP_of (g : ∀ c j, (c = 92 ∧ (j = 0 ∨ j = 18 ∨ j = 27)) ∨ (93 ≤ c ∧ c ≤ 96) ∨ c = 99 ∨ (102 ≤ c ∧ c ≤ 107) → mm_M T c j = mm_M S c j) (hp : md_P S P) : md_P T P := by
  obtain ⟨h1, h2, h3, ⟨o, h4⟩, h5⟩ := hp
  refine ⟨(g 92 0 (by omega)).trans h1, fun b hb => ?_, fun i hi => (g 99 i (by omega)).trans (h3 i hi), ⟨o, mf_sh (fun c i a b => g c i (by omega)) (g 92 18 (by omega)) h4⟩, ?_⟩
  · obtain ⟨q1, q2, q3, q4⟩ := h2 b hb
    exact ⟨(g _ _ (by omega)).trans q1, (g _ _ (by omega)).trans q2, (g _ _ (by omega)).trans q3, (g _ _ (by omega)).trans q4⟩
  · rw [g 92 27 (by omega)]; exact h5
theorem kpA (hA : md_A S P D) : md_A (mm_kp S) P D := by
  obtain ⟨hw, hp, hd, oP, oD⟩ := hA
  have k1 : sf_f gm_F S (mm_kp S) := kp_F
  exact ⟨hw, mt_P (fun c j q => (k1.1 c j (by unfold nX at q; unfold gm_F; omega)).1) hp, mt_D oP.1 (row_le oP oD) (fun c j q => (k1.1 c j (by unfold nX at q; unfold gm_F; omega)).1) hd, oP, oD⟩
/-- another row -/
theorem A_rowM (hA : md_A S P D) (hw : mm_W T) (g : ∀ c j, ¬ (c = 100 ∨ (c = 92 ∧ j = 8) ∨ c = 121) → mm_M T c j = mm_M S c j) (h1 : l.Nodup) (h2 : ∀ b ∈ l, b < ab_kn P) (h8 : mm_M T 92 8 = nI l.length) (hv : ∀ p, p < l.length → mm_M T 100 p = nI (l.getD p 0)) : md_A T P (gD_row D l) := by
  obtain ⟨-, hP, ⟨d1, d2, d3, d4, d5, d6, d7, d8⟩, oP, oD⟩ := hA
  exact ⟨hw, mP_of (fun c j q => g c j (by omega)) hP, ⟨h8, hv, fun b hb => (g _ _ (by omega)).trans (d3 b hb), fun b hb => (g _ _ (by omega)).trans (d4 b hb), (g _ _ (by omega)).trans d5, (g _ _ (by omega)).trans d6, (g _ _ (by omega)).trans d7, (g _ _ (by omega)).trans d8⟩, oP, okD_row oD h1 h2⟩
theorem it_of {l r : List Nat} {i o : Nat} (hr : r = r.take i ++ o :: l) (hi : i < r.length) : r[i]? = some o := by
  rw [hr, List.getElem?_append_right (by rw [List.length_take]; omega), List.length_take, Nat.min_eq_left (by omega), Nat.sub_self]
  rfl
theorem tk1 {r : List Nat} {i o : Nat} (h : r[i]? = some o) : r.take (i + 1) = r.take i ++ [o] := by
  rw [List.take_add_one, h]
  rfl
theorem fl_1 {r : List Nat} {b o : Nat} : (r ++ [o]).filter (fun z => decide (z ≠ b)) = if o = b then r.filter (fun z => decide (z ≠ b)) else r.filter (fun z => decide (z ≠ b)) ++ [o] := by
  rw [List.filter_append]
  by_cases h : o = b
  · rw [if_pos h, List.filter_cons_of_neg (by simpa using h), List.filter_nil, List.append_nil]
  · rw [if_neg h, List.filter_cons_of_pos (by simpa using h), List.filter_nil]
theorem fl_at : ∀ {r : List Nat} {k : Nat}, r.Nodup → ab_at b r = some k → r.filter (fun z => decide (z ≠ b)) = r.eraseIdx k := by
  intro r
  induction r with
  | nil => intro k _ h; cases h
  | cons o r ih =>
    intro k hn h
    rw [List.nodup_cons] at hn
    unfold ab_at at h
    by_cases e : o = b
    · rw [if_pos e] at h
      cases h
      rw [List.filter_cons_of_neg (by simpa using e), List.eraseIdx_cons_zero]
      refine List.filter_eq_self.mpr (fun z hz => ?_)
      refine decide_eq_true (fun e2 => hn.1 ?_)
      rw [e, ← e2]; exact hz
    · rw [if_neg e] at h
      cases h2 : ab_at b r with
      | none => rw [h2] at h; cases h
      | some k2 =>
        rw [h2] at h
        cases h
        rw [List.filter_cons_of_pos (by simpa using e), ih hn.2 h2]
        rfl
theorem i32_r {s t u v : Int32} : (s + u) - (t + v) = (s - t) + (u - v) := by
  simp only [Int32.sub_eq_add_neg, Int32.neg_add]
  ac_rfl
theorem au_sg : ∀ (l : List Nat) (s t : Int32), ab_sg D b l s - ab_sg E b l t = ab_au P D E b l (s - t) := by
  intro l
  induction l with
  | nil => intro s t; rfl
  | cons o l ih =>
    intro s t
    have e1 : ∀ {D : ab_D} {s : Int32}, ab_sg D b (o :: l) s = ab_sg D b l (if o = b then s else s + ab_ga D o) := rfl
    have e2 : ab_au P D E b (o :: l) (s - t) = ab_au P D E b l (if o = b then s - t else (s - t) + (ab_ga D o - ab_ga E o)) := rfl
    rw [e1, e1, e2, ih]
    by_cases h : o = b
    · rw [if_pos h, if_pos h, if_pos h]
    · rw [if_neg h, if_neg h, if_neg h, i32_r]
/-- the row without b, written over itself -/
theorem m185_w (hA : md_A S P D) (h47 : mm_M S 92 47 = nI (ab_row D).length) {x1 x2 : Int32} (h118 : ∀ p, p < (ab_row D).length → mm_M S 118 p = nI ((ab_row D).getD p 0)) (hb : b < 6) : ∀ (l : List Nat) (i : Nat) (T : mm_S), mm_W T → T = mm_wM S (mm_M T) → (∀ c j, c ≠ 100 → mm_M T c j = mm_M S c j) → (∀ p, p < (((ab_row D).take i).filter (fun z => decide (z ≠ b))).length → mm_M T 100 p = nI ((((ab_row D).take i).filter (fun z => decide (z ≠ b))).getD p 0)) → (∀ p, i ≤ p → mm_M T 100 p = mm_M S 100 p) → (((ab_row D).take i).filter (fun z => decide (z ≠ b))).length ≤ i → ab_row D = (ab_row D).take i ++ l → i + l.length = (ab_row D).length → ∃ U w, mm_ex d 185 13 [.ref 92, .int (nI b), .int x2, .int (nI (((ab_row D).take i).filter (fun z => decide (z ≠ b))).length), .int (nI i)] [] T = mm_ex d 185 60 [.ref 92, .int (nI b), .int x2, .int (nI ((ab_row D).filter (fun z => decide (z ≠ b))).length), .int w] [] U ∧ mm_W U ∧ U = mm_wM S (mm_M U) ∧ (∀ c j, c ≠ 100 → mm_M U c j = mm_M S c j) ∧ (∀ p, p < ((ab_row D).filter (fun z => decide (z ≠ b))).length → mm_M U 100 p = nI (((ab_row D).filter (fun z => decide (z ≠ b))).getD p 0)) := by
  have hl6 := row_le hA.2.2.2.1 hA.2.2.2.2
  intro l
  induction l with
  | nil =>
    intro i T hw e hf hv _ _ hr hi
    rw [List.append_nil] at hr
    rw [List.length_nil] at hi
    rw [← hr] at hv ⊢
    refine ⟨T, nI i, ?_, hw, e, hf, hv⟩
    rw [b185_13 (wx_o92 hw), hf _ _ (by decide), h47, if_pos (nI_le (by omega) (by omega))]
  | cons o l ih =>
    intro i T hw e hf hv hk hn hr hi
    rw [List.length_cons] at hi
    have hil : i < (ab_row D).length := by omega
    have hio := it_of hr hil
    have hgo : (ab_row D).getD i 0 = o := by rw [List.getD_eq_getElem?_getD, hio]; rfl
    have hom : o ∈ ab_row D := by rw [hr]; exact List.mem_append.mpr (Or.inr List.mem_cons_self)
    have hob := hA.2.2.2.2.2.1 o hom
    have hk6 : ab_kn P ≤ 6 := hA.2.2.2.1.1
    have ci : (nI i).toNatClampNeg = i := nI_clamp (by omega)
    have bi : mm_inb (nI i) 6 = true := hp_inb (by omega) (by omega)
    have h100 : mm_M T 100 i = nI o := by
      rw [hk i (Nat.le_refl _), ← hgo]
      exact hA.2.2.1.2.1 i hil
    have e1 : (((ab_row D).take (i + 1)).filter (fun z => decide (z ≠ b))) = if o = b then (((ab_row D).take i).filter (fun z => decide (z ≠ b))) else (((ab_row D).take i).filter (fun z => decide (z ≠ b))) ++ [o] := by rw [tk1 hio, fl_1]
    have hrn : ab_row D = (ab_row D).take (i + 1) ++ l := by
      rw [tk1 hio, List.append_assoc]
      exact hr
    have hih := ih (i + 1)
    rw [e1] at hih
    generalize (((ab_row D).take i).filter (fun z => decide (z ≠ b))) = F at *
    have cn : (nI F.length).toNatClampNeg = F.length := nI_clamp (by omega)
    have bn : mm_inb (nI F.length) 6 = true := hp_inb (by omega) (by omega)
    have w1 : mm_W (mm_uM T 100 F.length (nI o)) := hw
    have e2 : mm_uM T 100 F.length (nI o) = mm_wM S (mm_M (mm_uM T 100 F.length (nI o))) := by
      have q : mm_uM T 100 F.length (nI o) = mm_wM T (mm_M (mm_uM T 100 F.length (nI o))) := hp_uMw
      refine q.trans ?_
      generalize mm_M (mm_uM T 100 F.length (nI o)) = K
      rw [e]
      rfl
    have f1 : ∀ c j, c ≠ 100 → mm_M (mm_uM T 100 F.length (nI o)) c j = mm_M S c j := fun c j h => (rdn (by omega)).trans (hf c j h)
    have k1 : ∀ p, i + 1 ≤ p → mm_M (mm_uM T 100 F.length (nI o)) 100 p = mm_M S 100 p := fun p hp => (rdn (by omega)).trans (hk p (by omega))
    have v0 : ∀ p, p < F.length → mm_M (mm_uM T 100 F.length (nI o)) 100 p = nI (F.getD p 0) := fun p hp => (rdn (by omega)).trans (hv p hp)
    have h118T : mm_M (mm_uM T 100 F.length (nI o)) 118 i = nI o := by
      rw [f1 118 i (by decide), h118 i hil, hgo]
    have st : mm_ex d 185 13 [.ref 92, .int (nI b), .int x2, .int (nI F.length), .int (nI i)] [] T = if nI o = nI b then mm_ex d 185 47 [.ref 92, .int (nI b), .int x2, .int (nI F.length), .int (nI i)] [.int (nI F.length)] (mm_uM T 100 F.length (nI o)) else mm_ex d 185 51 [.ref 92, .int (nI b), .int x2, .int (nI F.length), .int (nI i)] [.int (nI F.length)] (mm_uM T 100 F.length (nI o)) := by
      rw [b185_13 (wx_o92 hw), hf _ _ (by decide), h47, if_neg (nI_ge hil (by omega)), b185_22 (wx_o92 hw) (wx_s92_9 hw) (by rw [wx_g92_9 hw, wx_N100 hw]; exact bi) (by rw [wx_g92_9 hw]; exact wx_a100 hw) (by rw [wx_g92_9 hw, wx_N100 hw]; exact bn) (wx_s92_44 hw), wx_g92_9 hw, wx_g92_44 hw, ci, cn, h100, b185_42 (by rw [wx_N118 w1]; exact bi) (wx_a118 w1), ci, h118T]
    have e0 : (nI o = nI b) = (o = b) := propext (nI_eq (by omega) (by omega))
    by_cases h : o = b
    · rw [if_pos h] at hih
      obtain ⟨U, w, g1, g2⟩ := hih (mm_uM T 100 F.length (nI o)) w1 e2 f1 v0 k1 (by omega) hrn (by omega)
      refine ⟨U, w, ?_, g2⟩
      rw [st, if_pos (by rw [e0]; exact h), b185_47, nI_add, nI_add]
      exact g1
    · rw [if_neg h] at hih
      have v1 : ∀ p, p < (F ++ [o]).length → mm_M (mm_uM T 100 F.length (nI o)) 100 p = nI ((F ++ [o]).getD p 0) := by
        intro p hp
        rw [List.length_append] at hp
        have hp1 : p < F.length + 1 := hp
        rw [List.getD_eq_getElem?_getD]
        by_cases q : p = F.length
        · rw [q, rds, List.getElem?_append_right (Nat.le_refl _), Nat.sub_self]; rfl
        · rw [List.getElem?_append_left (by omega), ← List.getD_eq_getElem?_getD]
          exact v0 p (by omega)
      have hn1 : (F ++ [o]).length ≤ i + 1 := by
        rw [List.length_append]
        show F.length + 1 ≤ i + 1
        omega
      obtain ⟨U, w, g1, g2⟩ := hih (mm_uM T 100 F.length (nI o)) w1 e2 f1 v1 k1 hn1 hrn (by omega)
      refine ⟨U, w, ?_, g2⟩
      rw [List.length_append] at g1
      rw [st, if_neg (by rw [e0]; exact h), b185_51, nI_add, nI_add]
      exact g1
theorem m185_s (hA : md_A T P E) {r : List Nat} (h6 : r.length ≤ 6) (hm : ∀ z ∈ r, z < ab_kn P) (h47 : mm_M T 92 47 = nI r.length) (h118 : ∀ p, p < r.length → mm_M T 118 p = nI (r.getD p 0)) (hb : b < 6) {x2 : Int32} : ∀ (l : List Nat) (i : Nat) (s : Int32), r = r.take i ++ l → i + l.length = r.length → ∃ w, mm_ex d 185 74 [.ref 92, .int (nI b), .int x2, .int s, .int (nI i)] [] T = mm_ex d 185 119 [.ref 92, .int (nI b), .int x2, .int (ab_sg E b l s), .int w] [] T := by
  have hw := hA.1
  have hk6 : ab_kn P ≤ 6 := hA.2.2.2.1.1
  intro l
  induction l with
  | nil =>
    intro i s _ hi
    rw [List.length_nil] at hi
    refine ⟨nI i, ?_⟩
    rw [b185_74 (wx_o92 hw), h47, if_pos (nI_le (by omega) (by omega))]
    rfl
  | cons o l ih =>
    intro i s hr hi
    rw [List.length_cons] at hi
    have hil : i < r.length := by omega
    have hio := it_of hr hil
    have hgo : r.getD i 0 = o := by rw [List.getD_eq_getElem?_getD, hio]; rfl
    have hob := hm o (by rw [hr]; exact List.mem_append.mpr (Or.inr List.mem_cons_self))
    have ci : (nI i).toNatClampNeg = i := nI_clamp (by omega)
    have bi : mm_inb (nI i) 6 = true := hp_inb (by omega) (by omega)
    have co : (nI o).toNatClampNeg = o := nI_clamp (by omega)
    have bo : mm_inb (nI o) 6 = true := hp_inb (by omega) (by omega)
    have e0 : (nI o = nI b) = (o = b) := propext (nI_eq (by omega) (by omega))
    have e1 : ab_sg E b (o :: l) s = ab_sg E b l (if o = b then s else s + ab_ga E o) := rfl
    obtain ⟨w, g⟩ := ih (i + 1) (if o = b then s else s + ab_ga E o) (by
      rw [tk1 hio, List.append_assoc]
      exact hr) (by omega)
    refine ⟨w, ?_⟩
    have h18 := h118 i hil
    rw [hgo] at h18
    rw [b185_74 (wx_o92 hw), h47, if_neg (nI_ge hil (by omega)), b185_83 (wx_o92 hw) (wx_s92_44 hw) (by rw [wx_g92_44 hw, wx_N118 hw]; exact bi) (by rw [wx_g92_44 hw]; exact wx_a118 hw), wx_g92_44 hw, ci, h18, e1, ← g]
    by_cases h : o = b
    · rw [if_pos (by rw [e0]; exact h), b185_95, if_pos h, nI_add, show s + nI 0 = s from Int32.add_zero s]
    · rw [if_neg (by rw [e0]; exact h), b185_99 (wx_o92 hw) (wx_s92_6 hw) (wx_s92_44 hw) (by rw [wx_g92_44 hw, wx_N118 hw]; exact bi) (by rw [wx_g92_44 hw]; exact wx_a118 hw) (by rw [wx_g92_44 hw, wx_g92_6 hw, wx_N98 hw, ci, h18]; exact bo) (by rw [wx_g92_6 hw]; exact wx_a98 hw), wx_g92_44 hw, wx_g92_6 hw, ci, h18, co, if_neg h, nI_add, show mm_M T 98 o = _ from hA.2.2.1.2.2.2.1 o hob]
theorem m185 (ok : gb_ok G) (hR : RM S G) (hb : b < gK G) (wo : Bool) : ∃ T, mm_cl (d + 10) 185 [.ref 92, .int (nI b), .int (if wo = true then nI 1 else nI 0)] S = some (some (.int (ab_sg (ab_fin (gP G) (if wo = true then gD_row (gD G) ((ab_row (gD G)).filter (fun z => decide (z ≠ b))) else gD G)) b (ab_row (gD G)) (nI 0))), T) ∧ QM S T G := by
  have hw := hR.1
  have wk : mm_W (mm_kp S) := hw
  have hk6 : gK G ≤ 6 := ok.1.1.1
  have hl6 : (ab_row (gD G)).length ≤ 6 := row_le ok.1.1 ok.1.2.1
  have h47 : mm_M (mm_kp S) 92 47 = nI (ab_row (gD G)).length := by
    rw [kp_M]
    exact hR.2.1.2.1.1
  have h118 : ∀ p, p < (ab_row (gD G)).length → mm_M (mm_kp S) 118 p = nI ((ab_row (gD G)).getD p 0) := by
    intro p hp
    rw [kp_M, if_neg (by decide), if_neg (by omega), if_neg (by omega), if_pos ⟨by omega, rfl⟩]
    exact hR.2.1.2.1.2.1 p hp
  have hm : ∀ z ∈ ab_row (gD G), z < ab_kn (gP G) := ok.1.2.1.2.1
  have fin : ∀ {V : mm_S} {E : ab_D} {x2 : Int32} {v3 v4 : Value}, md_A V (gP G) E → QK S V → ∃ T, mm_bd (mm_cl (d + 9) 173 [.ref 92] V) (fun v S2 => mm_ex (d + 10) 185 69 [.ref 92, .int (nI b), .int x2, v3, v4] (v.toList ++ []) S2) = some (some (.int (ab_sg (ab_fin (gP G) E) b (ab_row (gD G)) (nI 0))), T) ∧ QM S T G := by
    intro V E x2 v3 v4 hV qV
    obtain ⟨T, g1, g2, g3, -⟩ := s173 (d := d) hV
    have qT := QK_md qV g2
    have wT := g3.1
    have wl : mm_W (mm_ly T) := wT
    obtain ⟨w, g4⟩ := m185_s (d := d + 10) (x2 := x2) g3 hl6 hm ((qT.2 92 47 (by unfold gm_e md_dc; omega)).trans h47) (fun p hp => (qT.2 118 p (by unfold gm_e md_dc; omega)).trans (h118 p hp)) (show b < 6 by omega) (ab_row (gD G)) 0 (nI 0) (by simp) (by omega)
    refine ⟨mm_ly T, ?_, QM_ly ok hR qT⟩
    rw [g1, hp_bd, hp_tn, b185_69, g4, b185_119 (wx_k92 wT), s172 wT, hp_bd, hp_tn, b185_123]
  cases wo with
  | false =>
    obtain ⟨T, g1, g2⟩ := fin (x2 := nI 0) (v3 := .null) (v4 := .null) (kp_A ok hR) QK_kp
    refine ⟨T, ?_, g2⟩
    rw [if_neg (by decide), if_neg (by decide), ← g1, e185, b185_0 (wx_k92 hw), s171 hw, hp_bd, hp_tn, b185_4, if_pos rfl, b185_65 (wx_k92 wk)]
  | true =>
    obtain ⟨U, w, g1, g2, g3, g4, g5⟩ := m185_w (d := d + 10) (x1 := nI 0) (x2 := nI 1) (kp_A ok hR) h47 h118 (show b < 6 by omega) (ab_row (gD G)) 0 (mm_kp S) wk rfl (fun _ _ _ => rfl) (fun p hp => absurd hp (Nat.not_lt_zero _)) (fun _ _ => rfl) (Nat.le_refl _) (by simp) (by omega)
    have wU2 : mm_W (mm_uM U 92 8 (nI ((ab_row (gD G)).filter (fun z => decide (z ≠ b))).length)) := g2
    have qU : QK S U := ⟨by
      have e : mm_kp S = mm_wM S (mm_M (mm_kp S)) := rfl
      rw [e] at g3
      exact g3, fun c j hc => g4 c j (by unfold gm_e md_dc at hc; omega)⟩
    have qU2 : QK S (mm_uM U 92 8 (nI ((ab_row (gD G)).filter (fun z => decide (z ≠ b))).length)) := QK_w qU (by unfold gm_e md_dc; omega)
    have AU : md_A (mm_uM U 92 8 (nI ((ab_row (gD G)).filter (fun z => decide (z ≠ b))).length)) (gP G) (gD_row (gD G) ((ab_row (gD G)).filter (fun z => decide (z ≠ b)))) := by
      refine A_rowM (kp_A ok hR) wU2 (fun c j hc => (rdn (by omega)).trans (g4 c j (by omega))) (List.Nodup.sublist List.filter_sublist ok.1.2.1.1) (fun z hz => hm z (List.mem_filter.mp hz).1) rds (fun p hp => (rdn (by omega)).trans (g5 p hp))
    obtain ⟨T, g6, g7⟩ := fin (x2 := nI 1) (v3 := .int (nI ((ab_row (gD G)).filter (fun z => decide (z ≠ b))).length)) (v4 := .int w) AU qU2
    refine ⟨T, ?_, g7⟩
    rw [if_pos rfl, if_pos rfl, ← g6, e185, b185_0 (wx_k92 hw), s171 hw, hp_bd, hp_tn, b185_4, if_neg i01, b185_8]
    refine Eq.trans g1 ?_
    rw [b185_60 (wx_o92 g2) (wx_k92 g2)]
theorem m_19 (ok : gb_ok G) (hR : RM S G) : oM S (d + 11) 186 [.ref 92, .int x] (.int (an_19 G x)) G := by
  have hw := hR.1
  have hk : gK G ≤ 6 := ok.1.1.1
  have hA := RM_A ok hR
  unfold an_19
  rcases kw_c hk x with ⟨e, -⟩ | ⟨b, hb, e, rfl⟩
  · have k := m129n (d := d + 9) ok hR e
    rw [e]
    refine oM_id hR ?_
    rw [e186, b186_0 (wx_k92 hw), k, hp_bd, hp_ts, b186_5, if_pos rfl, b186_8]
  · have k := m129s (d := d + 9) ok hR hb
    have k130 := s130 (d := d + 10) hA (show b < 6 by omega)
    have st : mm_cl (d + 11) 186 [.ref 92, .int (nI b)] S = mm_ex (d + 11) 186 16 [.ref 92, .int (nI b)] [.int (md_fo (ab_at b (ab_row (gD G))))] S := by
      rw [e186, b186_0 (wx_k92 hw), k, hp_bd, hp_ts, b186_5, if_neg i01, b186_11 (wx_k92 hw), k130, hp_bd, hp_ts]
    rw [e]
    simp only
    cases hq : ab_at b (ab_row (gD G)) with
    | none =>
      refine oM_id hR ?_
      rw [st, hq, b186_16, if_pos fo_n5, b186_21]
    | some q =>
      have hql := (at_some hq).1
      have hl6 : (ab_row (gD G)).length ≤ 6 := row_le ok.1.1 ok.1.2.1
      obtain ⟨T, g1, g2⟩ := m185 (d := d) ok hR hb false
      obtain ⟨U, g3, g4⟩ := m185 (d := d) ok g2.1 hb true
      have wT := g2.1.1
      rw [if_neg (by decide), if_neg (by decide)] at g1
      have ef : (ab_row (gD G)).filter (fun z => decide (z ≠ b)) = (ab_row (gD G)).eraseIdx q := fl_at ok.1.2.1.1 hq
      rw [if_pos rfl, if_pos rfl, ef] at g3
      refine oM_Q (QM_tr g2 g4) ?_
      have nn : ¬ md_fo (some q) = -5 := nI_m5 (n := q) (by omega)
      rw [st, hq, b186_16, if_neg nn, b186_27 (wx_k92 hw), g1, hp_bd, hp_ts, b186_33 (wx_k92 wT), g3, hp_bd, hp_tsc, b186_39, au_sg (P := gP G), show nI 0 - nI 0 = nI 0 from rfl]
end QM2
end
section
/-! ===== questions of the reference: let by ===== -/
section QM3
variable {S T U : mm_S} {G : gb_G} {P : ab_P} {D E : ab_D} {b c d n k i j p : Nat} {x w y : Int32} {r l : List Nat}
theorem i_le1 {n k : Nat} (hn : n < 2 ^ 30) (hk : k < 2 ^ 30) : (nI n - nI 1 ≤ nI k) = (n ≤ k + 1) := by
  rw [Int32.le_iff_toInt_le, nI_toInt (by omega), pk_sub_toInt (by omega) (by omega)]
  exact propext (by omega)
theorem m180_it (ok : gb_ok G) (hR : RM S G) (hp : p + 1 < (ab_row (gD G)).length) {s : Nat × Option Nat} (hs : s.1 ≤ 6) {v5 v6 v7 v8 v9 v10 : Value} : ∃ W u5 u6 u7 u8 u9 u10, mm_ex (d + 10) 180 19 [.ref 92, .int x, .int (nI s.1), .int (md_fo s.2), .int (nI p), v5, v6, v7, v8, v9, v10] [] S = mm_ex (d + 10) 180 19 [.ref 92, .int x, .int (nI (ab_l1 ab_l2 (gP G) (gD G) s p).1), .int (md_fo (ab_l1 ab_l2 (gP G) (gD G) s p).2), .int (nI (p + 1)), u5, u6, u7, u8, u9, u10] [] W ∧ QM S W G := by
  have hw := hR.1
  have wk : mm_W (mm_kp S) := hw
  have hl6 : (ab_row (gD G)).length ≤ 6 := row_le ok.1.1 ok.1.2.1
  have hk6 : gK G ≤ 6 := ok.1.1.1
  have u0 := row_i ok (show p < (ab_row (gD G)).length by omega)
  have u1 := row_i ok hp
  have r0 : mm_M S 100 p = nI ((ab_row (gD G)).getD p 0) := hR.2.1.2.1.2.1 p (by have : p < (ab_row (gD G)).length := (by omega); exact this)
  have r1 : mm_M S 100 (p + 1) = nI ((ab_row (gD G)).getD (p + 1) 0) := hR.2.1.2.1.2.1 (p + 1) hp
  have h8 : mm_M S 92 8 = nI (ab_row (gD G)).length := hR.2.1.2.1.1
  have els : ab_ls ab_l2 (gP G) (gD G) p = ab_l2 (ab_ga (ab_fin (gP G) (gD_row (gD G) (ab_sw (ab_row (gD G)) p))) ((ab_row (gD G)).getD p 0) - ab_ga (ab_fin (gP G) (gD G)) ((ab_row (gD G)).getD p 0)) (ab_ga (ab_fin (gP G) (gD_row (gD G) (ab_sw (ab_row (gD G)) p))) ((ab_row (gD G)).getD (p + 1) 0) - ab_ga (ab_fin (gP G) (gD G)) ((ab_row (gD G)).getD (p + 1) 0)) := rfl
  have swg := fun {q : Nat} (hq : q < (ab_row (gD G)).length) => sw_get (q := q) hp hq
  obtain ⟨T1, g1, q1, A1, -⟩ := m173q (d := d) ok hR
  have w1 := A1.1
  have wl1 : mm_W (mm_ly T1) := w1
  have Q1 := QM_ly ok hR q1
  have A2 := RM_A ok Q1.1
  have R1 := Q1.1.2.1.2.1.2.1
  have hga : ∀ {z : Nat}, z < gK G → mm_M T1 98 z = ab_ga (ab_fin (gP G) (gD G)) z := fun {z} hz => A1.2.2.1.2.2.2.1 z hz
  unfold ab_l1
  rw [els]
  generalize hA0 : (ab_row (gD G)).getD p 0 = a0 at *
  generalize hB0 : (ab_row (gD G)).getD (p + 1) 0 = b0 at *
  have wV : mm_W (mm_uM (mm_uM (mm_ly T1) 100 p (nI b0)) 100 (p + 1) (nI a0)) := wl1
  have AV : md_A (mm_uM (mm_uM (mm_ly T1) 100 p (nI b0)) 100 (p + 1) (nI a0)) (gP G) (gD_row (gD G) (ab_sw (ab_row (gD G)) p)) := by
    refine A_rowM A2 wV (fun c j hc => (rdn (by omega)).trans (rdn (by omega))) ((sw_perm hp).nodup_iff.mpr ok.1.2.1.1) (fun z hz => ok.1.2.1.2.1 z ((sw_perm hp).mem_iff.mp hz)) ((rdn (by omega)).trans ((rdn (by omega)).trans (by rw [sw_len]; exact A2.2.2.1.1))) (fun q hq => ?_)
    rw [sw_len] at hq
    rw [sw_get hp hq, hA0, hB0]
    by_cases z1 : q = p + 1
    · rw [if_pos z1, z1, rds]
    · rw [if_neg z1, rdn (by omega)]
      by_cases z0 : q = p
      · rw [if_pos z0, z0, rds]
      · rw [if_neg z0, rdn (by omega)]
        exact R1 q hq
  have wkV : mm_W (mm_kp (mm_uM (mm_uM (mm_ly T1) 100 p (nI b0)) 100 (p + 1) (nI a0))) := wl1
  obtain ⟨T2, g2, g3, A3, -⟩ := s173 (d := d) (kpA AV)
  have w2 := A3.1
  have wl2 : mm_W (mm_ly T2) := w2
  have q2 : QK (mm_uM (mm_uM (mm_ly T1) 100 p (nI b0)) 100 (p + 1) (nI a0)) T2 := QK_md QK_kp g3
  obtain ⟨l1, l2, l3⟩ := QK_ly q2
  have hga2 : ∀ {z : Nat}, z < gK G → mm_M T2 98 z = ab_ga (ab_fin (gP G) (gD_row (gD G) (ab_sw (ab_row (gD G)) p))) z := fun {z} hz => A3.2.2.1.2.2.2.1 z hz
  have R1p : mm_M (mm_ly T1) 100 p = nI a0 := by rw [← hA0]; exact R1 p (by have : p < (ab_row (gD G)).length := (by omega); exact this)
  have R1q : mm_M (mm_ly T1) 100 (p + 1) = nI b0 := by rw [← hB0]; exact R1 (p + 1) hp
  have fin : QM S (mm_uM (mm_uM (mm_ly T2) 100 p (nI a0)) 100 (p + 1) (nI b0)) G := by
    refine QM_tr Q1 (QM_f ok Q1.1 ⟨fun c j hc => ⟨?_, (l1.1 c j hc).2.1, (l1.1 c j hc).2.2⟩, l1.2.1, l1.2.2⟩ wl2 l2 l3)
    by_cases z1 : c = 100 ∧ j = p + 1
    · rw [z1.1, z1.2, rds, R1q]
    by_cases z0 : c = 100 ∧ j = p
    · rw [rdn z1, z0.1, z0.2, rds, R1p]
    · rw [rdn z1, rdn z0, (l1.1 c j hc).1, rdn z1, rdn z0]
  have c0 : (nI p).toNatClampNeg = p := nI_clamp (by omega)
  have c1 : (nI (p + 1)).toNatClampNeg = p + 1 := nI_clamp (by omega)
  have ca : (nI a0).toNatClampNeg = a0 := nI_clamp (by omega)
  have cb : (nI b0).toNatClampNeg = b0 := nI_clamp (by omega)
  have i0 : mm_inb (nI p) 6 = true := hp_inb (by omega) (by omega)
  have i1 : mm_inb (nI (p + 1)) 6 = true := hp_inb (by omega) (by omega)
  have ia : mm_inb (nI a0) 6 = true := hp_inb (by omega) (by omega)
  have ib : mm_inb (nI b0) 6 = true := hp_inb (by omega) (by omega)
  have e8 : (nI (ab_row (gD G)).length - nI 1 ≤ nI p) = False := by
    rw [i_le1 (by omega) (by omega)]
    exact eq_false (by omega)
  have k1 : mm_cl (d + 9) 171 [.ref 92] S = some (none, mm_kp S) := s171 hw
  have k2 : mm_cl (d + 9) 172 [.ref 92] T1 = some (none, mm_ly T1) := s172 w1
  have k3 : mm_cl (d + 9) 171 [.ref 92] (mm_uM (mm_uM (mm_ly T1) 100 p (nI b0)) 100 (p + 1) (nI a0)) = some (none, mm_kp (mm_uM (mm_uM (mm_ly T1) 100 p (nI b0)) 100 (p + 1) (nI a0))) := s171 wV
  have k4 : mm_cl (d + 9) 172 [.ref 92] T2 = some (none, mm_ly T2) := s172 w2
  generalize hV : mm_uM (mm_uM (mm_ly T1) 100 p (nI b0)) 100 (p + 1) (nI a0) = V at *
  have g1a := hga (z := a0) u0
  have g1b := hga (z := b0) u1
  have g2a := hga2 (z := a0) u0
  have g2b := hga2 (z := b0) u1
  generalize ab_ga (ab_fin (gP G) (gD G)) a0 = x7 at *
  generalize ab_ga (ab_fin (gP G) (gD G)) b0 = x8 at *
  generalize ab_ga (ab_fin (gP G) (gD_row (gD G) (ab_sw (ab_row (gD G)) p))) a0 = y7 at *
  generalize ab_ga (ab_fin (gP G) (gD_row (gD G) (ab_sw (ab_row (gD G)) p))) b0 = y8 at *
  have st : mm_ex (d + 10) 180 19 [.ref 92, .int x, .int (nI s.1), .int (md_fo s.2), .int (nI p), v5, v6, v7, v8, v9, v10] [] S = if y7 - x7 < nI 0 then mm_ex (d + 10) 180 188 [.ref 92, .int x, .int (nI s.1), .int (md_fo s.2), .int (nI p), .int (nI a0), .int (nI b0), .int x7, .int x8, .int (y7 - x7), .int (y8 - x8)] [] (mm_uM (mm_uM (mm_ly T2) 100 p (nI a0)) 100 (p + 1) (nI b0)) else mm_ex (d + 10) 180 161 [.ref 92, .int x, .int (nI s.1), .int (md_fo s.2), .int (nI p), .int (nI a0), .int (nI b0), .int x7, .int x8, .int (y7 - x7), .int (y8 - x8)] [] (mm_uM (mm_uM (mm_ly T2) 100 p (nI a0)) 100 (p + 1) (nI b0)) := by
    simp only [b180_19, b180_30, b180_54, b180_58, b180_80, b180_104, b180_108, b180_136, wx_o92 hw, wx_k92 hw, wx_q92 hw, wx_g92_1 hw, wx_s92_1 hw, wx_N93 hw, wx_a93 hw, wx_g92_2 hw, wx_s92_2 hw, wx_N94 hw, wx_a94 hw, wx_g92_3 hw, wx_s92_3 hw, wx_N95 hw, wx_a95 hw, wx_g92_4 hw, wx_s92_4 hw, wx_N96 hw, wx_a96 hw, wx_g92_5 hw, wx_s92_5 hw, wx_N97 hw, wx_a97 hw, wx_g92_6 hw, wx_s92_6 hw, wx_N98 hw, wx_a98 hw, wx_g92_7 hw, wx_s92_7 hw, wx_N99 hw, wx_a99 hw, wx_g92_9 hw, wx_s92_9 hw, wx_N100 hw, wx_a100 hw, wx_g92_16 hw, wx_s92_16 hw, wx_N101 hw, wx_a101 hw, wx_g92_19 hw, wx_s92_19 hw, wx_N102 hw, wx_a102 hw, wx_g92_20 hw, wx_s92_20 hw, wx_N103 hw, wx_a103 hw, wx_g92_21 hw, wx_s92_21 hw, wx_N104 hw, wx_a104 hw, wx_g92_22 hw, wx_s92_22 hw, wx_N105 hw, wx_a105 hw, wx_g92_23 hw, wx_s92_23 hw, wx_N106 hw, wx_a106 hw, wx_g92_24 hw, wx_s92_24 hw, wx_N107 hw, wx_a107 hw, wx_g92_25 hw, wx_s92_25 hw, wx_N108 hw, wx_a108 hw, wx_g92_29 hw, wx_s92_29 hw, wx_N109 hw, wx_a109 hw, wx_g92_30 hw, wx_s92_30 hw, wx_N110 hw, wx_a110 hw, wx_g92_31 hw, wx_s92_31 hw, wx_N111 hw, wx_a111 hw, wx_g92_32 hw, wx_s92_32 hw, wx_N112 hw, wx_a112 hw, wx_g92_33 hw, wx_s92_33 hw, wx_N113 hw, wx_a113 hw, wx_g92_34 hw, wx_s92_34 hw, wx_N114 hw, wx_a114 hw, wx_g92_35 hw, wx_s92_35 hw, wx_N115 hw, wx_a115 hw, wx_g92_38 hw, wx_s92_38 hw, wx_N116 hw, wx_a116 hw, wx_g92_41 hw, wx_s92_41 hw, wx_N117 hw, wx_a117 hw, wx_g92_44 hw, wx_s92_44 hw, wx_N118 hw, wx_a118 hw, wx_g92_45 hw, wx_s92_45 hw, wx_N119 hw, wx_a119 hw, wx_g92_46 hw, wx_s92_46 hw, wx_N120 hw, wx_a120 hw, wx_g92_52 hw, wx_s92_52 hw, wx_N121 hw, wx_a121 hw, wx_g92_55 hw, wx_s92_55 hw, wx_N122 hw, wx_a122 hw, wx_g92_56 hw, wx_s92_56 hw, wx_N123 hw, wx_a123 hw, wx_g92_57 hw, wx_s92_57 hw, wx_N124 hw, wx_a124 hw, wx_g92_58 hw, wx_s92_58 hw, wx_N125 hw, wx_a125 hw, wx_g92_64 hw, wx_s92_64 hw, wx_N126 hw, wx_a126 hw, wx_g92_65 hw, wx_s92_65 hw, wx_N127 hw, wx_a127 hw, wx_g92_66 hw, wx_s92_66 hw, wx_N128 hw, wx_a128 hw, wx_g92_67 hw, wx_s92_67 hw, wx_N129 hw, wx_a129 hw, wx_g92_68 hw, wx_s92_68 hw, wx_N130 hw, wx_a130 hw, wx_g92_69 hw, wx_s92_69 hw, wx_N131 hw, wx_a131 hw, wx_g92_70 hw, wx_s92_70 hw, wx_N132 hw, wx_a132 hw, wx_g92_71 hw, wx_s92_71 hw, wx_N133 hw, wx_a133 hw, wx_g92_72 hw, wx_s92_72 hw, wx_N134 hw, wx_a134 hw, wx_g92_73 hw, wx_s92_73 hw, wx_N135 hw, wx_a135 hw, wx_g92_75 hw, wx_s92_75 hw, wx_N136 hw, wx_a136 hw, wx_o92 w1, wx_k92 w1, wx_q92 w1, wx_g92_1 w1, wx_s92_1 w1, wx_N93 w1, wx_a93 w1, wx_g92_2 w1, wx_s92_2 w1, wx_N94 w1, wx_a94 w1, wx_g92_3 w1, wx_s92_3 w1, wx_N95 w1, wx_a95 w1, wx_g92_4 w1, wx_s92_4 w1, wx_N96 w1, wx_a96 w1, wx_g92_5 w1, wx_s92_5 w1, wx_N97 w1, wx_a97 w1, wx_g92_6 w1, wx_s92_6 w1, wx_N98 w1, wx_a98 w1, wx_g92_7 w1, wx_s92_7 w1, wx_N99 w1, wx_a99 w1, wx_g92_9 w1, wx_s92_9 w1, wx_N100 w1, wx_a100 w1, wx_g92_16 w1, wx_s92_16 w1, wx_N101 w1, wx_a101 w1, wx_g92_19 w1, wx_s92_19 w1, wx_N102 w1, wx_a102 w1, wx_g92_20 w1, wx_s92_20 w1, wx_N103 w1, wx_a103 w1, wx_g92_21 w1, wx_s92_21 w1, wx_N104 w1, wx_a104 w1, wx_g92_22 w1, wx_s92_22 w1, wx_N105 w1, wx_a105 w1, wx_g92_23 w1, wx_s92_23 w1, wx_N106 w1, wx_a106 w1, wx_g92_24 w1, wx_s92_24 w1, wx_N107 w1, wx_a107 w1, wx_g92_25 w1, wx_s92_25 w1, wx_N108 w1, wx_a108 w1, wx_g92_29 w1, wx_s92_29 w1, wx_N109 w1, wx_a109 w1, wx_g92_30 w1, wx_s92_30 w1, wx_N110 w1, wx_a110 w1, wx_g92_31 w1, wx_s92_31 w1, wx_N111 w1, wx_a111 w1, wx_g92_32 w1, wx_s92_32 w1, wx_N112 w1, wx_a112 w1, wx_g92_33 w1, wx_s92_33 w1, wx_N113 w1, wx_a113 w1, wx_g92_34 w1, wx_s92_34 w1, wx_N114 w1, wx_a114 w1, wx_g92_35 w1, wx_s92_35 w1, wx_N115 w1, wx_a115 w1, wx_g92_38 w1, wx_s92_38 w1, wx_N116 w1, wx_a116 w1, wx_g92_41 w1, wx_s92_41 w1, wx_N117 w1, wx_a117 w1, wx_g92_44 w1, wx_s92_44 w1, wx_N118 w1, wx_a118 w1, wx_g92_45 w1, wx_s92_45 w1, wx_N119 w1, wx_a119 w1, wx_g92_46 w1, wx_s92_46 w1, wx_N120 w1, wx_a120 w1, wx_g92_52 w1, wx_s92_52 w1, wx_N121 w1, wx_a121 w1, wx_g92_55 w1, wx_s92_55 w1, wx_N122 w1, wx_a122 w1, wx_g92_56 w1, wx_s92_56 w1, wx_N123 w1, wx_a123 w1, wx_g92_57 w1, wx_s92_57 w1, wx_N124 w1, wx_a124 w1, wx_g92_58 w1, wx_s92_58 w1, wx_N125 w1, wx_a125 w1, wx_g92_64 w1, wx_s92_64 w1, wx_N126 w1, wx_a126 w1, wx_g92_65 w1, wx_s92_65 w1, wx_N127 w1, wx_a127 w1, wx_g92_66 w1, wx_s92_66 w1, wx_N128 w1, wx_a128 w1, wx_g92_67 w1, wx_s92_67 w1, wx_N129 w1, wx_a129 w1, wx_g92_68 w1, wx_s92_68 w1, wx_N130 w1, wx_a130 w1, wx_g92_69 w1, wx_s92_69 w1, wx_N131 w1, wx_a131 w1, wx_g92_70 w1, wx_s92_70 w1, wx_N132 w1, wx_a132 w1, wx_g92_71 w1, wx_s92_71 w1, wx_N133 w1, wx_a133 w1, wx_g92_72 w1, wx_s92_72 w1, wx_N134 w1, wx_a134 w1, wx_g92_73 w1, wx_s92_73 w1, wx_N135 w1, wx_a135 w1, wx_g92_75 w1, wx_s92_75 w1, wx_N136 w1, wx_a136 w1, wx_o92 wl1, wx_k92 wl1, wx_q92 wl1, wx_g92_1 wl1, wx_s92_1 wl1, wx_N93 wl1, wx_a93 wl1, wx_g92_2 wl1, wx_s92_2 wl1, wx_N94 wl1, wx_a94 wl1, wx_g92_3 wl1, wx_s92_3 wl1, wx_N95 wl1, wx_a95 wl1, wx_g92_4 wl1, wx_s92_4 wl1, wx_N96 wl1, wx_a96 wl1, wx_g92_5 wl1, wx_s92_5 wl1, wx_N97 wl1, wx_a97 wl1, wx_g92_6 wl1, wx_s92_6 wl1, wx_N98 wl1, wx_a98 wl1, wx_g92_7 wl1, wx_s92_7 wl1, wx_N99 wl1, wx_a99 wl1, wx_g92_9 wl1, wx_s92_9 wl1, wx_N100 wl1, wx_a100 wl1, wx_g92_16 wl1, wx_s92_16 wl1, wx_N101 wl1, wx_a101 wl1, wx_g92_19 wl1, wx_s92_19 wl1, wx_N102 wl1, wx_a102 wl1, wx_g92_20 wl1, wx_s92_20 wl1, wx_N103 wl1, wx_a103 wl1, wx_g92_21 wl1, wx_s92_21 wl1, wx_N104 wl1, wx_a104 wl1, wx_g92_22 wl1, wx_s92_22 wl1, wx_N105 wl1, wx_a105 wl1, wx_g92_23 wl1, wx_s92_23 wl1, wx_N106 wl1, wx_a106 wl1, wx_g92_24 wl1, wx_s92_24 wl1, wx_N107 wl1, wx_a107 wl1, wx_g92_25 wl1, wx_s92_25 wl1, wx_N108 wl1, wx_a108 wl1, wx_g92_29 wl1, wx_s92_29 wl1, wx_N109 wl1, wx_a109 wl1, wx_g92_30 wl1, wx_s92_30 wl1, wx_N110 wl1, wx_a110 wl1, wx_g92_31 wl1, wx_s92_31 wl1, wx_N111 wl1, wx_a111 wl1, wx_g92_32 wl1, wx_s92_32 wl1, wx_N112 wl1, wx_a112 wl1, wx_g92_33 wl1, wx_s92_33 wl1, wx_N113 wl1, wx_a113 wl1, wx_g92_34 wl1, wx_s92_34 wl1, wx_N114 wl1, wx_a114 wl1, wx_g92_35 wl1, wx_s92_35 wl1, wx_N115 wl1, wx_a115 wl1, wx_g92_38 wl1, wx_s92_38 wl1, wx_N116 wl1, wx_a116 wl1, wx_g92_41 wl1, wx_s92_41 wl1, wx_N117 wl1, wx_a117 wl1, wx_g92_44 wl1, wx_s92_44 wl1, wx_N118 wl1, wx_a118 wl1, wx_g92_45 wl1, wx_s92_45 wl1, wx_N119 wl1, wx_a119 wl1, wx_g92_46 wl1, wx_s92_46 wl1, wx_N120 wl1, wx_a120 wl1, wx_g92_52 wl1, wx_s92_52 wl1, wx_N121 wl1, wx_a121 wl1, wx_g92_55 wl1, wx_s92_55 wl1, wx_N122 wl1, wx_a122 wl1, wx_g92_56 wl1, wx_s92_56 wl1, wx_N123 wl1, wx_a123 wl1, wx_g92_57 wl1, wx_s92_57 wl1, wx_N124 wl1, wx_a124 wl1, wx_g92_58 wl1, wx_s92_58 wl1, wx_N125 wl1, wx_a125 wl1, wx_g92_64 wl1, wx_s92_64 wl1, wx_N126 wl1, wx_a126 wl1, wx_g92_65 wl1, wx_s92_65 wl1, wx_N127 wl1, wx_a127 wl1, wx_g92_66 wl1, wx_s92_66 wl1, wx_N128 wl1, wx_a128 wl1, wx_g92_67 wl1, wx_s92_67 wl1, wx_N129 wl1, wx_a129 wl1, wx_g92_68 wl1, wx_s92_68 wl1, wx_N130 wl1, wx_a130 wl1, wx_g92_69 wl1, wx_s92_69 wl1, wx_N131 wl1, wx_a131 wl1, wx_g92_70 wl1, wx_s92_70 wl1, wx_N132 wl1, wx_a132 wl1, wx_g92_71 wl1, wx_s92_71 wl1, wx_N133 wl1, wx_a133 wl1, wx_g92_72 wl1, wx_s92_72 wl1, wx_N134 wl1, wx_a134 wl1, wx_g92_73 wl1, wx_s92_73 wl1, wx_N135 wl1, wx_a135 wl1, wx_g92_75 wl1, wx_s92_75 wl1, wx_N136 wl1, wx_a136 wl1, wx_o92 wk, wx_k92 wk, wx_q92 wk, wx_g92_1 wk, wx_s92_1 wk, wx_N93 wk, wx_a93 wk, wx_g92_2 wk, wx_s92_2 wk, wx_N94 wk, wx_a94 wk, wx_g92_3 wk, wx_s92_3 wk, wx_N95 wk, wx_a95 wk, wx_g92_4 wk, wx_s92_4 wk, wx_N96 wk, wx_a96 wk, wx_g92_5 wk, wx_s92_5 wk, wx_N97 wk, wx_a97 wk, wx_g92_6 wk, wx_s92_6 wk, wx_N98 wk, wx_a98 wk, wx_g92_7 wk, wx_s92_7 wk, wx_N99 wk, wx_a99 wk, wx_g92_9 wk, wx_s92_9 wk, wx_N100 wk, wx_a100 wk, wx_g92_16 wk, wx_s92_16 wk, wx_N101 wk, wx_a101 wk, wx_g92_19 wk, wx_s92_19 wk, wx_N102 wk, wx_a102 wk, wx_g92_20 wk, wx_s92_20 wk, wx_N103 wk, wx_a103 wk, wx_g92_21 wk, wx_s92_21 wk, wx_N104 wk, wx_a104 wk, wx_g92_22 wk, wx_s92_22 wk, wx_N105 wk, wx_a105 wk, wx_g92_23 wk, wx_s92_23 wk, wx_N106 wk, wx_a106 wk, wx_g92_24 wk, wx_s92_24 wk, wx_N107 wk, wx_a107 wk, wx_g92_25 wk, wx_s92_25 wk, wx_N108 wk, wx_a108 wk, wx_g92_29 wk, wx_s92_29 wk, wx_N109 wk, wx_a109 wk, wx_g92_30 wk, wx_s92_30 wk, wx_N110 wk, wx_a110 wk, wx_g92_31 wk, wx_s92_31 wk, wx_N111 wk, wx_a111 wk, wx_g92_32 wk, wx_s92_32 wk, wx_N112 wk, wx_a112 wk, wx_g92_33 wk, wx_s92_33 wk, wx_N113 wk, wx_a113 wk, wx_g92_34 wk, wx_s92_34 wk, wx_N114 wk, wx_a114 wk, wx_g92_35 wk, wx_s92_35 wk, wx_N115 wk, wx_a115 wk, wx_g92_38 wk, wx_s92_38 wk, wx_N116 wk, wx_a116 wk, wx_g92_41 wk, wx_s92_41 wk, wx_N117 wk, wx_a117 wk, wx_g92_44 wk, wx_s92_44 wk, wx_N118 wk, wx_a118 wk, wx_g92_45 wk, wx_s92_45 wk, wx_N119 wk, wx_a119 wk, wx_g92_46 wk, wx_s92_46 wk, wx_N120 wk, wx_a120 wk, wx_g92_52 wk, wx_s92_52 wk, wx_N121 wk, wx_a121 wk, wx_g92_55 wk, wx_s92_55 wk, wx_N122 wk, wx_a122 wk, wx_g92_56 wk, wx_s92_56 wk, wx_N123 wk, wx_a123 wk, wx_g92_57 wk, wx_s92_57 wk, wx_N124 wk, wx_a124 wk, wx_g92_58 wk, wx_s92_58 wk, wx_N125 wk, wx_a125 wk, wx_g92_64 wk, wx_s92_64 wk, wx_N126 wk, wx_a126 wk, wx_g92_65 wk, wx_s92_65 wk, wx_N127 wk, wx_a127 wk, wx_g92_66 wk, wx_s92_66 wk, wx_N128 wk, wx_a128 wk, wx_g92_67 wk, wx_s92_67 wk, wx_N129 wk, wx_a129 wk, wx_g92_68 wk, wx_s92_68 wk, wx_N130 wk, wx_a130 wk, wx_g92_69 wk, wx_s92_69 wk, wx_N131 wk, wx_a131 wk, wx_g92_70 wk, wx_s92_70 wk, wx_N132 wk, wx_a132 wk, wx_g92_71 wk, wx_s92_71 wk, wx_N133 wk, wx_a133 wk, wx_g92_72 wk, wx_s92_72 wk, wx_N134 wk, wx_a134 wk, wx_g92_73 wk, wx_s92_73 wk, wx_N135 wk, wx_a135 wk, wx_g92_75 wk, wx_s92_75 wk, wx_N136 wk, wx_a136 wk, wx_o92 wV, wx_k92 wV, wx_q92 wV, wx_g92_1 wV, wx_s92_1 wV, wx_N93 wV, wx_a93 wV, wx_g92_2 wV, wx_s92_2 wV, wx_N94 wV, wx_a94 wV, wx_g92_3 wV, wx_s92_3 wV, wx_N95 wV, wx_a95 wV, wx_g92_4 wV, wx_s92_4 wV, wx_N96 wV, wx_a96 wV, wx_g92_5 wV, wx_s92_5 wV, wx_N97 wV, wx_a97 wV, wx_g92_6 wV, wx_s92_6 wV, wx_N98 wV, wx_a98 wV, wx_g92_7 wV, wx_s92_7 wV, wx_N99 wV, wx_a99 wV, wx_g92_9 wV, wx_s92_9 wV, wx_N100 wV, wx_a100 wV, wx_g92_16 wV, wx_s92_16 wV, wx_N101 wV, wx_a101 wV, wx_g92_19 wV, wx_s92_19 wV, wx_N102 wV, wx_a102 wV, wx_g92_20 wV, wx_s92_20 wV, wx_N103 wV, wx_a103 wV, wx_g92_21 wV, wx_s92_21 wV, wx_N104 wV, wx_a104 wV, wx_g92_22 wV, wx_s92_22 wV, wx_N105 wV, wx_a105 wV, wx_g92_23 wV, wx_s92_23 wV, wx_N106 wV, wx_a106 wV, wx_g92_24 wV, wx_s92_24 wV, wx_N107 wV, wx_a107 wV, wx_g92_25 wV, wx_s92_25 wV, wx_N108 wV, wx_a108 wV, wx_g92_29 wV, wx_s92_29 wV, wx_N109 wV, wx_a109 wV, wx_g92_30 wV, wx_s92_30 wV, wx_N110 wV, wx_a110 wV, wx_g92_31 wV, wx_s92_31 wV, wx_N111 wV, wx_a111 wV, wx_g92_32 wV, wx_s92_32 wV, wx_N112 wV, wx_a112 wV, wx_g92_33 wV, wx_s92_33 wV, wx_N113 wV, wx_a113 wV, wx_g92_34 wV, wx_s92_34 wV, wx_N114 wV, wx_a114 wV, wx_g92_35 wV, wx_s92_35 wV, wx_N115 wV, wx_a115 wV, wx_g92_38 wV, wx_s92_38 wV, wx_N116 wV, wx_a116 wV, wx_g92_41 wV, wx_s92_41 wV, wx_N117 wV, wx_a117 wV, wx_g92_44 wV, wx_s92_44 wV, wx_N118 wV, wx_a118 wV, wx_g92_45 wV, wx_s92_45 wV, wx_N119 wV, wx_a119 wV, wx_g92_46 wV, wx_s92_46 wV, wx_N120 wV, wx_a120 wV, wx_g92_52 wV, wx_s92_52 wV, wx_N121 wV, wx_a121 wV, wx_g92_55 wV, wx_s92_55 wV, wx_N122 wV, wx_a122 wV, wx_g92_56 wV, wx_s92_56 wV, wx_N123 wV, wx_a123 wV, wx_g92_57 wV, wx_s92_57 wV, wx_N124 wV, wx_a124 wV, wx_g92_58 wV, wx_s92_58 wV, wx_N125 wV, wx_a125 wV, wx_g92_64 wV, wx_s92_64 wV, wx_N126 wV, wx_a126 wV, wx_g92_65 wV, wx_s92_65 wV, wx_N127 wV, wx_a127 wV, wx_g92_66 wV, wx_s92_66 wV, wx_N128 wV, wx_a128 wV, wx_g92_67 wV, wx_s92_67 wV, wx_N129 wV, wx_a129 wV, wx_g92_68 wV, wx_s92_68 wV, wx_N130 wV, wx_a130 wV, wx_g92_69 wV, wx_s92_69 wV, wx_N131 wV, wx_a131 wV, wx_g92_70 wV, wx_s92_70 wV, wx_N132 wV, wx_a132 wV, wx_g92_71 wV, wx_s92_71 wV, wx_N133 wV, wx_a133 wV, wx_g92_72 wV, wx_s92_72 wV, wx_N134 wV, wx_a134 wV, wx_g92_73 wV, wx_s92_73 wV, wx_N135 wV, wx_a135 wV, wx_g92_75 wV, wx_s92_75 wV, wx_N136 wV, wx_a136 wV, wx_o92 wkV, wx_k92 wkV, wx_q92 wkV, wx_g92_1 wkV, wx_s92_1 wkV, wx_N93 wkV, wx_a93 wkV, wx_g92_2 wkV, wx_s92_2 wkV, wx_N94 wkV, wx_a94 wkV, wx_g92_3 wkV, wx_s92_3 wkV, wx_N95 wkV, wx_a95 wkV, wx_g92_4 wkV, wx_s92_4 wkV, wx_N96 wkV, wx_a96 wkV, wx_g92_5 wkV, wx_s92_5 wkV, wx_N97 wkV, wx_a97 wkV, wx_g92_6 wkV, wx_s92_6 wkV, wx_N98 wkV, wx_a98 wkV, wx_g92_7 wkV, wx_s92_7 wkV, wx_N99 wkV, wx_a99 wkV, wx_g92_9 wkV, wx_s92_9 wkV, wx_N100 wkV, wx_a100 wkV, wx_g92_16 wkV, wx_s92_16 wkV, wx_N101 wkV, wx_a101 wkV, wx_g92_19 wkV, wx_s92_19 wkV, wx_N102 wkV, wx_a102 wkV, wx_g92_20 wkV, wx_s92_20 wkV, wx_N103 wkV, wx_a103 wkV, wx_g92_21 wkV, wx_s92_21 wkV, wx_N104 wkV, wx_a104 wkV, wx_g92_22 wkV, wx_s92_22 wkV, wx_N105 wkV, wx_a105 wkV, wx_g92_23 wkV, wx_s92_23 wkV, wx_N106 wkV, wx_a106 wkV, wx_g92_24 wkV, wx_s92_24 wkV, wx_N107 wkV, wx_a107 wkV, wx_g92_25 wkV, wx_s92_25 wkV, wx_N108 wkV, wx_a108 wkV, wx_g92_29 wkV, wx_s92_29 wkV, wx_N109 wkV, wx_a109 wkV, wx_g92_30 wkV, wx_s92_30 wkV, wx_N110 wkV, wx_a110 wkV, wx_g92_31 wkV, wx_s92_31 wkV, wx_N111 wkV, wx_a111 wkV, wx_g92_32 wkV, wx_s92_32 wkV, wx_N112 wkV, wx_a112 wkV, wx_g92_33 wkV, wx_s92_33 wkV, wx_N113 wkV, wx_a113 wkV, wx_g92_34 wkV, wx_s92_34 wkV, wx_N114 wkV, wx_a114 wkV, wx_g92_35 wkV, wx_s92_35 wkV, wx_N115 wkV, wx_a115 wkV, wx_g92_38 wkV, wx_s92_38 wkV, wx_N116 wkV, wx_a116 wkV, wx_g92_41 wkV, wx_s92_41 wkV, wx_N117 wkV, wx_a117 wkV, wx_g92_44 wkV, wx_s92_44 wkV, wx_N118 wkV, wx_a118 wkV, wx_g92_45 wkV, wx_s92_45 wkV, wx_N119 wkV, wx_a119 wkV, wx_g92_46 wkV, wx_s92_46 wkV, wx_N120 wkV, wx_a120 wkV, wx_g92_52 wkV, wx_s92_52 wkV, wx_N121 wkV, wx_a121 wkV, wx_g92_55 wkV, wx_s92_55 wkV, wx_N122 wkV, wx_a122 wkV, wx_g92_56 wkV, wx_s92_56 wkV, wx_N123 wkV, wx_a123 wkV, wx_g92_57 wkV, wx_s92_57 wkV, wx_N124 wkV, wx_a124 wkV, wx_g92_58 wkV, wx_s92_58 wkV, wx_N125 wkV, wx_a125 wkV, wx_g92_64 wkV, wx_s92_64 wkV, wx_N126 wkV, wx_a126 wkV, wx_g92_65 wkV, wx_s92_65 wkV, wx_N127 wkV, wx_a127 wkV, wx_g92_66 wkV, wx_s92_66 wkV, wx_N128 wkV, wx_a128 wkV, wx_g92_67 wkV, wx_s92_67 wkV, wx_N129 wkV, wx_a129 wkV, wx_g92_68 wkV, wx_s92_68 wkV, wx_N130 wkV, wx_a130 wkV, wx_g92_69 wkV, wx_s92_69 wkV, wx_N131 wkV, wx_a131 wkV, wx_g92_70 wkV, wx_s92_70 wkV, wx_N132 wkV, wx_a132 wkV, wx_g92_71 wkV, wx_s92_71 wkV, wx_N133 wkV, wx_a133 wkV, wx_g92_72 wkV, wx_s92_72 wkV, wx_N134 wkV, wx_a134 wkV, wx_g92_73 wkV, wx_s92_73 wkV, wx_N135 wkV, wx_a135 wkV, wx_g92_75 wkV, wx_s92_75 wkV, wx_N136 wkV, wx_a136 wkV, wx_o92 w2, wx_k92 w2, wx_q92 w2, wx_g92_1 w2, wx_s92_1 w2, wx_N93 w2, wx_a93 w2, wx_g92_2 w2, wx_s92_2 w2, wx_N94 w2, wx_a94 w2, wx_g92_3 w2, wx_s92_3 w2, wx_N95 w2, wx_a95 w2, wx_g92_4 w2, wx_s92_4 w2, wx_N96 w2, wx_a96 w2, wx_g92_5 w2, wx_s92_5 w2, wx_N97 w2, wx_a97 w2, wx_g92_6 w2, wx_s92_6 w2, wx_N98 w2, wx_a98 w2, wx_g92_7 w2, wx_s92_7 w2, wx_N99 w2, wx_a99 w2, wx_g92_9 w2, wx_s92_9 w2, wx_N100 w2, wx_a100 w2, wx_g92_16 w2, wx_s92_16 w2, wx_N101 w2, wx_a101 w2, wx_g92_19 w2, wx_s92_19 w2, wx_N102 w2, wx_a102 w2, wx_g92_20 w2, wx_s92_20 w2, wx_N103 w2, wx_a103 w2, wx_g92_21 w2, wx_s92_21 w2, wx_N104 w2, wx_a104 w2, wx_g92_22 w2, wx_s92_22 w2, wx_N105 w2, wx_a105 w2, wx_g92_23 w2, wx_s92_23 w2, wx_N106 w2, wx_a106 w2, wx_g92_24 w2, wx_s92_24 w2, wx_N107 w2, wx_a107 w2, wx_g92_25 w2, wx_s92_25 w2, wx_N108 w2, wx_a108 w2, wx_g92_29 w2, wx_s92_29 w2, wx_N109 w2, wx_a109 w2, wx_g92_30 w2, wx_s92_30 w2, wx_N110 w2, wx_a110 w2, wx_g92_31 w2, wx_s92_31 w2, wx_N111 w2, wx_a111 w2, wx_g92_32 w2, wx_s92_32 w2, wx_N112 w2, wx_a112 w2, wx_g92_33 w2, wx_s92_33 w2, wx_N113 w2, wx_a113 w2, wx_g92_34 w2, wx_s92_34 w2, wx_N114 w2, wx_a114 w2, wx_g92_35 w2, wx_s92_35 w2, wx_N115 w2, wx_a115 w2, wx_g92_38 w2, wx_s92_38 w2, wx_N116 w2, wx_a116 w2, wx_g92_41 w2, wx_s92_41 w2, wx_N117 w2, wx_a117 w2, wx_g92_44 w2, wx_s92_44 w2, wx_N118 w2, wx_a118 w2, wx_g92_45 w2, wx_s92_45 w2, wx_N119 w2, wx_a119 w2, wx_g92_46 w2, wx_s92_46 w2, wx_N120 w2, wx_a120 w2, wx_g92_52 w2, wx_s92_52 w2, wx_N121 w2, wx_a121 w2, wx_g92_55 w2, wx_s92_55 w2, wx_N122 w2, wx_a122 w2, wx_g92_56 w2, wx_s92_56 w2, wx_N123 w2, wx_a123 w2, wx_g92_57 w2, wx_s92_57 w2, wx_N124 w2, wx_a124 w2, wx_g92_58 w2, wx_s92_58 w2, wx_N125 w2, wx_a125 w2, wx_g92_64 w2, wx_s92_64 w2, wx_N126 w2, wx_a126 w2, wx_g92_65 w2, wx_s92_65 w2, wx_N127 w2, wx_a127 w2, wx_g92_66 w2, wx_s92_66 w2, wx_N128 w2, wx_a128 w2, wx_g92_67 w2, wx_s92_67 w2, wx_N129 w2, wx_a129 w2, wx_g92_68 w2, wx_s92_68 w2, wx_N130 w2, wx_a130 w2, wx_g92_69 w2, wx_s92_69 w2, wx_N131 w2, wx_a131 w2, wx_g92_70 w2, wx_s92_70 w2, wx_N132 w2, wx_a132 w2, wx_g92_71 w2, wx_s92_71 w2, wx_N133 w2, wx_a133 w2, wx_g92_72 w2, wx_s92_72 w2, wx_N134 w2, wx_a134 w2, wx_g92_73 w2, wx_s92_73 w2, wx_N135 w2, wx_a135 w2, wx_g92_75 w2, wx_s92_75 w2, wx_N136 w2, wx_a136 w2, wx_o92 wl2, wx_k92 wl2, wx_q92 wl2, wx_g92_1 wl2, wx_s92_1 wl2, wx_N93 wl2, wx_a93 wl2, wx_g92_2 wl2, wx_s92_2 wl2, wx_N94 wl2, wx_a94 wl2, wx_g92_3 wl2, wx_s92_3 wl2, wx_N95 wl2, wx_a95 wl2, wx_g92_4 wl2, wx_s92_4 wl2, wx_N96 wl2, wx_a96 wl2, wx_g92_5 wl2, wx_s92_5 wl2, wx_N97 wl2, wx_a97 wl2, wx_g92_6 wl2, wx_s92_6 wl2, wx_N98 wl2, wx_a98 wl2, wx_g92_7 wl2, wx_s92_7 wl2, wx_N99 wl2, wx_a99 wl2, wx_g92_9 wl2, wx_s92_9 wl2, wx_N100 wl2, wx_a100 wl2, wx_g92_16 wl2, wx_s92_16 wl2, wx_N101 wl2, wx_a101 wl2, wx_g92_19 wl2, wx_s92_19 wl2, wx_N102 wl2, wx_a102 wl2, wx_g92_20 wl2, wx_s92_20 wl2, wx_N103 wl2, wx_a103 wl2, wx_g92_21 wl2, wx_s92_21 wl2, wx_N104 wl2, wx_a104 wl2, wx_g92_22 wl2, wx_s92_22 wl2, wx_N105 wl2, wx_a105 wl2, wx_g92_23 wl2, wx_s92_23 wl2, wx_N106 wl2, wx_a106 wl2, wx_g92_24 wl2, wx_s92_24 wl2, wx_N107 wl2, wx_a107 wl2, wx_g92_25 wl2, wx_s92_25 wl2, wx_N108 wl2, wx_a108 wl2, wx_g92_29 wl2, wx_s92_29 wl2, wx_N109 wl2, wx_a109 wl2, wx_g92_30 wl2, wx_s92_30 wl2, wx_N110 wl2, wx_a110 wl2, wx_g92_31 wl2, wx_s92_31 wl2, wx_N111 wl2, wx_a111 wl2, wx_g92_32 wl2, wx_s92_32 wl2, wx_N112 wl2, wx_a112 wl2, wx_g92_33 wl2, wx_s92_33 wl2, wx_N113 wl2, wx_a113 wl2, wx_g92_34 wl2, wx_s92_34 wl2, wx_N114 wl2, wx_a114 wl2, wx_g92_35 wl2, wx_s92_35 wl2, wx_N115 wl2, wx_a115 wl2, wx_g92_38 wl2, wx_s92_38 wl2, wx_N116 wl2, wx_a116 wl2, wx_g92_41 wl2, wx_s92_41 wl2, wx_N117 wl2, wx_a117 wl2, wx_g92_44 wl2, wx_s92_44 wl2, wx_N118 wl2, wx_a118 wl2, wx_g92_45 wl2, wx_s92_45 wl2, wx_N119 wl2, wx_a119 wl2, wx_g92_46 wl2, wx_s92_46 wl2, wx_N120 wl2, wx_a120 wl2, wx_g92_52 wl2, wx_s92_52 wl2, wx_N121 wl2, wx_a121 wl2, wx_g92_55 wl2, wx_s92_55 wl2, wx_N122 wl2, wx_a122 wl2, wx_g92_56 wl2, wx_s92_56 wl2, wx_N123 wl2, wx_a123 wl2, wx_g92_57 wl2, wx_s92_57 wl2, wx_N124 wl2, wx_a124 wl2, wx_g92_58 wl2, wx_s92_58 wl2, wx_N125 wl2, wx_a125 wl2, wx_g92_64 wl2, wx_s92_64 wl2, wx_N126 wl2, wx_a126 wl2, wx_g92_65 wl2, wx_s92_65 wl2, wx_N127 wl2, wx_a127 wl2, wx_g92_66 wl2, wx_s92_66 wl2, wx_N128 wl2, wx_a128 wl2, wx_g92_67 wl2, wx_s92_67 wl2, wx_N129 wl2, wx_a129 wl2, wx_g92_68 wl2, wx_s92_68 wl2, wx_N130 wl2, wx_a130 wl2, wx_g92_69 wl2, wx_s92_69 wl2, wx_N131 wl2, wx_a131 wl2, wx_g92_70 wl2, wx_s92_70 wl2, wx_N132 wl2, wx_a132 wl2, wx_g92_71 wl2, wx_s92_71 wl2, wx_N133 wl2, wx_a133 wl2, wx_g92_72 wl2, wx_s92_72 wl2, wx_N134 wl2, wx_a134 wl2, wx_g92_73 wl2, wx_s92_73 wl2, wx_N135 wl2, wx_a135 wl2, wx_g92_75 wl2, wx_s92_75 wl2, wx_N136 wl2, wx_a136 wl2, List.not_mem_nil, false_implies, implies_true, nI_clamp, nI_add, Nat.reducePow, hp_bd, hp_bdi, hp_ts, hp_tn, hp_tsc, hp_tnc, Nat.reduceAdd, Nat.reduceSub, Nat.reduceMul, Nat.reduceLT, Nat.reduceLeDiff, Nat.reduceEqDiff, reduceIte, not_true_eq_false, not_false_eq_true, and_true, true_and, and_self, and_false, false_and, or_true, true_or, or_false, false_or, decide_true, decide_false, Bool.and_true, Bool.true_and, Bool.not_false, Bool.or_false, Bool.false_or, Bool.or_true, Bool.true_or, h8, e8, c0, c1, ca, cb, i0, i1, ia, ib, r0, r1, k1, k2, k3, k4, g1, g2, g1a, g1b, g2a, g2b, hV]
  have no : ab_l2 (y7 - x7) (y8 - x8) = false → mm_ex (d + 10) 180 19 [.ref 92, .int x, .int (nI s.1), .int (md_fo s.2), .int (nI p), v5, v6, v7, v8, v9, v10] [] S = mm_ex (d + 10) 180 188 [.ref 92, .int x, .int (nI s.1), .int (md_fo s.2), .int (nI p), .int (nI a0), .int (nI b0), .int x7, .int x8, .int (y7 - x7), .int (y8 - x8)] [] (mm_uM (mm_uM (mm_ly T2) 100 p (nI a0)) 100 (p + 1) (nI b0)) := by
    intro h
    unfold ab_l2 at h
    rw [st]
    by_cases h1 : y7 - x7 < nI 0
    · rw [if_pos h1]
    rw [if_neg h1, b180_161]
    by_cases h2 : y8 - x8 < nI 0
    · rw [if_pos h2]
    rw [if_neg h2, b180_166]
    by_cases h3 : y7 - x7 + (y8 - x8) ≤ nI 0
    · rw [if_pos h3]
    · rw [decide_eq_true (Int32.not_lt.mp h1), decide_eq_true (Int32.not_lt.mp h2), decide_eq_true (Int32.not_le.mp h3)] at h
      cases h
  cases hl : ab_l2 (y7 - x7) (y8 - x8) with
  | false =>
    rw [if_neg (by decide)]
    exact ⟨_, _, _, _, _, _, _, (no hl).trans (b180_188.trans (by rw [nI_add])), fin⟩
  | true =>
    have e0 : (nI s.1 = nI 0) = (s.1 = 0) := propext (nI_eq (by omega) (by omega))
    unfold ab_l2 at hl
    rw [Bool.and_eq_true, Bool.and_eq_true] at hl
    have h1 := Int32.not_lt.mpr (of_decide_eq_true hl.1.1)
    have h2 := Int32.not_lt.mpr (of_decide_eq_true hl.1.2)
    have h3 := Int32.not_le.mpr (of_decide_eq_true hl.2)
    rw [if_neg h1, b180_161, if_neg h2, b180_166, if_neg h3, b180_174] at st
    rw [if_pos rfl]
    by_cases z : s.1 = 0
    · rw [if_pos (by rw [e0]; exact z), b180_178, nI_add, nI_add] at st
      refine ⟨_, .int (nI a0), .int (nI b0), .int x7, .int x8, .int (y7 - x7), .int (y8 - x8), ?_, fin⟩
      rw [st, if_pos z]
      rfl
    · rw [if_neg (by rw [e0]; exact z), b180_183, nI_add, nI_add] at st
      refine ⟨_, .int (nI a0), .int (nI b0), .int x7, .int x8, .int (y7 - x7), .int (y8 - x8), ?_, fin⟩
      rw [st, if_neg z]
theorem m180_loop (ok : gb_ok G) : ∀ (k p : Nat) (S : mm_S) (v5 v6 v7 v8 v9 v10 : Value), RM S G → p + k = (ab_row (gD G)).length - 1 → ∃ W w u5 u6 u7 u8 u9 u10, mm_ex (d + 10) 180 19 [.ref 92, .int x, .int (nI (ab_lb ab_l2 (gP G) (gD G) p).1), .int (md_fo (ab_lb ab_l2 (gP G) (gD G) p).2), .int (nI p), v5, v6, v7, v8, v9, v10] [] S = mm_ex (d + 10) 180 194 [.ref 92, .int x, .int (nI (ab_lb ab_l2 (gP G) (gD G) ((ab_row (gD G)).length - 1)).1), .int (md_fo (ab_lb ab_l2 (gP G) (gD G) ((ab_row (gD G)).length - 1)).2), .int w, u5, u6, u7, u8, u9, u10] [] W ∧ QM S W G := by
  have hl6 : (ab_row (gD G)).length ≤ 6 := row_le ok.1.1 ok.1.2.1
  intro k
  induction k with
  | zero =>
    intro p S v5 v6 v7 v8 v9 v10 hR hp
    have e : p = (ab_row (gD G)).length - 1 := by omega
    have h8 : mm_M S 92 8 = nI (ab_row (gD G)).length := hR.2.1.2.1.1
    have e8 : nI (ab_row (gD G)).length - nI 1 ≤ nI p := by
      rw [i_le1 (by omega) (by omega)]
      omega
    refine ⟨S, nI p, v5, v6, v7, v8, v9, v10, ?_, QM_rf hR⟩
    rw [b180_19 (wx_o92 hR.1), h8, if_pos e8, ← e]
  | succ k ih =>
    intro p S v5 v6 v7 v8 v9 v10 hR hp
    obtain ⟨W, u5, u6, u7, u8, u9, u10, g1, g2⟩ := m180_it (d := d) (x := x) (s := ab_lb ab_l2 (gP G) (gD G) p) (v5 := v5) (v6 := v6) (v7 := v7) (v8 := v8) (v9 := v9) (v10 := v10) ok hR (p := p) (by omega) (Nat.le_trans (lb_le p).1 (by omega))
    have e1 : ab_lb ab_l2 (gP G) (gD G) (p + 1) = ab_l1 ab_l2 (gP G) (gD G) (ab_lb ab_l2 (gP G) (gD G) p) p := by
      unfold ab_lb
      rw [List.range_succ, List.foldl_append]
      rfl
    rw [← e1] at g1
    obtain ⟨W2, w, t5, t6, t7, t8, t9, t10, g3, g4⟩ := ih (p + 1) W u5 u6 u7 u8 u9 u10 g2.1 (by omega)
    exact ⟨W2, w, t5, t6, t7, t8, t9, t10, g1.trans g3, QM_tr g2 g4⟩
theorem k128 (d : Nat) : (x = nI 0 ∨ x = nI 1) ∧ mm_cl d 128 [.int x, .int (nI 0), .int (nI 1)] S = some (some (.int (nI 1)), S) ∨ ¬ (x = nI 0 ∨ x = nI 1) ∧ mm_cl d 128 [.int x, .int (nI 0), .int (nI 1)] S = some (some (.int (nI 0)), S) := by
  by_cases hx : x = nI 0 ∨ x = nI 1
  · refine Or.inl ⟨hx, ?_⟩
    rcases hx with rfl | rfl
    · exact m128s (n := 1) rfl (by decide) (j := 0) (by decide)
    · exact m128s (n := 1) rfl (by decide) (j := 1) (by decide)
  · refine Or.inr ⟨hx, m128n (n := 1) rfl (by decide) ?_⟩
    rcases kw_d (n := 1) (m := 2) rfl (by decide) x with ⟨z, -⟩ | ⟨z, -⟩ | ⟨j, hj, -, z, -⟩
    · exact z
    · exact z
    · exfalso
      rcases (by omega : j = 0 ∨ j = 1) with rfl | rfl
      · exact hx (Or.inl z)
      · exact hx (Or.inr z)
theorem m_15 (ok : gb_ok G) (hR : RM S G) : oM S (d + 10) 180 [.ref 92, .int x] (.int (an_15q ab_l2 G x)) G := by
  have hw := hR.1
  unfold an_15q
  obtain ⟨W, w, u5, u6, u7, u8, u9, u10, g1, g2⟩ := m180_loop (d := d) (x := x) ok ((ab_row (gD G)).length - 1) 0 S .null .null .null .null .null .null hR (by omega)
  rcases k128 (S := S) (x := x) (d + 9) with ⟨hx, k⟩ | ⟨hx, k⟩
  · refine oM_Q g2 ?_
    rw [e180, b180_0, k, hp_bd, hp_ts, b180_6, if_neg i01, b180_11]
    refine Eq.trans g1 ?_
    by_cases h0 : x = nI 0
    · rw [b180_194, if_pos h0, if_pos h0, b180_198]
    · rw [b180_194, if_neg h0, if_neg h0, if_pos (hx.resolve_left h0), b180_202]
  · refine oM_id hR ?_
    rw [e180, b180_0, k, hp_bd, hp_ts, b180_6, if_pos rfl, b180_9, if_neg (fun e => hx (Or.inl e)), if_neg (fun e => hx (Or.inr e))]
end QM3
end
section
/-! ===== questions of the reference: orders ===== -/
def lh_f : Nat → Nat
  | 0 => 1
  | n + 1 => (n + 1) * lh_f n
def lh_l : Nat → List Nat → Nat → List Nat
  | 0, _, _ => []
  | m + 1, L, o => L.getD (o / lh_f m) 0 :: lh_l m (L.eraseIdx (o / lh_f m)) (o % lh_f m)
section QM4
variable {S T U : mm_S} {G : gb_G} {P : ab_P} {D E : ab_D} {b c d n k i j p m o : Nat} {x w y : Int32} {r l L : List Nat}
theorem lf_pos : ∀ n, 0 < lh_f n := by
  intro n
  induction n with
  | zero => exact Nat.one_pos
  | succ n ih => exact Nat.mul_pos (Nat.succ_pos n) ih
theorem lf_le (h : n ≤ 5) : lh_f n ≤ 120 := by
  rcases (by omega : n = 0 ∨ n = 1 ∨ n = 2 ∨ n = 3 ∨ n = 4 ∨ n = 5) with rfl | rfl | rfl | rfl | rfl | rfl <;> decide
theorem ei_perm : ∀ {L : List Nat} {p : Nat}, p < L.length → (L.getD p 0 :: L.eraseIdx p).Perm L := by
  intro L
  induction L with
  | nil => intro p h; exact absurd h (Nat.not_lt_zero _)
  | cons x L ih =>
    intro p h
    cases p with
    | zero => exact List.Perm.refl _
    | succ p =>
      have h2 := ih (Nat.lt_of_succ_lt_succ h)
      show (L.getD p 0 :: x :: L.eraseIdx p).Perm (x :: L)
      exact (List.Perm.swap x (L.getD p 0) (L.eraseIdx p)).trans (h2.cons x)
theorem ei_get {L : List Nat} {q i : Nat} : (L.eraseIdx q).getD i 0 = if i < q then L.getD i 0 else L.getD (i + 1) 0 := by
  rw [List.getD_eq_getElem?_getD, List.getElem?_eraseIdx]
  split
  · rw [List.getD_eq_getElem?_getD]
  · rw [List.getD_eq_getElem?_getD]
theorem lh_pk (h : o < lh_f (m + 1)) : o / lh_f m < m + 1 := by
  refine Nat.div_lt_of_lt_mul ?_
  rw [Nat.mul_comm]
  exact h
theorem lh_perm : ∀ (m : Nat) (L : List Nat) (o : Nat), L.length = m → o < lh_f m → (lh_l m L o).Perm L := by
  intro m
  induction m with
  | zero =>
    intro L o h _
    rw [List.length_eq_zero_iff.mp h]
    exact List.Perm.refl _
  | succ m ih =>
    intro L o h ho
    have hp := lh_pk ho
    have h2 := ih (L.eraseIdx (o / lh_f m)) (o % lh_f m) (by rw [List.length_eraseIdx_of_lt (by omega)]; omega) (Nat.mod_lt _ (lf_pos m))
    exact (h2.cons _).trans (ei_perm (by omega))
theorem lh_len (h : L.length = m) (ho : o < lh_f m) : (lh_l m L o).length = m := by
  rw [(lh_perm m L o h ho).length_eq, h]
theorem s177 (h : n ≤ 5) : mm_cl d 177 [.int (nI n)] S = some (some (.int (nI (lh_f n))), S) := by
  rcases (by omega : n = 0 ∨ n = 1 ∨ n = 2 ∨ n = 3 ∨ n = 4 ∨ n = 5) with rfl | rfl | rfl | rfl | rfl | rfl
  · rw [e177, b177_0, b177_4, if_pos (by decide), b177_19]; rfl
  · rw [e177, b177_0, b177_4, if_pos (by decide), b177_19]; rfl
  · rw [e177, b177_0, b177_4, if_neg (by decide), b177_9, b177_4, if_pos (by decide), b177_19]; rfl
  · rw [e177, b177_0, b177_4, if_neg (by decide), b177_9, b177_4, if_neg (by decide), b177_9, b177_4, if_pos (by decide), b177_19]; rfl
  · rw [e177, b177_0, b177_4, if_neg (by decide), b177_9, b177_4, if_neg (by decide), b177_9, b177_4, if_neg (by decide), b177_9, b177_4, if_pos (by decide), b177_19]; rfl
  · rw [e177, b177_0, b177_4, if_neg (by decide), b177_9, b177_4, if_neg (by decide), b177_9, b177_4, if_neg (by decide), b177_9, b177_4, if_neg (by decide), b177_9, b177_4, if_pos (by decide), b177_19]; rfl
theorem A_121 (hA : md_A S P D) (hw : mm_W T) (g : ∀ c j, c ≠ 121 → mm_M T c j = mm_M S c j) : md_A T P D := A_rowM (l := ab_row D) hA hw (fun c j hc => g c j (by omega)) hA.2.2.2.2.1 hA.2.2.2.2.2.1 ((g _ _ (by decide)).trans hA.2.2.1.1) (fun p hp => (g _ _ (by decide)).trans (hA.2.2.1.2.1 p hp))
theorem wM_u {c j : Nat} (e : T = mm_wM S (mm_M T)) : mm_uM T c j x = mm_wM S (mm_M (mm_uM T c j x)) := by
  have q : mm_uM T c j x = mm_wM T (mm_M (mm_uM T c j x)) := hp_uMw
  refine q.trans ?_
  generalize mm_M (mm_uM T c j x) = K
  rw [e]
  rfl
theorem m178_g (hA : md_A S P D) : ∀ (k b : Nat) (T : mm_S), b + k = ab_kn P → T = mm_wM S (mm_M T) → (∀ c j, c ≠ 121 → mm_M T c j = mm_M S c j) → (∀ i, i < (np_0 b (ab_row D)).length → mm_M T 121 i = nI ((np_0 b (ab_row D)).getD i 0)) → ∃ U, mm_ex (d + 1) 178 4 [.ref 92, .int x, .int (nI (np_0 b (ab_row D)).length), .int (nI b), .null, .null, .null, .null] [] T = mm_ex (d + 1) 178 38 [.ref 92, .int x, .int (nI (np_0 (ab_kn P) (ab_row D)).length), .int (nI (ab_kn P)), .null, .null, .null, .null] [] U ∧ U = mm_wM S (mm_M U) ∧ (∀ c j, c ≠ 121 → mm_M U c j = mm_M S c j) ∧ (∀ i, i < (np_0 (ab_kn P) (ab_row D)).length → mm_M U 121 i = nI ((np_0 (ab_kn P) (ab_row D)).getD i 0)) := by
  have hk : ab_kn P ≤ 6 := hA.2.2.2.1.1
  intro k
  induction k with
  | zero =>
    intro b T hb e hf hv
    have hw : mm_W T := by rw [e]; exact hA.1
    have e2 : b = ab_kn P := by omega
    subst e2
    have h0 : mm_M T 92 0 = nI (ab_kn P) := (hf _ _ (by decide)).trans hA.2.1.1
    refine ⟨T, ?_, e, hf, hv⟩
    rw [b178_4 (wx_o92 hw), h0, if_pos (nI_le (Nat.le_refl _) (by omega))]
  | succ k ih =>
    intro b T hb e hf hv
    have hw : mm_W T := by rw [e]; exact hA.1
    have AT := A_121 hA hw hf
    have h0 : mm_M T 92 0 = nI (ab_kn P) := AT.2.1.1
    have k130 := s130 (d := d) AT (b := b) (by omega)
    have hlen : (np_0 b (ab_row D)).length ≤ b := by
      unfold np_0
      have := List.length_filter_le (fun z => decide (z ∈ ab_row D)) (List.range b)
      rw [List.length_range] at this
      exact this
    have st : mm_ex (d + 1) 178 4 [.ref 92, .int x, .int (nI (np_0 b (ab_row D)).length), .int (nI b), .null, .null, .null, .null] [] T = if b ∈ ab_row D then mm_ex (d + 1) 178 22 [.ref 92, .int x, .int (nI (np_0 b (ab_row D)).length), .int (nI b), .null, .null, .null, .null] [] T else mm_ex (d + 1) 178 32 [.ref 92, .int x, .int (nI (np_0 b (ab_row D)).length), .int (nI b), .null, .null, .null, .null] [] T := by
      rw [b178_4 (wx_o92 hw), h0, if_neg (nI_ge (by omega) (by omega)), b178_12 (wx_k92 hw), k130, hp_bd, hp_ts, b178_17]
      simp only [at_neg AT]
      by_cases hm : b ∈ ab_row D
      · rw [if_neg (fun q => q hm), if_pos hm]
      · rw [if_pos hm, if_neg hm]
    by_cases hm : b ∈ ab_row D
    · have es : np_0 (b + 1) (ab_row D) = np_0 b (ab_row D) ++ [b] := by rw [n0_s, if_pos hm]
      have hih := ih (b + 1) (mm_uM T 121 (np_0 b (ab_row D)).length (nI b)) (by omega) (wM_u e) (fun c j hc => (rdn (by omega)).trans (hf c j hc))
      rw [es] at hih
      generalize np_0 b (ab_row D) = F at *
      have cl : (nI F.length).toNatClampNeg = F.length := nI_clamp (by omega)
      have bi : mm_inb (nI F.length) 6 = true := hp_inb (by omega) (by omega)
      obtain ⟨U, g1, g2⟩ := hih (fun i hi => by
        rw [List.length_append] at hi
        have hi1 : i < F.length + 1 := hi
        rw [List.getD_eq_getElem?_getD]
        by_cases q : i = F.length
        · rw [q, rds, List.getElem?_append_right (Nat.le_refl _), Nat.sub_self]; rfl
        · rw [rdn (by omega), List.getElem?_append_left (by omega), ← List.getD_eq_getElem?_getD]
          exact hv i (by omega))
      refine ⟨U, ?_, g2⟩
      rw [List.length_append] at g1
      rw [st, if_pos hm, b178_22 (wx_o92 hw) (wx_s92_52 hw) (by rw [wx_g92_52 hw]; exact wx_a121 hw) (by rw [wx_g92_52 hw, wx_N121 hw]; exact bi), wx_g92_52 hw, cl, nI_add, nI_add]
      exact g1
    · have es : np_0 (b + 1) (ab_row D) = np_0 b (ab_row D) := by rw [n0_s, if_neg hm, List.append_nil]
      have hih := ih (b + 1) T (by omega) e hf
      rw [es] at hih
      obtain ⟨U, g1, g2⟩ := hih hv
      refine ⟨U, ?_, g2⟩
      rw [st, if_neg hm, b178_32, nI_add]
      exact g1
/-- those behind move up -/
theorem m178_s {m : Nat} (hm : m < 6) {x1 x3 x4 x5 x6 : Int32} : ∀ (q i : Nat) (T : mm_S), i + q = m → mm_W T → ∃ U, mm_ex d 178 95 [.ref 92, .int x1, .int (nI (m + 1)), .int x3, .int x4, .int x5, .int x6, .int (nI i)] [] T = mm_ex d 178 43 [.ref 92, .int x1, .int (nI m), .int x3, .int (x4 + nI 1), .int x5, .int x6, .int (nI m)] [] U ∧ U = mm_wM T (mm_M U) ∧ (∀ c j, c ≠ 121 → mm_M U c j = mm_M T c j) ∧ (∀ j, mm_M U 121 j = if i ≤ j ∧ j < m then mm_M T 121 (j + 1) else mm_M T 121 j) := by
  have s1 : nI (m + 1) - nI 1 = nI m := by rw [pk_sub (by omega), Nat.add_sub_cancel]
  have s2 : nI (m + 1) + (-1) = nI m := by
    rw [← s1, Int32.sub_eq_add_neg]
    congr 1
  intro q
  induction q with
  | zero =>
    intro i T hi hw
    have e : i = m := by omega
    subst e
    refine ⟨T, ?_, rfl, fun _ _ _ => rfl, fun j => (if_neg (by omega)).symm⟩
    rw [b178_95, s1, if_pos (nI_le (Nat.le_refl _) (by omega)), b178_125, s2]
  | succ q ih =>
    intro i T hi hw
    have ci : (nI i).toNatClampNeg = i := nI_clamp (by omega)
    have ci1 : (nI (i + 1)).toNatClampNeg = i + 1 := nI_clamp (by omega)
    have bi : mm_inb (nI i) 6 = true := hp_inb (by omega) (by omega)
    have bi1 : mm_inb (nI (i + 1)) 6 = true := hp_inb (by omega) (by omega)
    have w1 : mm_W (mm_uM T 121 i (mm_M T 121 (i + 1))) := hw
    obtain ⟨U, g1, g2, g3, g4⟩ := ih (i + 1) (mm_uM T 121 i (mm_M T 121 (i + 1))) (by omega) w1
    refine ⟨U, ?_, ?_, fun c j hc => (g3 c j hc).trans (rdn (by omega)), fun j => ?_⟩
    · rw [b178_95, s1, if_neg (nI_ge (by omega) (by omega)), b178_103 (wx_o92 hw) (wx_s92_52 hw) (by rw [wx_g92_52 hw, wx_N121 hw, nI_add]; exact bi1) (by rw [wx_g92_52 hw]; exact wx_a121 hw) (by rw [wx_g92_52 hw, wx_N121 hw]; exact bi), wx_g92_52 hw, ci, nI_add, ci1]
      exact g1
    · have e := g2
      rw [show mm_uM T 121 i (mm_M T 121 (i + 1)) = mm_wM T (mm_M (mm_uM T 121 i (mm_M T 121 (i + 1)))) from hp_uMw] at e
      exact e
    · rw [g4 j]
      by_cases h1 : i + 1 ≤ j ∧ j < m
      · rw [if_pos h1, if_pos ⟨by omega, h1.2⟩, rdn (by omega)]
      · rw [if_neg h1]
        by_cases h2 : j = i
        · rw [h2, rds, if_pos ⟨Nat.le_refl _, by omega⟩]
        · rw [rdn (by omega), if_neg (by omega)]
theorem m178_k {N : Nat} (hN : N ≤ 5) : ∀ (m k o : Nat) (L : List Nat) (T : mm_S) (v5 v6 v7 : Value), mm_W T → mm_M T 92 8 = nI N → k + m = N → L.length = m → o < lh_f m → (∀ i, i < m → mm_M T 121 i = nI (L.getD i 0)) → ∃ U, mm_ex (d + 1) 178 43 [.ref 92, .int x, .int (nI m), .int (nI o), .int (nI k), v5, v6, v7] [] T = some (none, U) ∧ U = mm_wM T (mm_M U) ∧ (∀ c j, c ≠ 121 → c ≠ 100 → mm_M U c j = mm_M T c j) ∧ (∀ p, p < k → mm_M U 100 p = mm_M T 100 p) ∧ (∀ p, p < m → mm_M U 100 (k + p) = nI ((lh_l m L o).getD p 0)) := by
  intro m
  induction m with
  | zero =>
    intro k o L T v5 v6 v7 hw h8 hk hL ho hv
    refine ⟨T, ?_, rfl, fun _ _ _ _ => rfl, fun _ _ => rfl, fun p hp => absurd hp (Nat.not_lt_zero _)⟩
    rw [b178_43 (wx_o92 hw), h8, if_pos (nI_le (by omega) (by omega)), b178_134]
  | succ m ih =>
    intro k o L T v5 v6 v7 hw h8 hk hL ho hv
    have hp := lh_pk ho
    have fp := lf_pos m
    have fl := lf_le (n := m) (by omega)
    have fl2 := lf_le (n := m + 1) (by omega)
    have s1 : nI N - nI 1 - nI k = nI m := by rw [pk_sub (by omega), pk_sub (by omega), show N - 1 - k = m by omega]
    have dv : nI o / nI (lh_f m) = nI (o / lh_f m) := pk_div (by omega) (by omega) (by omega)
    have md : nI o - nI (o / lh_f m) * nI (lh_f m) = nI (o % lh_f m) := by
      have h := Nat.div_add_mod o (lh_f m)
      rw [Nat.mul_comm] at h
      rw [nI_mul, pk_sub (by omega)]
      congr 1
      omega
    have hml := Nat.mod_lt o fp
    generalize hq : o / lh_f m = q at *
    have cq : (nI q).toNatClampNeg = q := nI_clamp (by omega)
    have bq : mm_inb (nI q) 6 = true := hp_inb (by omega) (by omega)
    have ck : (nI k).toNatClampNeg = k := nI_clamp (by omega)
    have bk : mm_inb (nI k) 6 = true := hp_inb (by omega) (by omega)
    have nz : ¬ nI (lh_f m) = nI 0 := fun e => by
      have := (nI_eq (by omega) (by omega)).mp e
      omega
    have k177 := s177 (d := d) (S := T) (n := m) (by omega)
    have w1 : mm_W (mm_uM T 100 k (nI (L.getD q 0))) := hw
    obtain ⟨U1, g1, g2, g3, g4⟩ := m178_s (d := d + 1) (m := m) (by omega) (x1 := x) (x3 := nI (o % lh_f m)) (x4 := nI k) (x5 := nI (lh_f m)) (x6 := nI q) (m - q) q (mm_uM T 100 k (nI (L.getD q 0))) (by omega) w1
    have wU : mm_W U1 := by rw [g2]; exact w1
    obtain ⟨U, g5, g6, g7, g8, g9⟩ := ih (k + 1) (o % lh_f m) (L.eraseIdx q) U1 (.int (nI (lh_f m))) (.int (nI q)) (.int (nI m)) wU ((g3 _ _ (by decide)).trans ((rdn (by omega)).trans h8)) (by omega) (by rw [List.length_eraseIdx_of_lt (by omega)]; omega) hml (fun i hi => by
      rw [g4 i, ei_get]
      by_cases h1 : i < q
      · rw [if_neg (by omega), if_pos h1, rdn (by omega), hv i (by omega)]
      · rw [if_pos ⟨by omega, hi⟩, if_neg h1, rdn (by omega), hv (i + 1) (by omega)])
    have e1 : mm_M U1 100 k = nI (L.getD q 0) := (g3 100 k (by decide)).trans rds
    refine ⟨U, ?_, ?_, fun c j h1 h2 => (g7 c j h1 h2).trans ((g3 c j h1).trans (rdn (by omega))), fun p hp => (g8 p (by omega)).trans ((g3 100 p (by decide)).trans (rdn (by omega))), fun p hp => ?_⟩
    · rw [b178_43 (wx_o92 hw), h8, if_neg (nI_ge (by omega) (by omega)), b178_52 (wx_o92 hw), h8, s1, k177, hp_bd, hp_ts, b178_64 nz (wx_o92 hw) (wx_s92_9 hw) (wx_s92_52 hw) (by rw [wx_g92_52 hw, wx_N121 hw, dv]; exact bq) (by rw [wx_g92_52 hw]; exact wx_a121 hw) (by rw [wx_g92_9 hw]; exact wx_a100 hw) (by rw [wx_g92_9 hw, wx_N100 hw]; exact bk), wx_g92_52 hw, wx_g92_9 hw, dv, md, cq, ck, hv q (by omega), g1, nI_add, g5]
    · have e := g2
      rw [wM_u (S := T) (T := T) rfl] at e
      have e2 := g6
      rw [e] at e2
      exact e2
    · show mm_M U 100 (k + p) = nI ((L.getD (o / lh_f m) 0 :: lh_l m (L.eraseIdx (o / lh_f m)) (o % lh_f m)).getD p 0)
      rw [hq]
      cases p with
      | zero => exact (g8 k (by omega)).trans e1
      | succ p =>
        have := g9 p (by omega)
        rw [show k + 1 + p = k + (p + 1) by omega] at this
        exact this
theorem s178 (hA : md_A S P D) (h5 : (ab_row D).length ≤ 5) (ho : o < lh_f (ab_row D).length) : ∃ U, mm_cl (d + 1) 178 [.ref 92, .int (nI o)] S = some (none, U) ∧ U = mm_wM S (mm_M U) ∧ (∀ c j, c ≠ 121 → c ≠ 100 → mm_M U c j = mm_M S c j) ∧ md_A U P (gD_row D (lh_l (ab_row D).length (np_0 (ab_kn P) (ab_row D)) o)) := by
  have hw := hA.1
  have oD := hA.2.2.2.2
  have hn := n0_len (kn := ab_kn P) oD.1 oD.2.1
  obtain ⟨T, g1, g2, g3, g4⟩ := m178_g (d := d) (x := nI o) hA (ab_kn P) 0 S (Nat.zero_add _) rfl (fun _ _ _ => rfl) (fun i hi => absurd hi (Nat.not_lt_zero _))
  have wT : mm_W T := by rw [g2]; exact hw
  rw [hn] at g1 g4
  obtain ⟨U, g5, g6, g7, g8, g9⟩ := m178_k (d := d) (x := nI o) (N := (ab_row D).length) h5 (ab_row D).length 0 o (np_0 (ab_kn P) (ab_row D)) T .null .null .null wT ((g3 _ _ (by decide)).trans hA.2.2.1.1) (Nat.zero_add _) hn ho g4
  have wU : mm_W U := by rw [g6]; exact wT
  have f : ∀ c j, c ≠ 121 → c ≠ 100 → mm_M U c j = mm_M S c j := fun c j h1 h2 => (g7 c j h1 h2).trans (g3 c j h1)
  have pm := lh_perm (ab_row D).length (np_0 (ab_kn P) (ab_row D)) o hn ho
  have ll := lh_len hn ho
  refine ⟨U, ?_, ?_, f, A_rowM hA wU (fun c j hc => f c j (by omega) (by omega)) (pm.nodup_iff.mpr n0_nd) (fun z hz => (n0_me.mp (pm.mem_iff.mp hz)).1) ((f 92 8 (by decide) (by decide)).trans (by rw [ll]; exact hA.2.2.1.1)) (fun p hp => ?_)⟩
  · rw [e178, b178_0]
    refine Eq.trans g1 ?_
    rw [b178_38, g5]
  · have e := g6
    rw [g2] at e
    exact e
  · rw [ll] at hp
    have := g9 p hp
    rw [Nat.zero_add] at this
    exact this
end QM4
end
section
/-! ===== questions of the reference: order, lot ===== -/
def ab_rv (P : ab_P) (D : ab_D) (w : Nat) (l : List Nat) : Int32 := if w = 0 then ab_ti (ab_fin P (gD_row D l)) else ab_all (ab_kn P) (ab_ga (ab_fin P (gD_row D l)))
def ab_rr (P : ab_P) (D : ab_D) (o : Nat) : List Nat := lh_l (ab_row D).length (np_0 (ab_kn P) (ab_row D)) o
def ab_r1 (P : ab_P) (D : ab_D) (w : Nat) (s : Option Nat × Int32) (o : Nat) : Option Nat × Int32 := if s.1 = none ∨ s.2 < ab_rv P D w (ab_rr P D o) then (some o, ab_rv P D w (ab_rr P D o)) else s
def ab_ro (P : ab_P) (D : ab_D) (w n : Nat) : Option Nat × Int32 := (List.range n).foldl (ab_r1 P D w) (none, nI 0)
def mn_14 (G : gb_G) (x k : Int32) : Int32 := if ¬ (x = nI 0 ∨ x = nI 1) ∨ k < -1 ∨ nI (ab_row (gD G)).length ≤ k then -100001 else if 5 < (ab_row (gD G)).length then -9 else if k = -1 then (ab_ro (gP G) (gD G) (if x = nI 0 then 0 else 1) (lh_f (ab_row (gD G)).length)).2 else match (ab_ro (gP G) (gD G) (if x = nI 0 then 0 else 1) (lh_f (ab_row (gD G)).length)).1 with
  | none => -1
  | some o => nI ((ab_rr (gP G) (gD G) o).getD k.toNatClampNeg 0)
def lw_g : Nat → Int64 → Int64 → Int64
  | 0, a, _ => a
  | n + 1, a, b => if b = 0 then a else lw_g n b (a - a / b * b)
def lw_l (a b : Int64) (x : Int32) : Int64 := if a = 0 then x.toInt64 else if x = nI 0 then a / lw_g (b.toInt.natAbs + 1) a b else b / lw_g (b.toInt.natAbs + 1) a b
def ab_rs (P : ab_P) (D : ab_D) (s : Int64) (o : Nat) : Int64 := s + (ab_ti (ab_fin P (gD_row D (ab_rr P D o)))).toInt64
def mn_16 (G : gb_G) (x : Int32) : Int64 := if ¬ (x = nI 0 ∨ x = nI 1) ∨ 5 < (ab_row (gD G)).length then -9223372036854775808 else lw_l ((List.range (lh_f (ab_row (gD G)).length)).foldl (ab_rs (gP G) (gD G)) 0) (nI (lh_f (ab_row (gD G)).length)).toInt64 x
section QM5
variable {S T U : mm_S} {G : gb_G} {P : ab_P} {D E : ab_D} {b c d n k i j p m o : Nat} {x w y : Int32} {r l L : List Nat}
theorem sR (ok : gb_ok G) (hR : RM S G) (h5 : (ab_row (gD G)).length ≤ 5) (ho : o < lh_f (ab_row (gD G)).length) : ∃ U, mm_cl (d + 1) 178 [.ref 92, .int (nI o)] (mm_kp S) = some (none, U) ∧ QK S U ∧ md_A U (gP G) (gD_row (gD G) (ab_rr (gP G) (gD G) o)) := by
  obtain ⟨U, g1, g2, g3, g4⟩ := s178 (d := d) (kp_A ok hR) h5 ho
  refine ⟨U, g1, ⟨g2, fun c j hc => g3 c j ?_ ?_⟩, g4⟩ <;> (unfold gm_e md_dc at hc; omega)
theorem m179_it (ok : gb_ok G) (hR : RM S G) (h5 : (ab_row (gD G)).length ≤ 5) (ho : o < lh_f (ab_row (gD G)).length) (hx : x = nI 0 ∨ x = nI 1) {s : Option Nat × Int32} (hs : ∀ b, s.1 = some b → b < 2 ^ 20) {k : Int32} {v6 : Value} : ∃ W v, mm_ex (d + 10) 179 45 [.ref 92, .int x, .int k, .int (gm_ho s.1), .int s.2, .int (nI o), v6] [] S = mm_ex (d + 10) 179 45 [.ref 92, .int x, .int k, .int (gm_ho (ab_r1 (gP G) (gD G) (if x = nI 0 then 0 else 1) s o).1), .int (ab_r1 (gP G) (gD G) (if x = nI 0 then 0 else 1) s o).2, .int (nI (o + 1)), v] [] W ∧ QM S W G := by
  have hw := hR.1
  have wk : mm_W (mm_kp S) := hw
  have h8 : mm_M S 92 8 = nI (ab_row (gD G)).length := hR.2.1.2.1.1
  have fl := lf_le h5
  obtain ⟨U, g1, g2, g3⟩ := sR (d := d + 8) ok hR h5 ho
  have wU := g3.1
  obtain ⟨T, g4, g5, g6, -⟩ := s173 (d := d) g3
  have wT := g6.1
  have qT := QK_md g2 g5
  have wl : mm_W (mm_ly T) := wT
  have t7 := g6.2.2.1.2.2.2.2.2.2.1
  have k177 := s177 (d := d + 9) (S := S) h5
  have st : mm_ex (d + 10) 179 45 [.ref 92, .int x, .int k, .int (gm_ho s.1), .int s.2, .int (nI o), v6] [] S = mm_ex (d + 10) 179 92 [.ref 92, .int x, .int k, .int (gm_ho s.1), .int s.2, .int (nI o), .int (ab_rv (gP G) (gD G) (if x = nI 0 then 0 else 1) (ab_rr (gP G) (gD G) o))] [] (mm_ly T) := by
    unfold ab_rv
    rw [b179_45 (wx_o92 hw), h8, k177, hp_bd, hp_tsc, b179_54, if_neg (nI_ge ho (by omega)), b179_57 (wx_k92 hw), s171 hw, hp_bd, hp_tn, b179_61 (wx_k92 wk), g1, hp_bd, hp_tn, b179_67 (wx_k92 wU), g4, hp_bd, hp_tn, b179_71]
    by_cases x0 : x = nI 0
    · rw [if_pos x0, if_pos x0, if_pos rfl, b179_75 (wx_o92 wT) (wx_k92 wT), s172 wT, hp_bd, hp_tn, t7]
    · rw [if_neg x0, if_neg x0, if_neg (by decide), b179_82 (wx_k92 wT), s174 g6, hp_bd, hp_ts, b179_86 (wx_k92 wT), s172 wT, hp_bd, hp_tn]
  refine ⟨mm_ly T, .int (ab_rv (gP G) (gD G) (if x = nI 0 then 0 else 1) (ab_rr (gP G) (gD G) o)), ?_, QM_ly ok hR qT⟩
  rw [st, b179_92]
  unfold ab_r1
  obtain ⟨s1, s2⟩ := s
  cases s1 with
  | none =>
    have e : gm_ho none = -1 := rfl
    rw [if_pos (show gm_ho (none, s2).1 = -1 from rfl), b179_104, nI_add, if_pos (Or.inl rfl)]
    rfl
  | some q =>
    have hq := hs q rfl
    have nq : ¬ gm_ho (some q, s2).1 = -1 := nI_m1 (n := q) (by omega)
    rw [if_neg nq, b179_97]
    by_cases h1 : s2 < ab_rv (gP G) (gD G) (if x = nI 0 then 0 else 1) (ab_rr (gP G) (gD G) o)
    · rw [if_neg (Int32.not_le.mpr h1), b179_104, nI_add, if_pos (Or.inr h1)]
      rfl
    · have nn : ¬ ((some q, s2).1 = none ∨ (some q, s2).2 < ab_rv (gP G) (gD G) (if x = nI 0 then 0 else 1) (ab_rr (gP G) (gD G) o)) := fun e => Or.elim e (fun z => by cases z) h1
      rw [if_pos (Int32.not_lt.mp h1), b179_111, nI_add, if_neg nn]
theorem ro_s {w : Nat} : ab_ro P D w (n + 1) = ab_r1 P D w (ab_ro P D w n) n := by
  unfold ab_ro
  rw [List.range_succ, List.foldl_append]
  rfl
theorem ro_lt {w : Nat} : ∀ n b, (ab_ro P D w n).1 = some b → b < n := by
  intro n
  induction n with
  | zero => intro b h; cases h
  | succ n ih =>
    intro b h
    rw [ro_s] at h
    unfold ab_r1 at h
    split at h
    · cases h; omega
    · have := ih b h; omega
theorem ro_so {w : Nat} : ∀ n, 0 < n → (ab_ro P D w n).1 ≠ none := by
  intro n
  cases n with
  | zero => intro h; exact absurd h (Nat.lt_irrefl _)
  | succ n =>
    intro _ h
    rw [ro_s] at h
    unfold ab_r1 at h
    by_cases q : (ab_ro P D w n).1 = none ∨ (ab_ro P D w n).2 < ab_rv P D w (ab_rr P D n)
    · rw [if_pos q] at h; cases h
    · rw [if_neg q] at h; exact q (Or.inl h)
theorem m179_loop (ok : gb_ok G) (h5 : (ab_row (gD G)).length ≤ 5) (hx : x = nI 0 ∨ x = nI 1) {k : Int32} : ∀ (q o : Nat) (S : mm_S) (v6 : Value), RM S G → o + q = lh_f (ab_row (gD G)).length → ∃ W v, mm_ex (d + 10) 179 45 [.ref 92, .int x, .int k, .int (gm_ho (ab_ro (gP G) (gD G) (if x = nI 0 then 0 else 1) o).1), .int (ab_ro (gP G) (gD G) (if x = nI 0 then 0 else 1) o).2, .int (nI o), v6] [] S = mm_ex (d + 10) 179 117 [.ref 92, .int x, .int k, .int (gm_ho (ab_ro (gP G) (gD G) (if x = nI 0 then 0 else 1) (lh_f (ab_row (gD G)).length)).1), .int (ab_ro (gP G) (gD G) (if x = nI 0 then 0 else 1) (lh_f (ab_row (gD G)).length)).2, .int (nI (lh_f (ab_row (gD G)).length)), v] [] W ∧ QM S W G := by
  have fl := lf_le h5
  intro q
  induction q with
  | zero =>
    intro o S v6 hR ho
    have hw := hR.1
    have h8 : mm_M S 92 8 = nI (ab_row (gD G)).length := hR.2.1.2.1.1
    have k177 := s177 (d := d + 9) (S := S) h5
    have e : o = lh_f (ab_row (gD G)).length := by omega
    subst e
    refine ⟨S, v6, ?_, QM_rf hR⟩
    rw [b179_45 (wx_o92 hw), h8, k177, hp_bd, hp_tsc, b179_54, if_pos (nI_le (Nat.le_refl _) (by omega))]
  | succ q ih =>
    intro o S v6 hR ho
    obtain ⟨W, v, g1, g2⟩ := m179_it (d := d) (k := k) (v6 := v6) ok hR h5 (o := o) (by omega) hx (s := ab_ro (gP G) (gD G) (if x = nI 0 then 0 else 1) o) (fun b hb => by have := ro_lt _ _ hb; omega)
    rw [← ro_s] at g1
    obtain ⟨W2, v2, g3, g4⟩ := ih (o + 1) W v g2.1 (by omega)
    exact ⟨W2, v2, g1.trans g3, QM_tr g2 g4⟩
theorem i_lt1 {n : Nat} {k : Int32} (hn : n < 2 ^ 30) : (nI n - nI 1 < k) = (nI n ≤ k) := by
  rw [Int32.lt_iff_toInt_lt, Int32.le_iff_toInt_le, nI_toInt (by omega), pk_sub_toInt (by omega) (by omega)]
  exact propext (by omega)
theorem m_14 (ok : gb_ok G) (hR : RM S G) {k : Int32} : oM S (d + 10) 179 [.ref 92, .int x, .int k] (.int (mn_14 G x k)) G := by
  have hw := hR.1
  have hl6 : (ab_row (gD G)).length ≤ 6 := row_le ok.1.1 ok.1.2.1
  have h8 : mm_M S 92 8 = nI (ab_row (gD G)).length := hR.2.1.2.1.1
  unfold mn_14
  rcases k128 (S := S) (x := x) (d + 9) with ⟨hx, kx⟩ | ⟨hx, kx⟩
  · have k2 : mm_cl (d + 9) 128 [.int k, .int (-1), .int (nI (ab_row (gD G)).length - nI 1)] S = some (some (.int (if k < -1 ∨ nI (ab_row (gD G)).length ≤ k then nI 0 else nI 1)), S) := by
      rw [s128]
      simp only [i_lt1 (show (ab_row (gD G)).length < 2 ^ 30 by omega)]
    have st : mm_cl (d + 10) 179 [.ref 92, .int x, .int k] S = mm_ex (d + 10) 179 20 [.ref 92, .int x, .int k, .null, .null, .null, .null] [.int (if k < -1 ∨ nI (ab_row (gD G)).length ≤ k then nI 0 else nI 1)] S := by
      rw [e179, b179_0, kx, hp_bd, hp_ts, b179_6, if_neg i01, b179_9 (wx_o92 hw), h8, k2, hp_bd, hp_ts]
    by_cases hk : k < -1 ∨ nI (ab_row (gD G)).length ≤ k
    · rw [if_pos (show _ ∨ _ ∨ _ from Or.inr hk)]
      refine oM_id hR ?_
      rw [st, if_pos hk, b179_20, if_pos rfl, b179_23]
    have nn : ¬ (¬ (x = nI 0 ∨ x = nI 1) ∨ k < -1 ∨ nI (ab_row (gD G)).length ≤ k) := fun e => Or.elim e (fun z => z hx) hk
    rw [if_neg nn]
    rw [if_neg hk, b179_20, if_neg i01, b179_26 (wx_o92 hw), h8] at st
    by_cases h5 : 5 < (ab_row (gD G)).length
    · rw [if_pos h5]
      refine oM_id hR ?_
      rw [st, if_neg (nI_ge h5 (by omega)), b179_34]
    rw [if_neg h5]
    have h5 : (ab_row (gD G)).length ≤ 5 := by omega
    have fl := lf_le h5
    rw [if_pos (nI_le h5 (by omega)), b179_37] at st
    obtain ⟨W, v, g1, g2⟩ := m179_loop (d := d) (k := k) ok h5 hx (lh_f (ab_row (gD G)).length) 0 S .null hR (Nat.zero_add _)
    have hwW := g2.1.1
    have st2 := st.trans g1
    by_cases k1 : k = -1
    · rw [if_pos k1]
      refine oM_Q g2 ?_
      rw [st2, b179_117, if_pos k1, b179_122]
    · rw [if_neg k1]
      cases hb : (ab_ro (gP G) (gD G) (if x = nI 0 then 0 else 1) (lh_f (ab_row (gD G)).length)).1 with
      | none => exact absurd hb (ro_so _ (lf_pos _))
      | some q =>
        have hq := ro_lt _ _ hb
        rw [hb] at st2
        have k0 : ¬ k < nI 0 := by
          intro h
          rw [Int32.lt_iff_toInt_lt, nI_toInt (by decide)] at h
          have n1 : ¬ k < -1 := fun e => hk (Or.inl e)
          rw [Int32.lt_iff_toInt_lt, show (-1 : Int32).toInt = -1 from rfl] at n1
          exact k1 (Int32.toInt_inj.mp (by rw [show (-1 : Int32).toInt = -1 from rfl]; omega))
        obtain ⟨z, hz, rfl⟩ := nI_of (x := k) k0
        have hzl : z < (ab_row (gD G)).length := by
          have n2 : ¬ nI (ab_row (gD G)).length ≤ nI z := fun e => hk (Or.inr e)
          rw [nI_leI (by omega) hz] at n2
          omega
        have cz : (nI z).toNatClampNeg = z := nI_clamp hz
        obtain ⟨U, g3, g4, g5⟩ := sR (d := d + 8) ok g2.1 h5 hq
        have wU := g5.1
        have wkW : mm_W (mm_kp W) := hwW
        have ll : (ab_rr (gP G) (gD G) q).length = (ab_row (gD G)).length := lh_len (n0_len ok.1.2.1.1 ok.1.2.1.2.1) hq
        have h100 : mm_M U 100 z = nI ((ab_rr (gP G) (gD G) q).getD z 0) := g5.2.2.1.2.1 z (by show z < (ab_rr (gP G) (gD G) q).length; omega)
        refine oM_Q (QM_tr g2 (QM_ly ok g2.1 g4)) ?_
        rw [st2, b179_117, if_neg k1, b179_125 (wx_k92 hwW), s171 hwW, hp_bd, hp_tn, b179_129 (wx_k92 wkW), show gm_ho (some q) = nI q from rfl, g3, hp_bd, hp_tn, b179_134 (wx_o92 wU) (wx_s92_9 wU) (by rw [wx_g92_9 wU, wx_N100 wU]; exact hp_inb (by omega) hz) (by rw [wx_g92_9 wU]; exact wx_a100 wU) (wx_k92 wU), s172 wU, hp_bd, hp_tn, b179_146, wx_g92_9 wU, cz, h100]
  · rw [if_pos (Or.inl hx)]
    refine oM_id hR ?_
    rw [e179, b179_0, kx, hp_bd, hp_ts, b179_6, if_pos rfl, b179_23]
/-! lowest terms -/
theorem rem_lt {a b : Int64} (hb : b ≠ 0) : (a - a / b * b).toInt.natAbs < b.toInt.natAbs := by
  have h0 : b.toInt ≠ 0 := fun e => hb (Int64.toInt_inj.mp (by rw [e]; rfl))
  have e : (a - a / b * b).toInt = (a.toInt.tmod b.toInt).bmod (2 ^ 64) := by
    rw [Int64.toInt_sub, Int64.toInt_mul, Int64.toInt_div, Int.tmod_def, Int.mul_comm b.toInt]
    simp
  have r1 := b.le_toInt
  have r2 := b.toInt_lt
  have t : (a.toInt.tmod b.toInt).natAbs < b.toInt.natAbs := by
    rw [Int.natAbs_tmod]
    exact Nat.mod_lt _ (by omega)
  rw [e, Int.bmod_eq_of_le (by omega) (by omega)]
  exact t
theorem lg_0 {b : Int64} : lg_cmp b 0 = nI 0 ↔ b = 0 := lg_cmp_eq b 0
theorem s181_loop {j0 j2 : Int64} : ∀ (n : Nat) (a b : Int64) (v : Value), b.toInt.natAbs < n → (a ≠ 0 ∨ b ≠ 0) → ∃ z v', mm_ex d 181 16 [.long j0, .null, .long j2, .null, .int x, .long a, .null, .long b, .null, v, .null] [] S = mm_ex d 181 41 [.long j0, .null, .long j2, .null, .int x, .long (lw_g n a b), .null, .long z, .null, v', .null] [] S ∧ lw_g n a b ≠ 0 := by
  intro n
  induction n with
  | zero => intro a b v h; exact absurd h (Nat.not_lt_zero _)
  | succ n ih =>
    intro a b v h hab
    by_cases hb : b = 0
    · refine ⟨b, v, ?_, ?_⟩
      · rw [b181_16, if_pos (lg_0.mpr hb)]
        unfold lw_g
        rw [if_pos hb]
      · unfold lw_g
        rw [if_pos hb]
        exact hab.resolve_right (fun q => q hb)
    · have hl := rem_lt (a := a) hb
      obtain ⟨z, v', g1, g2⟩ := ih b (a - a / b * b) (.long (a - a / b * b)) (by omega) (Or.inl hb)
      refine ⟨z, v', ?_, ?_⟩
      · rw [b181_16, if_neg (fun q => hb (lg_0.mp q)), b181_23 hb, g1]
        show _ = mm_ex d 181 41 [.long j0, .null, .long j2, .null, .int x, .long (if b = 0 then a else lw_g n b (a - a / b * b)), .null, .long z, .null, v', .null] [] S
        rw [if_neg hb]
      · show (if b = 0 then a else lw_g n b (a - a / b * b)) ≠ 0
        rw [if_neg hb]
        exact g2
theorem s181 {a b : Int64} : mm_cl d 181 [.long a, .long b, .int x] S = some (some (.long (lw_l a b x)), S) := by
  unfold lw_l
  by_cases ha : a = 0
  · rw [if_pos ha, e181, b181_0, if_pos (lg_0.mpr ha), b181_6]
  · obtain ⟨z, v, g1, g2⟩ := s181_loop (d := d) (S := S) (x := x) (j0 := a) (j2 := b) (b.toInt.natAbs + 1) a b .null (Nat.lt_succ_self _) (Or.inl ha)
    rw [if_neg ha, e181, b181_0, if_neg (fun q => ha (lg_0.mp q)), b181_10, g1, b181_41]
    by_cases x0 : x = nI 0
    · rw [if_pos x0, if_pos x0, b181_46 g2]
    · rw [if_neg x0, if_neg x0, b181_50 g2]
theorem m182_loop (ok : gb_ok G) (h5 : (ab_row (gD G)).length ≤ 5) : ∀ (q o : Nat) (S : mm_S), RM S G → o + q = lh_f (ab_row (gD G)).length → ∃ W, mm_ex (d + 10) 182 26 [.ref 92, .int x, .long ((List.range o).foldl (ab_rs (gP G) (gD G)) 0), .null, .int (nI o)] [] S = mm_ex (d + 10) 182 70 [.ref 92, .int x, .long ((List.range (lh_f (ab_row (gD G)).length)).foldl (ab_rs (gP G) (gD G)) 0), .null, .int (nI (lh_f (ab_row (gD G)).length))] [] W ∧ QM S W G := by
  have fl := lf_le h5
  intro q
  induction q with
  | zero =>
    intro o S hR ho
    have hw := hR.1
    have h8 : mm_M S 92 8 = nI (ab_row (gD G)).length := hR.2.1.2.1.1
    have k177 := s177 (d := d + 9) (S := S) h5
    have e : o = lh_f (ab_row (gD G)).length := by omega
    subst e
    refine ⟨S, ?_, QM_rf hR⟩
    rw [b182_26 (wx_o92 hw), h8, k177, hp_bd, hp_tsc, b182_35, if_pos (nI_le (Nat.le_refl _) (by omega))]
  | succ q ih =>
    intro o S hR ho
    have hw := hR.1
    have wk : mm_W (mm_kp S) := hw
    have h8 : mm_M S 92 8 = nI (ab_row (gD G)).length := hR.2.1.2.1.1
    have k177 := s177 (d := d + 9) (S := S) h5
    obtain ⟨U, g1, g2, g3⟩ := sR (d := d + 8) ok hR h5 (o := o) (by omega)
    have wU := g3.1
    obtain ⟨T, g4, g5, g6, -⟩ := s173 (d := d) g3
    have wT := g6.1
    have qT := QK_md g2 g5
    have wl : mm_W (mm_ly T) := wT
    have t7 := g6.2.2.1.2.2.2.2.2.2.1
    have QW := QM_ly ok hR qT
    obtain ⟨W, g7, g8⟩ := ih (o + 1) (mm_ly T) QW.1 (by omega)
    refine ⟨W, ?_, QM_tr QW g8⟩
    rw [List.range_succ, List.foldl_append] at g7
    rw [b182_26 (wx_o92 hw), h8, k177, hp_bd, hp_tsc, b182_35, if_neg (nI_ge (by omega) (by omega)), b182_38 (wx_k92 hw), s171 hw, hp_bd, hp_tn, b182_42 (wx_k92 wk), g1, hp_bd, hp_tn, b182_48 (wx_k92 wU), g4, hp_bd, hp_tn, b182_52 (wx_o92 wT) (wx_k92 wT), s172 wT, hp_bd, hp_tn, t7, b182_64, nI_add]
    exact g7
theorem m_16 (ok : gb_ok G) (hR : RM S G) : oM S (d + 10) 182 [.ref 92, .int x] (.long (mn_16 G x)) G := by
  have hw := hR.1
  have hl6 : (ab_row (gD G)).length ≤ 6 := row_le ok.1.1 ok.1.2.1
  have h8 : mm_M S 92 8 = nI (ab_row (gD G)).length := hR.2.1.2.1.1
  unfold mn_16
  rcases k128 (S := S) (x := x) (d + 9) with ⟨hx, kx⟩ | ⟨hx, kx⟩
  · have st : mm_cl (d + 10) 182 [.ref 92, .int x] S = if nI (ab_row (gD G)).length ≤ nI 5 then mm_ex (d + 10) 182 21 [.ref 92, .int x, .null, .null, .null] [] S else mm_ex (d + 10) 182 17 [.ref 92, .int x, .null, .null, .null] [] S := by
      rw [e182, b182_0, kx, hp_bd, hp_ts, b182_6, if_neg i01, b182_9 (wx_o92 hw), h8]
    by_cases h5 : 5 < (ab_row (gD G)).length
    · rw [if_pos (Or.inr h5)]
      refine oM_id hR ?_
      rw [st, if_neg (nI_ge h5 (by omega)), b182_17]
    have nn : ¬ (¬ (x = nI 0 ∨ x = nI 1) ∨ 5 < (ab_row (gD G)).length) := fun e => Or.elim e (fun z => z hx) h5
    have h5 : (ab_row (gD G)).length ≤ 5 := by omega
    obtain ⟨W, g1, g2⟩ := m182_loop (d := d) (x := x) ok h5 (lh_f (ab_row (gD G)).length) 0 S hR (Nat.zero_add _)
    have wW := g2.1.1
    have h8W : mm_M W 92 8 = nI (ab_row (gD G)).length := g2.1.2.1.2.1.1
    have k177 := s177 (d := d + 9) (S := W) h5
    rw [if_neg nn]
    refine oM_Q g2 ?_
    rw [st, if_pos (nI_le h5 (by omega)), b182_21]
    refine Eq.trans g1 ?_
    rw [b182_70 (wx_o92 wW), h8W, k177, hp_bd, hp_tsc, b182_78, s181, hp_bd, hp_ts, b182_83]
  · rw [if_pos (Or.inl hx)]
    refine oM_id hR ?_
    rw [e182, b182_0, kx, hp_bd, hp_ts, b182_6, if_pos rfl, b182_17]
end QM5
end
section
/-! ===== questions of the reference: sure ===== -/
def gm_v (c j : Nat) : Prop := md_dc c j ∨ (122 ≤ c ∧ c ≤ 125) ∨ (c = 92 ∧ (j = 53 ∨ j = 54))
def SQ (S T : mm_S) : Prop := sf_f gm_v S T ∧ mm_n T = mm_n S ∧ mm_z T = mm_z S
/-- a day that is kept at a depth -/
def kd (S : mm_S) (v n : Nat) (D : ab_D) : Prop := (∀ p, p < (ab_row D).length → mm_M S 122 (6 * v + p) = nI ((ab_row D).getD p 0)) ∧ (∀ b, b < n → mm_M S 123 (6 * v + b) = nI (ab_aw D b)) ∧ (∀ b, b < n → mm_M S 124 (6 * v + b) = ab_ga D b) ∧ mm_M S 125 (5 * v) = nI (ab_row D).length ∧ mm_M S 125 (5 * v + 1) = nI (ab_pr D) ∧ mm_M S 125 (5 * v + 2) = nI (ab_lo D) ∧ mm_M S 125 (5 * v + 3) = ab_ti D ∧ mm_M S 125 (5 * v + 4) = ab_tu D
/-- what is kept less deep stays -/
def dq (v : Nat) (S T : mm_S) : Prop := ∀ c j, (122 ≤ c ∧ c ≤ 124 ∧ j < 6 * v) ∨ (c = 125 ∧ j < 5 * v) → mm_M T c j = mm_M S c j
def sa (S : mm_S) (a : Int64 × Bool) : Prop := mm_L S 92 53 = a.1 ∧ mm_M S 92 54 = if a.2 = true then nI 1 else nI 0
def ab_sq (P : ab_P) (b s : Nat) : Nat → ab_D → Int64 → Int64 × Bool → Int64 × Bool
  | 0, D, w, a => if w = 0 ∨ ab_com D = false then a else (a.1, true)
  | q + 1, D, w, a => if w = 0 ∨ ab_com D = false then a else if ab_ha P D = 1 then ab_sq P b s q (ab_does P D 2) (w / 10 * (nI s).toInt64) (ab_sq P b s q (ab_does P D 1) (w - w / 10 * (nI s).toInt64) (a.1 + (if (ab_row D).headD 0 = b then w - w / 10 * (nI s).toInt64 else 0), a.2)) else ab_sq P b s q (ab_does P D (ab_ha P D)) w a
section QM6
variable {S T U : mm_S} {G : gb_G} {P : ab_P} {D E : ab_D} {b c d n k i j p m o v s q : Nat} {x w y : Int32} {r l L : List Nat} {a : Int64 × Bool} {t : Int64}
theorem SQ_rf : SQ S S := ⟨sf_rf, rfl, rfl⟩
theorem SQ_tr (h : SQ S T) (h2 : SQ T U) : SQ S U := ⟨sf_tr h.1 h2.1, h2.2.1.trans h.2.1, h2.2.2.trans h.2.2⟩
theorem SQ_md (h : md_fr S T) : SQ S T := ⟨sf_mo (sf_md h) (fun c j q => Or.inl q), by rw [h.1]; rfl, by rw [h.1]; rfl⟩
theorem SQ_wM (e : T = mm_wM S (mm_M T)) (h : ∀ c j, ¬ gm_v c j → mm_M T c j = mm_M S c j) : SQ S T := ⟨⟨fun c j hc => ⟨h c j hc, by rw [e]; rfl, by rw [e]; rfl⟩, fun c _ => ⟨by rw [e]; rfl, by rw [e]; rfl⟩, by rw [e]; exact Nat.le_refl _⟩, by rw [e]; rfl, by rw [e]; rfl⟩
theorem dq_rf : dq v S S := fun _ _ _ => rfl
theorem dq_tr (h : dq v S T) (h2 : dq v T U) : dq v S U := fun c j hc => (h2 c j hc).trans (h c j hc)
theorem dq_md (h : md_fr S T) : dq v S T := fun c j hc => h.2 c j (by unfold md_dc; omega)
theorem dq_le (h : dq (v + 1) S T) : dq v S T := fun c j hc => h c j (by omega)
theorem sa_md (h : md_fr S T) (hs : sa S a) : sa T a := ⟨by rw [h.1]; exact hs.1, (h.2 92 54 (by unfold md_dc; omega)).trans hs.2⟩
theorem kd_q (hn : n ≤ 6) (hr : (ab_row D).length ≤ 6) (h : dq (v + 1) S T) (hk : kd S v n D) : kd T v n D := by
  obtain ⟨k1, k2, k3, k4, k5, k6, k7, k8⟩ := hk
  exact ⟨fun p hp => (h _ _ (by omega)).trans (k1 p hp), fun p hp => (h _ _ (by omega)).trans (k2 p hp), fun p hp => (h _ _ (by omega)).trans (k3 p hp), (h _ _ (by omega)).trans k4, (h _ _ (by omega)).trans k5, (h _ _ (by omega)).trans k6, (h _ _ (by omega)).trans k7, (h _ _ (by omega)).trans k8⟩
theorem m188_l (hv : v ≤ 12) (hw : mm_W S) : ∀ (q k : Nat) (T : mm_S), k + q = 6 → T = mm_wM S (mm_M T) → (∀ c j, ¬ (122 ≤ c ∧ c ≤ 124 ∧ 6 * v ≤ j ∧ j < 6 * v + 6) → mm_M T c j = mm_M S c j) → (∀ i, i < k → mm_M T 122 (6 * v + i) = mm_M S 100 i ∧ mm_M T 123 (6 * v + i) = mm_M S 97 i ∧ mm_M T 124 (6 * v + i) = mm_M S 98 i) → ∃ U, mm_ex d 188 2 [.ref 92, .int (nI v), .int (nI k)] [] T = mm_ex d 188 65 [.ref 92, .int (nI v), .int (nI 6)] [] U ∧ U = mm_wM S (mm_M U) ∧ (∀ c j, ¬ (122 ≤ c ∧ c ≤ 124 ∧ 6 * v ≤ j ∧ j < 6 * v + 6) → mm_M U c j = mm_M S c j) ∧ (∀ i, i < 6 → mm_M U 122 (6 * v + i) = mm_M S 100 i ∧ mm_M U 123 (6 * v + i) = mm_M S 97 i ∧ mm_M U 124 (6 * v + i) = mm_M S 98 i) := by
  intro q
  induction q with
  | zero =>
    intro k T hk e hf hc
    have e2 : k = 6 := by omega
    subst e2
    exact ⟨T, by rw [b188_2, if_pos (by decide)], e, hf, hc⟩
  | succ q ih =>
    intro k T hk e hf hc
    have wT : mm_W T := by rw [e]; exact hw
    have ck : (nI k).toNatClampNeg = k := nI_clamp (by omega)
    have bk : mm_inb (nI k) 6 = true := hp_inb (by omega) (by omega)
    have cv : (nI (6 * v + k)).toNatClampNeg = 6 * v + k := nI_clamp (by omega)
    have bv : mm_inb (nI (6 * v + k)) 78 = true := hp_inb (by omega) (by omega)
    have st : mm_ex d 188 2 [.ref 92, .int (nI v), .int (nI k)] [] T = mm_ex d 188 2 [.ref 92, .int (nI v), .int (nI (k + 1))] [] (mm_uM (mm_uM (mm_uM T 122 (6 * v + k) (mm_M T 100 k)) 123 (6 * v + k) (mm_M T 97 k)) 124 (6 * v + k) (mm_M T 98 k)) := by
      rw [b188_2, if_neg (nI_ge (by omega) (by omega))]
      simp only [b188_8, b188_40, b188_57, wx_o92 wT, wx_k92 wT, wx_q92 wT, wx_g92_1 wT, wx_s92_1 wT, wx_N93 wT, wx_a93 wT, wx_g92_2 wT, wx_s92_2 wT, wx_N94 wT, wx_a94 wT, wx_g92_3 wT, wx_s92_3 wT, wx_N95 wT, wx_a95 wT, wx_g92_4 wT, wx_s92_4 wT, wx_N96 wT, wx_a96 wT, wx_g92_5 wT, wx_s92_5 wT, wx_N97 wT, wx_a97 wT, wx_g92_6 wT, wx_s92_6 wT, wx_N98 wT, wx_a98 wT, wx_g92_7 wT, wx_s92_7 wT, wx_N99 wT, wx_a99 wT, wx_g92_9 wT, wx_s92_9 wT, wx_N100 wT, wx_a100 wT, wx_g92_16 wT, wx_s92_16 wT, wx_N101 wT, wx_a101 wT, wx_g92_19 wT, wx_s92_19 wT, wx_N102 wT, wx_a102 wT, wx_g92_20 wT, wx_s92_20 wT, wx_N103 wT, wx_a103 wT, wx_g92_21 wT, wx_s92_21 wT, wx_N104 wT, wx_a104 wT, wx_g92_22 wT, wx_s92_22 wT, wx_N105 wT, wx_a105 wT, wx_g92_23 wT, wx_s92_23 wT, wx_N106 wT, wx_a106 wT, wx_g92_24 wT, wx_s92_24 wT, wx_N107 wT, wx_a107 wT, wx_g92_25 wT, wx_s92_25 wT, wx_N108 wT, wx_a108 wT, wx_g92_29 wT, wx_s92_29 wT, wx_N109 wT, wx_a109 wT, wx_g92_30 wT, wx_s92_30 wT, wx_N110 wT, wx_a110 wT, wx_g92_31 wT, wx_s92_31 wT, wx_N111 wT, wx_a111 wT, wx_g92_32 wT, wx_s92_32 wT, wx_N112 wT, wx_a112 wT, wx_g92_33 wT, wx_s92_33 wT, wx_N113 wT, wx_a113 wT, wx_g92_34 wT, wx_s92_34 wT, wx_N114 wT, wx_a114 wT, wx_g92_35 wT, wx_s92_35 wT, wx_N115 wT, wx_a115 wT, wx_g92_38 wT, wx_s92_38 wT, wx_N116 wT, wx_a116 wT, wx_g92_41 wT, wx_s92_41 wT, wx_N117 wT, wx_a117 wT, wx_g92_44 wT, wx_s92_44 wT, wx_N118 wT, wx_a118 wT, wx_g92_45 wT, wx_s92_45 wT, wx_N119 wT, wx_a119 wT, wx_g92_46 wT, wx_s92_46 wT, wx_N120 wT, wx_a120 wT, wx_g92_52 wT, wx_s92_52 wT, wx_N121 wT, wx_a121 wT, wx_g92_55 wT, wx_s92_55 wT, wx_N122 wT, wx_a122 wT, wx_g92_56 wT, wx_s92_56 wT, wx_N123 wT, wx_a123 wT, wx_g92_57 wT, wx_s92_57 wT, wx_N124 wT, wx_a124 wT, wx_g92_58 wT, wx_s92_58 wT, wx_N125 wT, wx_a125 wT, wx_g92_64 wT, wx_s92_64 wT, wx_N126 wT, wx_a126 wT, wx_g92_65 wT, wx_s92_65 wT, wx_N127 wT, wx_a127 wT, wx_g92_66 wT, wx_s92_66 wT, wx_N128 wT, wx_a128 wT, wx_g92_67 wT, wx_s92_67 wT, wx_N129 wT, wx_a129 wT, wx_g92_68 wT, wx_s92_68 wT, wx_N130 wT, wx_a130 wT, wx_g92_69 wT, wx_s92_69 wT, wx_N131 wT, wx_a131 wT, wx_g92_70 wT, wx_s92_70 wT, wx_N132 wT, wx_a132 wT, wx_g92_71 wT, wx_s92_71 wT, wx_N133 wT, wx_a133 wT, wx_g92_72 wT, wx_s92_72 wT, wx_N134 wT, wx_a134 wT, wx_g92_73 wT, wx_s92_73 wT, wx_N135 wT, wx_a135 wT, wx_g92_75 wT, wx_s92_75 wT, wx_N136 wT, wx_a136 wT, List.not_mem_nil, false_implies, implies_true, nI_clamp, nI_add, Nat.reducePow, hp_bd, hp_bdi, hp_ts, hp_tn, hp_tsc, hp_tnc, Nat.reduceAdd, Nat.reduceSub, Nat.reduceMul, Nat.reduceLT, Nat.reduceLeDiff, Nat.reduceEqDiff, reduceIte, not_true_eq_false, not_false_eq_true, and_true, true_and, and_self, and_false, false_and, or_true, true_or, or_false, false_or, decide_true, decide_false, Bool.and_true, Bool.true_and, Bool.not_false, Bool.or_false, Bool.false_or, Bool.or_true, Bool.true_or, hp_MuM, hp_LuL, hp_RuR, hp_McpM, hp_LcpL, hp_LuM, hp_RuM, hp_KuM, hp_NuM, hp_nuM, hp_zuM, hp_ouM, hp_auM, hp_kuM, hp_guM, hp_MuL, hp_RuL, hp_KuL, hp_NuL, hp_nuL, hp_zuL, hp_ouL, hp_auL, hp_kuL, hp_guL, hp_MuR, hp_LuR, hp_KuR, hp_NuR, hp_nuR, hp_zuR, hp_ouR, hp_auR, hp_kuR, hp_LcpM, hp_RcpM, hp_KcpM, hp_NcpM, hp_ncpM, hp_zcpM, hp_ocpM, hp_acpM, hp_kcpM, hp_gcpM, hp_McpL, hp_RcpL, hp_KcpL, hp_NcpL, hp_ncpL, hp_zcpL, hp_ocpL, hp_acpL, hp_kcpL, hp_gcpL, hp_MwM, hp_LwM, hp_RwM, hp_KwM, hp_NwM, hp_nwM, hp_zwM, hp_owM, hp_awM, hp_kwM, hp_gwM, hp_MwR, hp_LwR, hp_RwR, hp_KwR, hp_NwR, hp_nwR, hp_zwR, hp_owR, hp_awR, hp_kwR, hp_MwL, hp_LwL, hp_RwL, hp_KwL, hp_NwL, hp_nwL, hp_zwL, hp_owL, hp_awL, hp_kwL, hp_gwL, hp_w2M, hp_w2R, hp_w2L, nI_mul, ck, bk, cv, bv]
    have r : ∀ c j, ¬ (122 ≤ c ∧ c ≤ 124 ∧ j = 6 * v + k) → mm_M (mm_uM (mm_uM (mm_uM T 122 (6 * v + k) (mm_M T 100 k)) 123 (6 * v + k) (mm_M T 97 k)) 124 (6 * v + k) (mm_M T 98 k)) c j = mm_M T c j := fun c j h => (rdn (by omega)).trans ((rdn (by omega)).trans (rdn (by omega)))
    obtain ⟨U, g1, g2⟩ := ih (k + 1) (mm_uM (mm_uM (mm_uM T 122 (6 * v + k) (mm_M T 100 k)) 123 (6 * v + k) (mm_M T 97 k)) 124 (6 * v + k) (mm_M T 98 k)) (by omega) (wM_u (wM_u (wM_u e))) (fun c j h => (r c j (by omega)).trans (hf c j h)) (fun i hi => by
      by_cases h : i = k
      · subst h
        refine ⟨(rdn (by omega)).trans ((rdn (by omega)).trans (rds.trans (hf _ _ (by omega)))), (rdn (by omega)).trans (rds.trans (hf _ _ (by omega))), rds.trans (hf _ _ (by omega))⟩
      · have := hc i (by omega)
        exact ⟨(r _ _ (by omega)).trans this.1, (r _ _ (by omega)).trans this.2.1, (r _ _ (by omega)).trans this.2.2⟩)
    exact ⟨U, st.trans g1, g2⟩
theorem s188 (hA : md_A S P D) (hv : v ≤ 12) : ∃ U, mm_cl d 188 [.ref 92, .int (nI v)] S = some (none, U) ∧ U = mm_wM S (mm_M U) ∧ (∀ c j, ¬ (122 ≤ c ∧ c ≤ 124 ∧ 6 * v ≤ j ∧ j < 6 * v + 6) → ¬ (c = 125 ∧ 5 * v ≤ j ∧ j < 5 * v + 5) → mm_M U c j = mm_M S c j) ∧ kd U v (ab_kn P) D := by
  have hw := hA.1
  have hl := row_le hA.2.2.2.1 hA.2.2.2.2
  have hk : ab_kn P ≤ 6 := hA.2.2.2.1.1
  obtain ⟨d1, d2, d3, d4, d5, d6, d7, d8⟩ := hA.2.2.1
  obtain ⟨T, g1, g2, g3, g4⟩ := m188_l (d := d) hv hw 6 0 S rfl rfl (fun _ _ _ => rfl) (fun i hi => absurd hi (Nat.not_lt_zero _))
  have wT : mm_W T := by rw [g2]; exact hw
  have bi : ∀ i, i < 5 → mm_inb (nI (5 * v + i)) 65 = true := fun i hi => hp_inb (by omega) (by omega)
  have ci : ∀ i, i < 5 → (nI (5 * v + i)).toNatClampNeg = 5 * v + i := fun i hi => nI_clamp (by omega)
  have b0 : mm_inb (nI (5 * v)) 65 = true := bi 0 (by decide)
  have c0 : (nI (5 * v)).toNatClampNeg = 5 * v := ci 0 (by decide)
  have b1 := bi 1 (by decide)
  have c1 := ci 1 (by decide)
  have b2 := bi 2 (by decide)
  have c2 := ci 2 (by decide)
  have b3 := bi 3 (by decide)
  have c3 := ci 3 (by decide)
  have b4 := bi 4 (by decide)
  have c4 := ci 4 (by decide)
  have st : mm_ex d 188 65 [.ref 92, .int (nI v), .int (nI 6)] [] T = some (none, mm_uM (mm_uM (mm_uM (mm_uM (mm_uM T 125 (5 * v) (mm_M T 92 8)) 125 (5 * v + 1) (mm_M T 92 10)) 125 (5 * v + 2) (mm_M T 92 11)) 125 (5 * v + 3) (mm_M T 92 12)) 125 (5 * v + 4) (mm_M T 92 13)) := by
    simp only [b188_65, b188_87, b188_101, b188_115, b188_129, wx_o92 wT, wx_k92 wT, wx_q92 wT, wx_g92_1 wT, wx_s92_1 wT, wx_N93 wT, wx_a93 wT, wx_g92_2 wT, wx_s92_2 wT, wx_N94 wT, wx_a94 wT, wx_g92_3 wT, wx_s92_3 wT, wx_N95 wT, wx_a95 wT, wx_g92_4 wT, wx_s92_4 wT, wx_N96 wT, wx_a96 wT, wx_g92_5 wT, wx_s92_5 wT, wx_N97 wT, wx_a97 wT, wx_g92_6 wT, wx_s92_6 wT, wx_N98 wT, wx_a98 wT, wx_g92_7 wT, wx_s92_7 wT, wx_N99 wT, wx_a99 wT, wx_g92_9 wT, wx_s92_9 wT, wx_N100 wT, wx_a100 wT, wx_g92_16 wT, wx_s92_16 wT, wx_N101 wT, wx_a101 wT, wx_g92_19 wT, wx_s92_19 wT, wx_N102 wT, wx_a102 wT, wx_g92_20 wT, wx_s92_20 wT, wx_N103 wT, wx_a103 wT, wx_g92_21 wT, wx_s92_21 wT, wx_N104 wT, wx_a104 wT, wx_g92_22 wT, wx_s92_22 wT, wx_N105 wT, wx_a105 wT, wx_g92_23 wT, wx_s92_23 wT, wx_N106 wT, wx_a106 wT, wx_g92_24 wT, wx_s92_24 wT, wx_N107 wT, wx_a107 wT, wx_g92_25 wT, wx_s92_25 wT, wx_N108 wT, wx_a108 wT, wx_g92_29 wT, wx_s92_29 wT, wx_N109 wT, wx_a109 wT, wx_g92_30 wT, wx_s92_30 wT, wx_N110 wT, wx_a110 wT, wx_g92_31 wT, wx_s92_31 wT, wx_N111 wT, wx_a111 wT, wx_g92_32 wT, wx_s92_32 wT, wx_N112 wT, wx_a112 wT, wx_g92_33 wT, wx_s92_33 wT, wx_N113 wT, wx_a113 wT, wx_g92_34 wT, wx_s92_34 wT, wx_N114 wT, wx_a114 wT, wx_g92_35 wT, wx_s92_35 wT, wx_N115 wT, wx_a115 wT, wx_g92_38 wT, wx_s92_38 wT, wx_N116 wT, wx_a116 wT, wx_g92_41 wT, wx_s92_41 wT, wx_N117 wT, wx_a117 wT, wx_g92_44 wT, wx_s92_44 wT, wx_N118 wT, wx_a118 wT, wx_g92_45 wT, wx_s92_45 wT, wx_N119 wT, wx_a119 wT, wx_g92_46 wT, wx_s92_46 wT, wx_N120 wT, wx_a120 wT, wx_g92_52 wT, wx_s92_52 wT, wx_N121 wT, wx_a121 wT, wx_g92_55 wT, wx_s92_55 wT, wx_N122 wT, wx_a122 wT, wx_g92_56 wT, wx_s92_56 wT, wx_N123 wT, wx_a123 wT, wx_g92_57 wT, wx_s92_57 wT, wx_N124 wT, wx_a124 wT, wx_g92_58 wT, wx_s92_58 wT, wx_N125 wT, wx_a125 wT, wx_g92_64 wT, wx_s92_64 wT, wx_N126 wT, wx_a126 wT, wx_g92_65 wT, wx_s92_65 wT, wx_N127 wT, wx_a127 wT, wx_g92_66 wT, wx_s92_66 wT, wx_N128 wT, wx_a128 wT, wx_g92_67 wT, wx_s92_67 wT, wx_N129 wT, wx_a129 wT, wx_g92_68 wT, wx_s92_68 wT, wx_N130 wT, wx_a130 wT, wx_g92_69 wT, wx_s92_69 wT, wx_N131 wT, wx_a131 wT, wx_g92_70 wT, wx_s92_70 wT, wx_N132 wT, wx_a132 wT, wx_g92_71 wT, wx_s92_71 wT, wx_N133 wT, wx_a133 wT, wx_g92_72 wT, wx_s92_72 wT, wx_N134 wT, wx_a134 wT, wx_g92_73 wT, wx_s92_73 wT, wx_N135 wT, wx_a135 wT, wx_g92_75 wT, wx_s92_75 wT, wx_N136 wT, wx_a136 wT, List.not_mem_nil, false_implies, implies_true, nI_clamp, nI_add, Nat.reducePow, hp_bd, hp_bdi, hp_ts, hp_tn, hp_tsc, hp_tnc, Nat.reduceAdd, Nat.reduceSub, Nat.reduceMul, Nat.reduceLT, Nat.reduceLeDiff, Nat.reduceEqDiff, reduceIte, not_true_eq_false, not_false_eq_true, and_true, true_and, and_self, and_false, false_and, or_true, true_or, or_false, false_or, decide_true, decide_false, Bool.and_true, Bool.true_and, Bool.not_false, Bool.or_false, Bool.false_or, Bool.or_true, Bool.true_or, hp_MuM, hp_LuL, hp_RuR, hp_McpM, hp_LcpL, hp_LuM, hp_RuM, hp_KuM, hp_NuM, hp_nuM, hp_zuM, hp_ouM, hp_auM, hp_kuM, hp_guM, hp_MuL, hp_RuL, hp_KuL, hp_NuL, hp_nuL, hp_zuL, hp_ouL, hp_auL, hp_kuL, hp_guL, hp_MuR, hp_LuR, hp_KuR, hp_NuR, hp_nuR, hp_zuR, hp_ouR, hp_auR, hp_kuR, hp_LcpM, hp_RcpM, hp_KcpM, hp_NcpM, hp_ncpM, hp_zcpM, hp_ocpM, hp_acpM, hp_kcpM, hp_gcpM, hp_McpL, hp_RcpL, hp_KcpL, hp_NcpL, hp_ncpL, hp_zcpL, hp_ocpL, hp_acpL, hp_kcpL, hp_gcpL, hp_MwM, hp_LwM, hp_RwM, hp_KwM, hp_NwM, hp_nwM, hp_zwM, hp_owM, hp_awM, hp_kwM, hp_gwM, hp_MwR, hp_LwR, hp_RwR, hp_KwR, hp_NwR, hp_nwR, hp_zwR, hp_owR, hp_awR, hp_kwR, hp_MwL, hp_LwL, hp_RwL, hp_KwL, hp_NwL, hp_nwL, hp_zwL, hp_owL, hp_awL, hp_kwL, hp_gwL, hp_w2M, hp_w2R, hp_w2L, nI_mul, b0, c0, b1, c1, b2, c2, b3, c3, b4, c4]
  refine ⟨mm_uM (mm_uM (mm_uM (mm_uM (mm_uM T 125 (5 * v) (mm_M T 92 8)) 125 (5 * v + 1) (mm_M T 92 10)) 125 (5 * v + 2) (mm_M T 92 11)) 125 (5 * v + 3) (mm_M T 92 12)) 125 (5 * v + 4) (mm_M T 92 13), ?_, wM_u (wM_u (wM_u (wM_u (wM_u g2)))), fun c j h1 h2 => (rdn (by omega)).trans ((rdn (by omega)).trans ((rdn (by omega)).trans ((rdn (by omega)).trans ((rdn (by omega)).trans (g3 c j h1))))), ?_⟩
  · rw [e188, b188_0]
    exact g1.trans st
  · have r : ∀ c j, c ≠ 125 → mm_M (mm_uM (mm_uM (mm_uM (mm_uM (mm_uM T 125 (5 * v) (mm_M T 92 8)) 125 (5 * v + 1) (mm_M T 92 10)) 125 (5 * v + 2) (mm_M T 92 11)) 125 (5 * v + 3) (mm_M T 92 12)) 125 (5 * v + 4) (mm_M T 92 13)) c j = mm_M T c j := fun c j h => (rdn (by omega)).trans ((rdn (by omega)).trans ((rdn (by omega)).trans ((rdn (by omega)).trans (rdn (by omega)))))
    have f : ∀ j, mm_M T 92 j = mm_M S 92 j := fun j => g3 92 j (by omega)
    refine ⟨fun p hp => (r _ _ (by decide)).trans ((g4 p (by omega)).1.trans (d2 p hp)), fun b hb => (r _ _ (by decide)).trans ((g4 b (by omega)).2.1.trans (d3 b hb)), fun b hb => (r _ _ (by decide)).trans ((g4 b (by omega)).2.2.trans (d4 b hb)), ?_, ?_, ?_, ?_, ?_⟩
    · exact (rdn (by omega)).trans ((rdn (by omega)).trans ((rdn (by omega)).trans ((rdn (by omega)).trans (rds.trans ((f 8).trans d1)))))
    · exact (rdn (by omega)).trans ((rdn (by omega)).trans ((rdn (by omega)).trans (rds.trans ((f 10).trans d5))))
    · exact (rdn (by omega)).trans ((rdn (by omega)).trans (rds.trans ((f 11).trans d6)))
    · exact (rdn (by omega)).trans (rds.trans ((f 12).trans d7))
    · exact rds.trans ((f 13).trans d8)
theorem m189_l (hv : v ≤ 12) (hw : mm_W S) : ∀ (q k : Nat) (T : mm_S), k + q = 6 → T = mm_wM S (mm_M T) → (∀ c j, ¬ (c = 100 ∨ c = 97 ∨ c = 98) → mm_M T c j = mm_M S c j) → (∀ i, i < k → mm_M T 100 i = mm_M S 122 (6 * v + i) ∧ mm_M T 97 i = mm_M S 123 (6 * v + i) ∧ mm_M T 98 i = mm_M S 124 (6 * v + i)) → ∃ U, mm_ex d 189 2 [.ref 92, .int (nI v), .int (nI k)] [] T = mm_ex d 189 65 [.ref 92, .int (nI v), .int (nI 6)] [] U ∧ U = mm_wM S (mm_M U) ∧ (∀ c j, ¬ (c = 100 ∨ c = 97 ∨ c = 98) → mm_M U c j = mm_M S c j) ∧ (∀ i, i < 6 → mm_M U 100 i = mm_M S 122 (6 * v + i) ∧ mm_M U 97 i = mm_M S 123 (6 * v + i) ∧ mm_M U 98 i = mm_M S 124 (6 * v + i)) := by
  intro q
  induction q with
  | zero =>
    intro k T hk e hf hc
    have e2 : k = 6 := by omega
    subst e2
    exact ⟨T, by rw [b189_2, if_pos (by decide)], e, hf, hc⟩
  | succ q ih =>
    intro k T hk e hf hc
    have wT : mm_W T := by rw [e]; exact hw
    have ck : (nI k).toNatClampNeg = k := nI_clamp (by omega)
    have bk : mm_inb (nI k) 6 = true := hp_inb (by omega) (by omega)
    have cv : (nI (6 * v + k)).toNatClampNeg = 6 * v + k := nI_clamp (by omega)
    have bv : mm_inb (nI (6 * v + k)) 78 = true := hp_inb (by omega) (by omega)
    have st : mm_ex d 189 2 [.ref 92, .int (nI v), .int (nI k)] [] T = mm_ex d 189 2 [.ref 92, .int (nI v), .int (nI (k + 1))] [] (mm_uM (mm_uM (mm_uM T 100 k (mm_M T 122 (6 * v + k))) 97 k (mm_M T 123 (6 * v + k))) 98 k (mm_M T 124 (6 * v + k))) := by
      rw [b189_2, if_neg (nI_ge (by omega) (by omega))]
      simp only [b189_8, b189_40, b189_57, wx_o92 wT, wx_k92 wT, wx_q92 wT, wx_g92_1 wT, wx_s92_1 wT, wx_N93 wT, wx_a93 wT, wx_g92_2 wT, wx_s92_2 wT, wx_N94 wT, wx_a94 wT, wx_g92_3 wT, wx_s92_3 wT, wx_N95 wT, wx_a95 wT, wx_g92_4 wT, wx_s92_4 wT, wx_N96 wT, wx_a96 wT, wx_g92_5 wT, wx_s92_5 wT, wx_N97 wT, wx_a97 wT, wx_g92_6 wT, wx_s92_6 wT, wx_N98 wT, wx_a98 wT, wx_g92_7 wT, wx_s92_7 wT, wx_N99 wT, wx_a99 wT, wx_g92_9 wT, wx_s92_9 wT, wx_N100 wT, wx_a100 wT, wx_g92_16 wT, wx_s92_16 wT, wx_N101 wT, wx_a101 wT, wx_g92_19 wT, wx_s92_19 wT, wx_N102 wT, wx_a102 wT, wx_g92_20 wT, wx_s92_20 wT, wx_N103 wT, wx_a103 wT, wx_g92_21 wT, wx_s92_21 wT, wx_N104 wT, wx_a104 wT, wx_g92_22 wT, wx_s92_22 wT, wx_N105 wT, wx_a105 wT, wx_g92_23 wT, wx_s92_23 wT, wx_N106 wT, wx_a106 wT, wx_g92_24 wT, wx_s92_24 wT, wx_N107 wT, wx_a107 wT, wx_g92_25 wT, wx_s92_25 wT, wx_N108 wT, wx_a108 wT, wx_g92_29 wT, wx_s92_29 wT, wx_N109 wT, wx_a109 wT, wx_g92_30 wT, wx_s92_30 wT, wx_N110 wT, wx_a110 wT, wx_g92_31 wT, wx_s92_31 wT, wx_N111 wT, wx_a111 wT, wx_g92_32 wT, wx_s92_32 wT, wx_N112 wT, wx_a112 wT, wx_g92_33 wT, wx_s92_33 wT, wx_N113 wT, wx_a113 wT, wx_g92_34 wT, wx_s92_34 wT, wx_N114 wT, wx_a114 wT, wx_g92_35 wT, wx_s92_35 wT, wx_N115 wT, wx_a115 wT, wx_g92_38 wT, wx_s92_38 wT, wx_N116 wT, wx_a116 wT, wx_g92_41 wT, wx_s92_41 wT, wx_N117 wT, wx_a117 wT, wx_g92_44 wT, wx_s92_44 wT, wx_N118 wT, wx_a118 wT, wx_g92_45 wT, wx_s92_45 wT, wx_N119 wT, wx_a119 wT, wx_g92_46 wT, wx_s92_46 wT, wx_N120 wT, wx_a120 wT, wx_g92_52 wT, wx_s92_52 wT, wx_N121 wT, wx_a121 wT, wx_g92_55 wT, wx_s92_55 wT, wx_N122 wT, wx_a122 wT, wx_g92_56 wT, wx_s92_56 wT, wx_N123 wT, wx_a123 wT, wx_g92_57 wT, wx_s92_57 wT, wx_N124 wT, wx_a124 wT, wx_g92_58 wT, wx_s92_58 wT, wx_N125 wT, wx_a125 wT, wx_g92_64 wT, wx_s92_64 wT, wx_N126 wT, wx_a126 wT, wx_g92_65 wT, wx_s92_65 wT, wx_N127 wT, wx_a127 wT, wx_g92_66 wT, wx_s92_66 wT, wx_N128 wT, wx_a128 wT, wx_g92_67 wT, wx_s92_67 wT, wx_N129 wT, wx_a129 wT, wx_g92_68 wT, wx_s92_68 wT, wx_N130 wT, wx_a130 wT, wx_g92_69 wT, wx_s92_69 wT, wx_N131 wT, wx_a131 wT, wx_g92_70 wT, wx_s92_70 wT, wx_N132 wT, wx_a132 wT, wx_g92_71 wT, wx_s92_71 wT, wx_N133 wT, wx_a133 wT, wx_g92_72 wT, wx_s92_72 wT, wx_N134 wT, wx_a134 wT, wx_g92_73 wT, wx_s92_73 wT, wx_N135 wT, wx_a135 wT, wx_g92_75 wT, wx_s92_75 wT, wx_N136 wT, wx_a136 wT, List.not_mem_nil, false_implies, implies_true, nI_clamp, nI_add, Nat.reducePow, hp_bd, hp_bdi, hp_ts, hp_tn, hp_tsc, hp_tnc, Nat.reduceAdd, Nat.reduceSub, Nat.reduceMul, Nat.reduceLT, Nat.reduceLeDiff, Nat.reduceEqDiff, reduceIte, not_true_eq_false, not_false_eq_true, and_true, true_and, and_self, and_false, false_and, or_true, true_or, or_false, false_or, decide_true, decide_false, Bool.and_true, Bool.true_and, Bool.not_false, Bool.or_false, Bool.false_or, Bool.or_true, Bool.true_or, hp_MuM, hp_LuL, hp_RuR, hp_McpM, hp_LcpL, hp_LuM, hp_RuM, hp_KuM, hp_NuM, hp_nuM, hp_zuM, hp_ouM, hp_auM, hp_kuM, hp_guM, hp_MuL, hp_RuL, hp_KuL, hp_NuL, hp_nuL, hp_zuL, hp_ouL, hp_auL, hp_kuL, hp_guL, hp_MuR, hp_LuR, hp_KuR, hp_NuR, hp_nuR, hp_zuR, hp_ouR, hp_auR, hp_kuR, hp_LcpM, hp_RcpM, hp_KcpM, hp_NcpM, hp_ncpM, hp_zcpM, hp_ocpM, hp_acpM, hp_kcpM, hp_gcpM, hp_McpL, hp_RcpL, hp_KcpL, hp_NcpL, hp_ncpL, hp_zcpL, hp_ocpL, hp_acpL, hp_kcpL, hp_gcpL, hp_MwM, hp_LwM, hp_RwM, hp_KwM, hp_NwM, hp_nwM, hp_zwM, hp_owM, hp_awM, hp_kwM, hp_gwM, hp_MwR, hp_LwR, hp_RwR, hp_KwR, hp_NwR, hp_nwR, hp_zwR, hp_owR, hp_awR, hp_kwR, hp_MwL, hp_LwL, hp_RwL, hp_KwL, hp_NwL, hp_nwL, hp_zwL, hp_owL, hp_awL, hp_kwL, hp_gwL, hp_w2M, hp_w2R, hp_w2L, nI_mul, ck, bk, cv, bv]
    have r : ∀ c j, ¬ ((c = 100 ∨ c = 97 ∨ c = 98) ∧ j = k) → mm_M (mm_uM (mm_uM (mm_uM T 100 k (mm_M T 122 (6 * v + k))) 97 k (mm_M T 123 (6 * v + k))) 98 k (mm_M T 124 (6 * v + k))) c j = mm_M T c j := fun c j h => (rdn (by omega)).trans ((rdn (by omega)).trans (rdn (by omega)))
    obtain ⟨U, g1, g2⟩ := ih (k + 1) (mm_uM (mm_uM (mm_uM T 100 k (mm_M T 122 (6 * v + k))) 97 k (mm_M T 123 (6 * v + k))) 98 k (mm_M T 124 (6 * v + k))) (by omega) (wM_u (wM_u (wM_u e))) (fun c j h => (r c j (by omega)).trans (hf c j h)) (fun i hi => by
      by_cases h : i = k
      · subst h
        refine ⟨(rdn (by omega)).trans ((rdn (by omega)).trans (rds.trans (hf _ _ (by omega)))), (rdn (by omega)).trans (rds.trans (hf _ _ (by omega))), rds.trans (hf _ _ (by omega))⟩
      · have := hc i (by omega)
        exact ⟨(r _ _ (by omega)).trans this.1, (r _ _ (by omega)).trans this.2.1, (r _ _ (by omega)).trans this.2.2⟩)
    exact ⟨U, st.trans g1, g2⟩
theorem s189 (hw : mm_W S) (hk : kd S v n D) (hn : n ≤ 6) (hl : (ab_row D).length ≤ 6) (hv : v ≤ 12) : ∃ U, mm_cl d 189 [.ref 92, .int (nI v)] S = some (none, U) ∧ md_fr S U ∧ md_D U n D := by
  obtain ⟨k1, k2, k3, k4, k5, k6, k7, k8⟩ := hk
  obtain ⟨T, g1, g2, g3, g4⟩ := m189_l (d := d) hv hw 6 0 S rfl rfl (fun _ _ _ => rfl) (fun i hi => absurd hi (Nat.not_lt_zero _))
  have wT : mm_W T := by rw [g2]; exact hw
  have bi : ∀ i, i < 5 → mm_inb (nI (5 * v + i)) 65 = true := fun i hi => hp_inb (by omega) (by omega)
  have ci : ∀ i, i < 5 → (nI (5 * v + i)).toNatClampNeg = 5 * v + i := fun i hi => nI_clamp (by omega)
  have b0 : mm_inb (nI (5 * v)) 65 = true := bi 0 (by decide)
  have c0 : (nI (5 * v)).toNatClampNeg = 5 * v := ci 0 (by decide)
  have b1 := bi 1 (by decide)
  have c1 := ci 1 (by decide)
  have b2 := bi 2 (by decide)
  have c2 := ci 2 (by decide)
  have b3 := bi 3 (by decide)
  have c3 := ci 3 (by decide)
  have b4 := bi 4 (by decide)
  have c4 := ci 4 (by decide)
  have st : mm_ex d 189 65 [.ref 92, .int (nI v), .int (nI 6)] [] T = some (none, mm_uM (mm_uM (mm_uM (mm_uM (mm_uM T 92 8 (mm_M T 125 (5 * v))) 92 10 (mm_M T 125 (5 * v + 1))) 92 11 (mm_M T 125 (5 * v + 2))) 92 12 (mm_M T 125 (5 * v + 3))) 92 13 (mm_M T 125 (5 * v + 4))) := by
    simp only [b189_65, b189_87, b189_101, b189_115, b189_129, wx_o92 wT, wx_k92 wT, wx_q92 wT, wx_g92_1 wT, wx_s92_1 wT, wx_N93 wT, wx_a93 wT, wx_g92_2 wT, wx_s92_2 wT, wx_N94 wT, wx_a94 wT, wx_g92_3 wT, wx_s92_3 wT, wx_N95 wT, wx_a95 wT, wx_g92_4 wT, wx_s92_4 wT, wx_N96 wT, wx_a96 wT, wx_g92_5 wT, wx_s92_5 wT, wx_N97 wT, wx_a97 wT, wx_g92_6 wT, wx_s92_6 wT, wx_N98 wT, wx_a98 wT, wx_g92_7 wT, wx_s92_7 wT, wx_N99 wT, wx_a99 wT, wx_g92_9 wT, wx_s92_9 wT, wx_N100 wT, wx_a100 wT, wx_g92_16 wT, wx_s92_16 wT, wx_N101 wT, wx_a101 wT, wx_g92_19 wT, wx_s92_19 wT, wx_N102 wT, wx_a102 wT, wx_g92_20 wT, wx_s92_20 wT, wx_N103 wT, wx_a103 wT, wx_g92_21 wT, wx_s92_21 wT, wx_N104 wT, wx_a104 wT, wx_g92_22 wT, wx_s92_22 wT, wx_N105 wT, wx_a105 wT, wx_g92_23 wT, wx_s92_23 wT, wx_N106 wT, wx_a106 wT, wx_g92_24 wT, wx_s92_24 wT, wx_N107 wT, wx_a107 wT, wx_g92_25 wT, wx_s92_25 wT, wx_N108 wT, wx_a108 wT, wx_g92_29 wT, wx_s92_29 wT, wx_N109 wT, wx_a109 wT, wx_g92_30 wT, wx_s92_30 wT, wx_N110 wT, wx_a110 wT, wx_g92_31 wT, wx_s92_31 wT, wx_N111 wT, wx_a111 wT, wx_g92_32 wT, wx_s92_32 wT, wx_N112 wT, wx_a112 wT, wx_g92_33 wT, wx_s92_33 wT, wx_N113 wT, wx_a113 wT, wx_g92_34 wT, wx_s92_34 wT, wx_N114 wT, wx_a114 wT, wx_g92_35 wT, wx_s92_35 wT, wx_N115 wT, wx_a115 wT, wx_g92_38 wT, wx_s92_38 wT, wx_N116 wT, wx_a116 wT, wx_g92_41 wT, wx_s92_41 wT, wx_N117 wT, wx_a117 wT, wx_g92_44 wT, wx_s92_44 wT, wx_N118 wT, wx_a118 wT, wx_g92_45 wT, wx_s92_45 wT, wx_N119 wT, wx_a119 wT, wx_g92_46 wT, wx_s92_46 wT, wx_N120 wT, wx_a120 wT, wx_g92_52 wT, wx_s92_52 wT, wx_N121 wT, wx_a121 wT, wx_g92_55 wT, wx_s92_55 wT, wx_N122 wT, wx_a122 wT, wx_g92_56 wT, wx_s92_56 wT, wx_N123 wT, wx_a123 wT, wx_g92_57 wT, wx_s92_57 wT, wx_N124 wT, wx_a124 wT, wx_g92_58 wT, wx_s92_58 wT, wx_N125 wT, wx_a125 wT, wx_g92_64 wT, wx_s92_64 wT, wx_N126 wT, wx_a126 wT, wx_g92_65 wT, wx_s92_65 wT, wx_N127 wT, wx_a127 wT, wx_g92_66 wT, wx_s92_66 wT, wx_N128 wT, wx_a128 wT, wx_g92_67 wT, wx_s92_67 wT, wx_N129 wT, wx_a129 wT, wx_g92_68 wT, wx_s92_68 wT, wx_N130 wT, wx_a130 wT, wx_g92_69 wT, wx_s92_69 wT, wx_N131 wT, wx_a131 wT, wx_g92_70 wT, wx_s92_70 wT, wx_N132 wT, wx_a132 wT, wx_g92_71 wT, wx_s92_71 wT, wx_N133 wT, wx_a133 wT, wx_g92_72 wT, wx_s92_72 wT, wx_N134 wT, wx_a134 wT, wx_g92_73 wT, wx_s92_73 wT, wx_N135 wT, wx_a135 wT, wx_g92_75 wT, wx_s92_75 wT, wx_N136 wT, wx_a136 wT, List.not_mem_nil, false_implies, implies_true, nI_clamp, nI_add, Nat.reducePow, hp_bd, hp_bdi, hp_ts, hp_tn, hp_tsc, hp_tnc, Nat.reduceAdd, Nat.reduceSub, Nat.reduceMul, Nat.reduceLT, Nat.reduceLeDiff, Nat.reduceEqDiff, reduceIte, not_true_eq_false, not_false_eq_true, and_true, true_and, and_self, and_false, false_and, or_true, true_or, or_false, false_or, decide_true, decide_false, Bool.and_true, Bool.true_and, Bool.not_false, Bool.or_false, Bool.false_or, Bool.or_true, Bool.true_or, hp_MuM, hp_LuL, hp_RuR, hp_McpM, hp_LcpL, hp_LuM, hp_RuM, hp_KuM, hp_NuM, hp_nuM, hp_zuM, hp_ouM, hp_auM, hp_kuM, hp_guM, hp_MuL, hp_RuL, hp_KuL, hp_NuL, hp_nuL, hp_zuL, hp_ouL, hp_auL, hp_kuL, hp_guL, hp_MuR, hp_LuR, hp_KuR, hp_NuR, hp_nuR, hp_zuR, hp_ouR, hp_auR, hp_kuR, hp_LcpM, hp_RcpM, hp_KcpM, hp_NcpM, hp_ncpM, hp_zcpM, hp_ocpM, hp_acpM, hp_kcpM, hp_gcpM, hp_McpL, hp_RcpL, hp_KcpL, hp_NcpL, hp_ncpL, hp_zcpL, hp_ocpL, hp_acpL, hp_kcpL, hp_gcpL, hp_MwM, hp_LwM, hp_RwM, hp_KwM, hp_NwM, hp_nwM, hp_zwM, hp_owM, hp_awM, hp_kwM, hp_gwM, hp_MwR, hp_LwR, hp_RwR, hp_KwR, hp_NwR, hp_nwR, hp_zwR, hp_owR, hp_awR, hp_kwR, hp_MwL, hp_LwL, hp_RwL, hp_KwL, hp_NwL, hp_nwL, hp_zwL, hp_owL, hp_awL, hp_kwL, hp_gwL, hp_w2M, hp_w2R, hp_w2L, nI_mul, b0, c0, b1, c1, b2, c2, b3, c3, b4, c4]
  have r : ∀ c j, c ≠ 92 → mm_M (mm_uM (mm_uM (mm_uM (mm_uM (mm_uM T 92 8 (mm_M T 125 (5 * v))) 92 10 (mm_M T 125 (5 * v + 1))) 92 11 (mm_M T 125 (5 * v + 2))) 92 12 (mm_M T 125 (5 * v + 3))) 92 13 (mm_M T 125 (5 * v + 4))) c j = mm_M T c j := fun c j h => (rdn (by omega)).trans ((rdn (by omega)).trans ((rdn (by omega)).trans ((rdn (by omega)).trans (rdn (by omega)))))
  have f : ∀ j, mm_M T 125 j = mm_M S 125 j := fun j => g3 125 j (by omega)
  refine ⟨mm_uM (mm_uM (mm_uM (mm_uM (mm_uM T 92 8 (mm_M T 125 (5 * v))) 92 10 (mm_M T 125 (5 * v + 1))) 92 11 (mm_M T 125 (5 * v + 2))) 92 12 (mm_M T 125 (5 * v + 3))) 92 13 (mm_M T 125 (5 * v + 4)), ?_, ⟨wM_u (wM_u (wM_u (wM_u (wM_u g2)))), fun c j hc => ?_⟩, ?_, fun p hp => (r _ _ (by decide)).trans ((g4 p (by omega)).1.trans (k1 p hp)), fun b hb => (r _ _ (by decide)).trans ((g4 b (by omega)).2.1.trans (k2 b hb)), fun b hb => (r _ _ (by decide)).trans ((g4 b (by omega)).2.2.trans (k3 b hb)), ?_, ?_, ?_, ?_⟩
  · rw [e189, b189_0]
    exact g1.trans st
  · unfold md_dc at hc
    exact (rdn (by omega)).trans ((rdn (by omega)).trans ((rdn (by omega)).trans ((rdn (by omega)).trans ((rdn (by omega)).trans (g3 c j (by omega))))))
  · exact (rdn (by omega)).trans ((rdn (by omega)).trans ((rdn (by omega)).trans ((rdn (by omega)).trans (rds.trans ((f _).trans k4)))))
  · exact (rdn (by omega)).trans ((rdn (by omega)).trans ((rdn (by omega)).trans (rds.trans ((f _).trans k5))))
  · exact (rdn (by omega)).trans ((rdn (by omega)).trans (rds.trans ((f _).trans k6)))
  · exact (rdn (by omega)).trans (rds.trans ((f _).trans k7))
  · exact rds.trans ((f _).trans k8)
theorem A_lo (hA : md_A S P D) (hw : mm_W T) (g : ∀ c j, c < 108 → mm_M T c j = mm_M S c j) : md_A T P D := by
  obtain ⟨-, hP, ⟨d1, d2, d3, d4, d5, d6, d7, d8⟩, oP, oD⟩ := hA
  exact ⟨hw, mP_of (fun c j q => g c j (by omega)) hP, ⟨(g _ _ (by omega)).trans d1, fun p hp => (g _ _ (by omega)).trans (d2 p hp), fun b hb => (g _ _ (by omega)).trans (d3 b hb), fun b hb => (g _ _ (by omega)).trans (d4 b hb), (g _ _ (by omega)).trans d5, (g _ _ (by omega)).trans d6, (g _ _ (by omega)).trans d7, (g _ _ (by omega)).trans d8⟩, oP, oD⟩
end QM6
end
section
/-! ===== questions of the reference: sure, all that may come ===== -/
def m190_H (d b s q : Nat) (P : ab_P) : Prop := ∀ (v : Nat) (T : mm_S) (D : ab_D) (w : Int64) (a : Int64 × Bool), v + q = 12 → md_A T P D → mm_M T 92 14 = nI s → sa T a → ∃ U, mm_cl (d + q + 9) 190 [.ref 92, .int (nI b), .int (nI v), .long w] T = some (none, U) ∧ md_A U P D ∧ SQ T U ∧ sa U (ab_sq P b s q D w a) ∧ dq v T U
section QM7
variable {S T U : mm_S} {G : gb_G} {P : ab_P} {D E : ab_D} {b c d n k i j p m o v s q e : Nat} {x w y : Int32} {r l L : List Nat} {a : Int64 × Bool} {t : Int64}
theorem A_nX (hA : md_A S P D) (hw : mm_W T) (g : ∀ c j, nX c j → mm_M T c j = mm_M S c j) : md_A T P D := ⟨hw, mt_P g hA.2.1, mt_D hA.2.2.2.1.1 (row_le hA.2.2.2.1 hA.2.2.2.2) g hA.2.2.1, hA.2.2.2⟩
theorem SQ_14 (h : SQ S T) : mm_M T 92 14 = mm_M S 92 14 := (h.1.1 92 14 (by unfold gm_v md_dc; omega)).1
theorem sa_uL (h : mm_L S 92 53 = a.1) (h2 : mm_M S 92 54 = if a.2 = true then nI 1 else nI 0) : sa (mm_uL S 92 53 (a.1 + t)) (a.1 + t, a.2) := ⟨by rw [hp_LuL, if_pos ⟨rfl, rfl⟩], h2⟩
/-- a turn, what may come of it, and all laid back -/
theorem m190_sub (IH : m190_H d b s q P) (hv : v + 1 + q = 12) (hA : md_A T P D) (hk : kd T v (ab_kn P) D) (h14 : mm_M T 92 14 = nI s) (hs : sa T a) {h : Nat} {r : List Nat} (hr : ab_row D = h :: r) {act : Nat} (ha : act = 1 ∨ act = 2 ∨ act = 3) (hlo : 0 < ab_lo D) (hm : act = 3 → ab_may P D h = true) : ∃ X Y U, mm_cl (d + q + 9) 169 [.ref 92, .int (nI act)] T = some (none, X) ∧ mm_cl (d + q + 9) 190 [.ref 92, .int (nI b), .int (nI (v + 1)), .long t] X = some (none, Y) ∧ mm_cl (d + q + 9) 189 [.ref 92, .int (nI v)] Y = some (none, U) ∧ mm_W X ∧ mm_W Y ∧ md_A U P D ∧ SQ T U ∧ sa U (ab_sq P b s q (ab_does P D act) t a) ∧ dq v T U ∧ kd U v (ab_kn P) D := by
  have hk6 : ab_kn P ≤ 6 := hA.2.2.2.1.1
  have hl6 := row_le hA.2.2.2.1 hA.2.2.2.2
  have edo : ab_does P D act = ab_do P D h r act := by unfold ab_does; rw [hr]
  obtain ⟨X, g1, g2, g3, -⟩ := s169 (d := d + q + 4) hA hr ha hlo hm
  rw [← edo] at g3
  have q1 := SQ_md g2
  obtain ⟨Y, g4, g5, g6, g7, g8⟩ := IH (v + 1) X (ab_does P D act) t a hv g3 ((SQ_14 q1).trans h14) (sa_md g2 hs)
  have kY : kd Y v (ab_kn P) D := kd_q hk6 hl6 (dq_tr (dq_md g2) g8) hk
  obtain ⟨U, g9, g10, g11⟩ := s189 (d := d + q + 9) g5.1 kY hk6 hl6 (by omega)
  refine ⟨X, Y, U, g1, g4, g9, g3.1, g5.1, ⟨mf_W g10 g5.1, mf_P g10 g5.2.1, g11, hA.2.2.2⟩, SQ_tr q1 (SQ_tr g6 (SQ_md g10)), sa_md g10 g7, dq_tr (dq_md g2) (dq_tr (dq_le g8) (dq_md g10)), kd_q hk6 hl6 (dq_md g10) kY⟩
theorem m190_all (hs9 : s ≤ 10) (hb : b < 6) : ∀ q, m190_H d b s q P := by
  intro q
  induction q with
  | zero =>
    intro v T D w a hv hA h14 hs
    have hw := hA.1
    have e12 : v = 12 := by omega
    subst e12
    by_cases w0 : w = 0
    · refine ⟨T, ?_, hA, SQ_rf, ?_, dq_rf⟩
      · rw [e190, b190_0, if_pos (lg_0.mpr w0), b190_13]
      · unfold ab_sq
        rw [if_pos (Or.inl w0)]
        exact hs
    cases hc : ab_com D with
    | false =>
      refine ⟨T, ?_, hA, SQ_rf, ?_, dq_rf⟩
      · rw [e190, b190_0, if_neg (fun z => w0 (lg_0.mp z)), b190_6 (wx_k92 hw), s168w hA, hp_bd, hp_ts, b190_10, hc, if_pos (by decide), b190_13]
      · unfold ab_sq
        rw [if_pos (Or.inr hc)]
        exact hs
    | true =>
      refine ⟨mm_uM T 92 54 (nI 1), ?_, A_nX hA hw (fun c j hcj => rdn (by unfold nX at hcj; omega)), ⟨sf_uM (by unfold gm_v; omega), rfl, rfl⟩, ?_, fun c j hcj => rdn (by omega)⟩
      · rw [e190, b190_0, if_neg (fun z => w0 (lg_0.mp z)), b190_6 (wx_k92 hw), s168w hA, hp_bd, hp_ts, b190_10, hc, if_pos rfl, if_neg i01, b190_14, if_pos rfl, b190_20 (wx_o92 hw)]
      · have e : ab_sq P b s 0 D w a = (a.1, true) := by
          unfold ab_sq
          rw [if_neg (fun z => Or.elim z w0 (fun z => by rw [hc] at z; cases z))]
        rw [e]
        exact ⟨hs.1, rds⟩
  | succ q ih =>
    intro v T D w a hv hA h14 hs
    have hw := hA.1
    show ∃ U, mm_cl (d + q + 9 + 1) 190 [.ref 92, .int (nI b), .int (nI v), .long w] T = some (none, U) ∧ _
    have esq : ab_sq P b s (q + 1) D w a = if w = 0 ∨ ab_com D = false then a else if ab_ha P D = 1 then ab_sq P b s q (ab_does P D 2) (w / 10 * (nI s).toInt64) (ab_sq P b s q (ab_does P D 1) (w - w / 10 * (nI s).toInt64) (a.1 + (if (ab_row D).headD 0 = b then w - w / 10 * (nI s).toInt64 else 0), a.2)) else ab_sq P b s q (ab_does P D (ab_ha P D)) w a := rfl
    by_cases w0 : w = 0
    · refine ⟨T, ?_, hA, SQ_rf, ?_, dq_rf⟩
      · rw [e190, b190_0, if_pos (lg_0.mpr w0), b190_13]
      · rw [esq, if_pos (Or.inl w0)]
        exact hs
    cases hc : ab_com D with
    | false =>
      refine ⟨T, ?_, hA, SQ_rf, ?_, dq_rf⟩
      · rw [e190, b190_0, if_neg (fun z => w0 (lg_0.mp z)), b190_6 (wx_k92 hw), s168w hA, hp_bd, hp_ts, b190_10, hc, if_pos (by decide), b190_13]
      · rw [esq, if_pos (Or.inr hc)]
        exact hs
    | true =>
      rw [esq, if_neg (fun z => Or.elim z w0 (fun z => by rw [hc] at z; cases z))]
      obtain ⟨h, r, hr, hlo⟩ := com_row hc
      have hhb : h < ab_kn P := hA.2.2.2.2.2.1 h (by rw [hr]; exact List.mem_cons_self)
      have hk6 : ab_kn P ≤ 6 := hA.2.2.2.1.1
      have hh := hA.2.2.1.2.1 0 (by rw [hr]; exact Nat.succ_pos _)
      rw [hr] at hh
      have hh : mm_M T 100 0 = nI h := hh
      have hmem : h ∈ ab_row D := by rw [hr]; exact List.mem_cons_self
      have eo : ab_oth D h = (ab_row D).length - 1 := if_pos hmem
      have eha : ab_ha P D = ab_act P D h ((ab_row D).length - 1) := by unfold ab_ha; rw [hr]; rfl
      have ehd : (ab_row D).headD 0 = h := by rw [hr]; rfl
      have ok := @ab_act_ok P D h ((ab_row D).length - 1) hA.2.2.2.1 hA.2.2.2.2 hhb
      have h3 := act_123 (o := (ab_row D).length - 1) hA.2.2.2.1 hA.2.2.2.2 hhb
      rw [← eha] at ok h3
      obtain ⟨U1, g1', g2⟩ := s166 (d := d + q + 1) hA hhb
      rw [eo, ← eha] at g1'
      have g1 : mm_cl (d + q + 9) 166 [.ref 92, .int (nI h)] T = some (some (.int (nI (ab_ha P D))), U1) := g1'
      have A1 := mq_A g2 hA
      have w1 := A1.1
      obtain ⟨V, g3, g4, g5, kV⟩ := s188 (d := d + q + 9) A1 (show v ≤ 12 by omega)
      have wV : mm_W V := by rw [g4]; exact w1
      have AV : md_A V P D := A_nX A1 wV (fun c j hcj => g5 c j (by unfold nX at hcj; omega) (by unfold nX at hcj; omega))
      have qV : SQ T V := SQ_tr (SQ_md (mf_q g2)) (SQ_wM g4 (fun c j hcj => g5 c j (by unfold gm_v md_dc at hcj; omega) (by unfold gm_v md_dc at hcj; omega)))
      have dV : dq v T V := fun c j hcj => (g5 c j (by omega) (by omega)).trans (g2.2 c j (by omega))
      have sV : sa V a := ⟨by rw [g4]; exact (sa_md (mf_q g2) hs).1, (g5 92 54 (by omega) (by omega)).trans (sa_md (mf_q g2) hs).2⟩
      have h14V := (SQ_14 qV).trans h14
      have hhV : mm_M V 100 0 = nI h := ((g5 100 0 (by omega) (by omega)).trans (g2.2 100 0 (by decide))).trans hh
      have n12 : ¬ nI v = nI 12 := fun z => by
        have := (nI_eq (by omega) (by omega)).mp z
        omega
      have st : mm_cl (d + q + 9 + 1) 190 [.ref 92, .int (nI b), .int (nI v), .long w] T = if nI (ab_ha P D) = nI 1 then mm_ex (d + q + 9 + 1) 190 67 [.ref 92, .int (nI b), .int (nI v), .long w, .null, .int (nI (ab_ha P D)), .null, .null] [] V else mm_ex (d + q + 9 + 1) 190 49 [.ref 92, .int (nI b), .int (nI v), .long w, .null, .int (nI (ab_ha P D)), .null, .null] [] V := by
        rw [e190, b190_0, if_neg (fun z => w0 (lg_0.mp z)), b190_6 (wx_k92 hw), s168w hA, hp_bd, hp_ts, b190_10, hc, if_pos rfl, if_neg i01, b190_14, if_neg n12, b190_26 (wx_o92 hw) (wx_s92_9 hw) (by rw [wx_g92_9 hw, wx_N100 hw]; rfl) (by rw [wx_g92_9 hw]; exact wx_a100 hw) (wx_k92 hw), wx_g92_9 hw, show (nI 0).toNatClampNeg = 0 from rfl, hh, g1, hp_bd, hp_ts, b190_36 (wx_k92 w1), g3, hp_bd, hp_tn, b190_43]
      by_cases h1 : ab_ha P D = 1
      · rw [if_pos h1]
        rw [if_pos (by rw [h1])] at st
        have key : ∀ (t : Int64), t = (if (ab_row D).headD 0 = b then w - w / 10 * (nI s).toInt64 else 0) → mm_cl (d + q + 9 + 1) 190 [.ref 92, .int (nI b), .int (nI v), .long w] T = mm_bd (mm_cl (d + q + 9) 169 [.ref 92, .int (nI 1)] (mm_uL V 92 53 (a.1 + t))) (fun u S2 => mm_ex (d + q + 9 + 1) 190 112 [.ref 92, .int (nI b), .int (nI v), .long w, .null, .int (nI (ab_ha P D)), .long (w / 10 * (nI s).toInt64), .null] (u.toList ++ []) S2) := by
          intro t ht
          have e0 : (nI h = nI b) = (h = b) := propext (nI_eq (by omega) (by omega))
          rw [st, b190_67 (wx_o92 wV) (wx_s92_9 wV) (by rw [wx_g92_9 wV, wx_N100 wV]; rfl) (by rw [wx_g92_9 wV]; exact wx_a100 wV), wx_g92_9 wV, show (nI 0).toNatClampNeg = 0 from rfl, hhV, h14V, sV.1]
          rw [ehd] at ht
          by_cases hb2 : h = b
          · rw [if_pos (by rw [e0]; exact hb2), b190_95 (wx_o92 wV) (wx_k92 wV), ht, if_pos hb2]
          · rw [if_neg (by rw [e0]; exact hb2), b190_102 (wx_o92 wV) (wx_k92 wV), ht, if_neg hb2]
        have key := key _ rfl
        generalize (if (ab_row D).headD 0 = b then w - w / 10 * (nI s).toInt64 else 0) = t at key ⊢
        have wV2 : mm_W (mm_uL V 92 53 (a.1 + t)) := wV
        have AV2 : md_A (mm_uL V 92 53 (a.1 + t)) P D := A_nX AV wV2 (fun _ _ _ => rfl)
        have qV2 : SQ V (mm_uL V 92 53 (a.1 + t)) := ⟨sf_uL (by unfold gm_v; omega), rfl, rfl⟩
        obtain ⟨X1, Y1, U2, f1, f2, f3, f4, f5, f6, f7, f8, f9, f10⟩ := m190_sub (t := w - w / 10 * (nI s).toInt64) ih (by omega) AV2 (v := v) kV h14V (sa_uL sV.1 sV.2) hr (act := 1) (Or.inl rfl) hlo (fun z => by cases z)
        obtain ⟨X2, Y2, U3, e1, e2, e3, e4, e5, e6, e7, e8, e9, e10⟩ := m190_sub (t := w / 10 * (nI s).toInt64) ih (by omega) f6 (v := v) f10 ((SQ_14 (SQ_tr qV2 f7)).trans h14V) f8 hr (act := 2) (Or.inr (Or.inl rfl)) hlo (fun z => by cases z)
        refine ⟨U3, ?_, e6, SQ_tr qV (SQ_tr qV2 (SQ_tr f7 e7)), e8, dq_tr dV (dq_tr (fun _ _ _ => rfl) (dq_tr f9 e9))⟩
        rw [key, f1, hp_bd, hp_tn, b190_112 (wx_k92 f4), nI_add, f2, hp_bd, hp_tn, b190_124 (wx_k92 f5), f3, hp_bd, hp_tn, b190_129 (wx_k92 f6.1), e1, hp_bd, hp_tn, b190_134 (wx_k92 e4), nI_add, e2, hp_bd, hp_tn, b190_144 (wx_k92 e5), e3, hp_bd, hp_tn, b190_149]
      · rw [if_neg h1]
        rw [if_neg (fun z => h1 ((nI_eq (by omega) (by omega)).mp z))] at st
        obtain ⟨X1, Y1, U2, f1, f2, f3, f4, f5, f6, f7, f8, f9, f10⟩ := m190_sub (t := w) ih (by omega) AV (v := v) kV h14V sV hr (act := ab_ha P D) h3 hlo ok.2.2
        refine ⟨U2, ?_, f6, SQ_tr qV f7, f8, dq_tr dV f9⟩
        rw [st, b190_49 (wx_k92 wV), f1, hp_bd, hp_tn, b190_55 (wx_k92 f4), nI_add, f2, hp_bd, hp_tn, b190_64 (wx_k92 f5), f3, hp_bd, hp_tn, b190_149]
def mn_21 (G : gb_G) (x p : Int32) : Int64 := match ab_kw (gK G) x with
  | none => -9223372036854775808
  | some b => if p = nI 0 ∨ p = nI 1 then (if (ab_sq (gP G) b (gx_s G.1) 12 (gD G) 1000000000000 (0, false)).2 = true then -9223372036854775808 else lw_l (ab_sq (gP G) b (gx_s G.1) 12 (gD G) 1000000000000 (0, false)).1 1000000000000 p) else -9223372036854775808
theorem m_21 (ok : gb_ok G) (hR : RM S G) {p : Int32} : oM S (d + 22) 191 [.ref 92, .int x, .int p] (.long (mn_21 G x p)) G := by
  have hw := hR.1
  have hk : gK G ≤ 6 := ok.1.1.1
  unfold mn_21
  rcases kw_c hk x with ⟨e, -⟩ | ⟨b, hb, e, rfl⟩
  · have k := m129n (d := d + 20) ok hR e
    rw [e]
    refine oM_id hR ?_
    rw [e191, b191_0 (wx_k92 hw), k, hp_bd, hp_ts, b191_5, if_pos rfl, b191_17]
  have k := m129s (d := d + 20) ok hR hb
  rw [e]
  simp only
  rcases k128 (S := S) (x := p) (d + 21) with ⟨hx, kx⟩ | ⟨hx, kx⟩
  · rw [if_pos hx]
    have A0 : md_A (mm_uM (mm_uL S 92 53 0) 92 54 (nI 0)) (gP G) (gD G) := A_nX (RM_A ok hR) hw (fun c j hcj => rdn (by unfold nX at hcj; omega))
    have q0 : SQ S (mm_uM (mm_uL S 92 53 0) 92 54 (nI 0)) := ⟨sf_tr (sf_uL (by unfold gm_v; omega)) (sf_uM (by unfold gm_v; omega)), rfl, rfl⟩
    have s0 : sa (mm_uM (mm_uL S 92 53 0) 92 54 (nI 0)) (0, false) := ⟨by rw [hp_LuM, hp_LuL, if_pos ⟨rfl, rfl⟩], rds⟩
    have h14 : mm_M S 92 14 = nI (gx_s G.1) := hR.2.1.2.2.1
    obtain ⟨U, g1, g2, g3, g4, -⟩ := m190_all (d := d) (P := gP G) (s := gx_s G.1) ok.1.2.2.1 (show b < 6 by omega) 12 0 _ (gD G) 1000000000000 (0, false) rfl A0 ((SQ_14 q0).trans h14) s0
    have g1 : mm_cl (d + 21) 190 [.ref 92, .int (nI b), .int (nI 0), .long 1000000000000] (mm_uM (mm_uL S 92 53 0) 92 54 (nI 0)) = some (none, U) := g1
    have wU := g2.1
    have qU := SQ_tr q0 g3
    generalize ab_sq (gP G) b (gx_s G.1) 12 (gD G) 1000000000000 (0, false) = z at *
    have fin : ∀ {v : Value}, mm_cl (d + 22) 191 [.ref 92, .int (nI b), .int p] S = some (some v, U) → oM S (d + 22) 191 [.ref 92, .int (nI b), .int p] v G := by
      intro v hv
      have gX := hR.2.1
      have f : ∀ c j, ¬ gm_v c j → mm_M U c j = mm_M S c j := fun c j h => (qU.1.1 c j h).1
      refine oM_X hR hv (sf_mo qU.1 (fun c j h => by unfold gm_v md_dc at h; unfold gm_now; omega)) wU (X := G.1) ⟨g2.2.1, g2.2.2.1, (f _ _ (by unfold gm_v md_dc; omega)).trans gX.2.2.1, (f _ _ (by unfold gm_v md_dc; omega)).trans gX.2.2.2.1, fun i hi => (f _ _ (by unfold gm_v md_dc; omega)).trans (gX.2.2.2.2.1 i hi), (f _ _ (by unfold gm_v md_dc; omega)).trans gX.2.2.2.2.2.1, (f _ _ (by unfold gm_v md_dc; omega)).trans gX.2.2.2.2.2.2⟩ qU.2.1 qU.2.2
    have st : mm_cl (d + 22) 191 [.ref 92, .int (nI b), .int p] S = mm_ex (d + 22) 191 40 [.ref 92, .int (nI b), .int p] [] U := by
      rw [e191, b191_0 (wx_k92 hw), k, hp_bd, hp_ts, b191_5, if_neg i01, b191_8, kx, hp_bd, hp_ts, b191_14, if_neg i01, b191_21 (wx_o92 hw) (wx_k92 hw), g1, hp_bd, hp_tn]
    rw [b191_40 (wx_o92 wU), g4.2] at st
    cases hz : z.2 with
    | true =>
      rw [if_pos rfl]
      refine fin ?_
      rw [st, hz, if_pos rfl, if_neg i01, b191_47]
    | false =>
      rw [if_neg (by decide)]
      refine fin ?_
      rw [st, hz, if_neg (show ¬ false = true by decide), if_pos rfl, b191_53 (wx_o92 wU), s181, hp_bd, hp_ts, b191_64, g4.1]
  · rw [if_neg hx]
    refine oM_id hR ?_
    rw [e191, b191_0 (wx_k92 hw), k, hp_bd, hp_ts, b191_5, if_neg i01, b191_8, kx, hp_bd, hp_ts, b191_14, if_pos rfl, b191_17]
end QM7
end
