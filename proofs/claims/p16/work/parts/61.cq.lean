/-! ===== questions of the class: first, fee, off, judge ===== -/
def ab_fv (P : ab_P) (D : ab_D) (w act : Nat) : Int32 := if w = 0 then ab_ga (ab_fin P (ab_does P D act)) ((ab_row D).headD 0) else ab_ti (ab_fin P (ab_does P D act)) + ab_all (ab_kn P) (ab_ga (ab_fin P (ab_does P D act)))
def ab_f1 (P : ab_P) (D : ab_D) (w : Nat) (s : Nat × Int32) (act : Nat) : Nat × Int32 := if act = 3 ∧ ab_may P D ((ab_row D).headD 0) = false then s else if s.1 = 0 ∨ s.2 < ab_fv P D w act then (act, ab_fv P D w act) else s
def an_13 (G : gb_G) (x : Int32) : Int32 := if x = nI 0 ∨ x = nI 1 then (if ab_com (gD G) = true then nI ([1, 2, 3].foldl (ab_f1 (gP G) (gD G) (if x = nI 0 then 0 else 1)) (0, nI 0)).1 else -5) else -1
def ab_fee (P : ab_P) (D : ab_D) : Nat → Nat → Int32
  | 0, _ => -5
  | k + 1, i => if ab_nob (ab_lgs (gP_fe P i) D) = true then nI i else ab_fee P D k (i + 1)
def an_17 (G : gb_G) : Int32 := ab_fee (gP G) (gD G) 21 0
def ab_off (P : ab_P) : List Nat → Nat → ab_D → Int32
  | [], _, _ => -5
  | f :: l, i, D => if ab_com D = true ∧ ab_ha P D = f then ab_off P l (i + 1) (ab_turn P D) else nI i
def an_23 (G : gb_G) : Int32 := ab_off (gP G) (gx_f G.1) 0 (gD G)
/-- from place i of a row of n items on, against gains of k BUYERS from b on -/
def ab_ju (it : Nat → Int64) (g : Nat → Int32) (n i : Nat) : Nat → Nat → Int32
  | 0, _ => -5
  | k + 1, b => if n - b ≤ i then nI (100 + b) else if lg_cmp (it (i + b)) (g b).toInt64 = nI 0 then ab_ju it g n i k (b + 1) else nI b
def an_24 (G : gb_G) (t i : Int32) : Int32 := match ab_kw 6 t with
  | none => -1
  | some t => if (gb_p G t).1 = -1 then nI 100 else if (gb_p G t).1 ≠ nI 2 then -12 else if i < nI 0 then nI 100 else ab_ju (gb_p G t).2.2 (ab_ga (ab_fin (gP G) (gD G))) (gb_p G t).2.1 i.toNatClampNeg (gK G) 0
section Q1
variable {S T U : mm_S} {G : gb_G} {P : ab_P} {D : ab_D} {a b d n k i : Nat} {x w y t : Int32} {r : List Nat}
theorem s116q (ok : gb_ok G) (hR : RC S G) (hc : ab_com (gD G) = true) {act : Nat} (ha : act = 1 ∨ act = 2 ∨ act = 3) (hm : act = 3 → ab_may (gP G) (gD G) ((ab_row (gD G)).headD 0) = true) (hx : x = nI 0 ∨ x = nI 1) : ∃ T, mm_cl (d + 6) 116 [.ref 0, .int (nI ((ab_row (gD G)).headD 0)), .int (nI act), .int x] S = some (some (.int (ab_fv (gP G) (gD G) (if x = nI 0 then 0 else 1) act)), T) ∧ QC S T G := by
  have hw := hR.1
  obtain ⟨b, r, hr, hlo⟩ := com_row hc
  have hb : b < ab_kn (gP G) := ok.1.2.1.2.1 b (by have e : ab_row (gx_D (gb_x G)) = b :: r := hr; rw [e]; exact List.mem_cons_self)
  have hk : ab_kn (gP G) ≤ 6 := ok.1.1.1
  have ehd : (ab_row (gD G)).headD 0 = b := by rw [hr]; rfl
  rw [ehd] at hm ⊢
  have edo : ab_does (gP G) (gD G) act = ab_do (gP G) (gD G) b r act := by unfold ab_does; rw [hr]
  obtain ⟨g1, g2, g3⟩ := t_copy (d := d + 4) (a := 24) ok hR (Or.inl rfl)
  obtain ⟨T1, e, g4, g5, g6, -⟩ := s19w (d := d + 2) g3 hb
  obtain ⟨T2, g7, g8, g9⟩ := s22w (d := d + 4) g6.1 hr g6.2.2.2.1 g6.2.2.2.2 ha hlo hm
  obtain ⟨T3, g10, g11, g12⟩ := s23 (d := d) g9
  have w1 := g3.1
  have w2 := g6.1.1
  have w3 := g9.1
  have w4 := g12.1
  have q := QC_tr g2 (QC_fr ok g2.1 (Or.inl rfl) (fr_tr g5 (fr_tr g8 g11)))
  obtain ⟨t1, t2, t3, t4, t5, t6, t7, t8⟩ := g12.2.2.2.1
  have cl : (nI b).toNatClampNeg = b := nI_clamp (by omega)
  have hbi : mm_inb (nI b) 6 = true := hp_inb (by omega) (by omega)
  have s24k := s24 (d := d + 5) g12
  refine ⟨T3, ?_, q⟩
  unfold ab_fv
  rw [ehd, edo]
  rw [e116, b116_0 (wx_o0 hw) (wx_s0_2 hw) (wx_s0_0 hw) (by rw [wx_g0_2 hw]; exact wx_k24 hw), wx_g0_2 hw, wx_g0_0 hw, g1, hp_bd, hp_tn, b116_11 (wx_o0 w1) (wx_s0_2 w1) (by rw [wx_g0_2 w1]; exact wx_k24 w1), wx_g0_2 w1, g4, hp_bd, hp_tn, b116_19 (wx_o0 w2) (wx_s0_2 w2) (by rw [wx_g0_2 w2]; exact wx_k24 w2), wx_g0_2 w2, g7, hp_bd, hp_tn, b116_27 (wx_o0 w3) (wx_s0_2 w3) (by rw [wx_g0_2 w3]; exact wx_k24 w3), wx_g0_2 w3, g10, hp_bd, hp_tn, b116_34]
  by_cases x0 : x = nI 0
  · rw [if_pos x0, if_pos x0, if_pos rfl, b116_38 (wx_o0 w4) (wx_s0_2 w4) (by rw [wx_g0_2 w4]; exact wx_o24 w4) (by rw [wx_g0_2 w4]; exact wx_s24_4 w4) (by rw [wx_g0_2 w4, wx_g24_4 w4, wx_N29 w4]; exact hbi) (by rw [wx_g0_2 w4, wx_g24_4 w4]; exact wx_a29 w4), wx_g0_2 w4, wx_g24_4 w4, cl, show mm_M T3 29 b = _ from t4 b hb]
  · rw [if_neg x0, if_neg x0, if_neg (by decide), b116_50 (wx_o0 w4) (wx_s0_2 w4) (by rw [wx_g0_2 w4]; exact wx_o24 w4) (by rw [wx_g0_2 w4]; exact wx_k24 w4), wx_g0_2 w4, s24k, hp_bd, hp_tsc, t7, b116_64]
theorem s86_it (ok : gb_ok G) (hR : RC S G) (hc : ab_com (gD G) = true) {act : Nat} (ha : act = 1 ∨ act = 2 ∨ act = 3) (hx : x = nI 0 ∨ x = nI 1) {s : Nat × Int32} (hs : s.1 ≤ 3) {v6 : Value} : ∃ T v, mm_ex (d + 7) 86 40 [.ref 0, .int x, .int (nI ((ab_row (gD G)).headD 0)), .int (nI s.1), .int s.2, .int (nI act), v6] [] S = mm_ex (d + 7) 86 40 [.ref 0, .int x, .int (nI ((ab_row (gD G)).headD 0)), .int (nI (ab_f1 (gP G) (gD G) (if x = nI 0 then 0 else 1) s act).1), .int (ab_f1 (gP G) (gD G) (if x = nI 0 then 0 else 1) s act).2, .int (nI (act + 1)), v] [] T ∧ QC S T G := by
  have hw := hR.1
  have hA := RC_A ok hR
  obtain ⟨b, r, hr, hlo⟩ := com_row hc
  have hb : b < ab_kn (gP G) := ok.1.2.1.2.1 b (by have e : ab_row (gx_D (gb_x G)) = b :: r := hr; rw [e]; exact List.mem_cons_self)
  have ehd : (ab_row (gD G)).headD 0 = b := by rw [hr]; rfl
  have go : (act = 3 → ab_may (gP G) (gD G) ((ab_row (gD G)).headD 0) = true) → ∃ T v, mm_ex (d + 7) 86 66 [.ref 0, .int x, .int (nI ((ab_row (gD G)).headD 0)), .int (nI s.1), .int s.2, .int (nI act), v6] [] S = mm_ex (d + 7) 86 40 [.ref 0, .int x, .int (nI ((ab_row (gD G)).headD 0)), .int (nI (ab_f1 (gP G) (gD G) (if x = nI 0 then 0 else 1) s act).1), .int (ab_f1 (gP G) (gD G) (if x = nI 0 then 0 else 1) s act).2, .int (nI (act + 1)), v] [] T ∧ QC S T G := by
    intro hm
    obtain ⟨T, g1, g2⟩ := s116q (d := d) ok hR hc ha hm hx
    refine ⟨T, .int (ab_fv (gP G) (gD G) (if x = nI 0 then 0 else 1) act), ?_, g2⟩
    have n3 : ¬ (act = 3 ∧ ab_may (gP G) (gD G) ((ab_row (gD G)).headD 0) = false) := fun e => by rw [hm e.1] at e; cases e.2
    unfold ab_f1
    rw [if_neg n3, b86_66 (wx_k0 hw), g1, hp_bd, hp_ts, b86_74]
    by_cases s0 : s.1 = 0
    · rw [if_pos (by rw [s0]), if_pos (Or.inl s0), b86_87, nI_add]
    · rw [if_neg (fun e => s0 ((nI_eq (by omega) (by decide)).mp e)), b86_80]
      by_cases h2 : s.2 < ab_fv (gP G) (gD G) (if x = nI 0 then 0 else 1) act
      · rw [if_neg (Int32.not_le.mpr h2), if_pos (Or.inr h2), b86_87, nI_add]
      · have h5 : ¬ (s.1 = 0 ∨ s.2 < ab_fv (gP G) (gD G) (if x = nI 0 then 0 else 1) act) := fun e => e.elim s0 h2
        rw [if_pos (Int32.not_lt.mp h2), if_neg h5, b86_94, nI_add]
  have n4 : ¬ nI 3 < nI act := nI_nlt (by omega) (by omega)
  rw [b86_40, if_neg n4, b86_46]
  by_cases h3 : act = 3
  · rw [if_pos (by rw [h3]), b86_52 (wx_o0 hw) (wx_s0_0 hw) (by rw [wx_g0_0 hw]; exact wx_k6 hw), wx_g0_0 hw, ehd, s16 hA hb, hp_bd, hp_ts, b86_60]
    rw [ehd] at go
    cases hm : ab_may (gP G) (gD G) b with
    | true =>
      rw [if_pos rfl, if_neg (by decide)]
      exact go (fun _ => hm)
    | false =>
      rw [if_pos (by decide), b86_63, nI_add]
      refine ⟨S, v6, ?_, QC_rf hR⟩
      unfold ab_f1
      rw [ehd, if_pos ⟨h3, hm⟩]
  · rw [if_neg (fun e => h3 ((nI_eq (by omega) (by decide)).mp e))]
    exact go (fun e => absurd e h3)
theorem f1_le {s : Nat × Int32} (hs : s.1 ≤ 3) {w act : Nat} (ha : act ≤ 3) : (ab_f1 P D w s act).1 ≤ 3 := by
  unfold ab_f1
  split
  · exact hs
  · split
    · exact ha
    · exact hs
theorem c_13 (ok : gb_ok G) (hR : RC S G) : oC S (d + 7) 86 [.ref 0, .int x] (.int (an_13 G x)) G := by
  have hw := hR.1
  have hA := RC_A ok hR
  have k20 := s20w (d := d + 6) hA
  unfold an_13
  by_cases hx : x = nI 0 ∨ x = nI 1
  · have st : mm_cl (d + 7) 86 [.ref 0, .int x] S = mm_ex (d + 7) 86 11 [.ref 0, .int x, .null, .null, .null, .null, .null] [] S := by
      rw [e86, b86_0]
      by_cases x0 : x = nI 0
      · rw [if_pos x0]
      · rw [if_neg x0, b86_4, if_pos (hx.resolve_left x0)]
    rw [if_pos hx]
    cases hc : ab_com (gD G) with
    | false =>
      rw [if_neg (by decide)]
      refine oC_id hR ?_
      rw [st, b86_11 (wx_o0 hw) (wx_s0_0 hw) (by rw [wx_g0_0 hw]; exact wx_k6 hw), wx_g0_0 hw, k20, hp_bd, hp_ts, b86_18, hc, if_pos (by decide), b86_21]
    | true =>
      rw [if_pos rfl]
      have k11 := s11h (d := d + 6) hA hc
      obtain ⟨T1, v1, g1, q1⟩ := s86_it (d := d) ok hR hc (act := 1) (Or.inl rfl) hx (s := (0, nI 0)) (by decide) (v6 := .null)
      obtain ⟨T2, v2, g2, q2⟩ := s86_it (d := d) ok q1.1 hc (act := 2) (Or.inr (Or.inl rfl)) hx (s := ab_f1 (gP G) (gD G) (if x = nI 0 then 0 else 1) (0, nI 0) 1) (f1_le (by decide) (by decide)) (v6 := v1)
      obtain ⟨T3, v3, g3, q3⟩ := s86_it (d := d) ok q2.1 hc (act := 3) (Or.inr (Or.inr rfl)) hx (s := ab_f1 (gP G) (gD G) (if x = nI 0 then 0 else 1) (ab_f1 (gP G) (gD G) (if x = nI 0 then 0 else 1) (0, nI 0) 1) 2) (f1_le (f1_le (by decide) (by decide)) (by decide)) (v6 := v2)
      refine oC_Q (QC_tr q1 (QC_tr q2 q3)) ?_
      have g1 : mm_ex (d + 7) 86 40 [.ref 0, .int x, .int (nI ((ab_row (gD G)).headD 0)), .int (nI 0), .int (nI 0), .int (nI 1), .null] [] S = _ := g1
      rw [st, b86_11 (wx_o0 hw) (wx_s0_0 hw) (by rw [wx_g0_0 hw]; exact wx_k6 hw), wx_g0_0 hw, k20, hp_bd, hp_ts, b86_18, hc, if_pos rfl, if_neg i01, b86_24 (wx_o0 hw) (wx_s0_0 hw) (by rw [wx_g0_0 hw]; exact wx_k6 hw), wx_g0_0 hw, k11, hp_bd, hp_ts, b86_31, g1, g2, g3, b86_40, if_pos (by decide), b86_100]
      rfl
  · rw [if_neg hx]
    refine oC_id hR ?_
    rw [e86, b86_0, if_neg (fun e => hx (Or.inl e)), b86_4, if_neg (fun e => hx (Or.inr e)), b86_9]
theorem s115_loop : ∀ (k i : Nat) (S : mm_S) (D : ab_D), cd_A S 24 P D → ab_mea D ≤ k → i + k ≤ 900 → ∃ T, mm_ex (d + 5) 115 21 [.ref 0, .int x, .int (nI i)] [] S = some (some (.int (if ab_nob (ab_log P k D) = true then nI 1 else nI 0)), T) ∧ cd_fr 24 S T := by
  intro k
  induction k with
  | zero =>
    intro i S D hA hm hi
    have hw := hA.1
    have hc : ab_com D = false := by
      cases hc : ab_com D with
      | false => rfl
      | true => have := (ab_turn_ok hA.2.2.2.2.1 hA.2.2.2.2.2 hc).2; omega
    refine ⟨S, ?_, fr_rf⟩
    rw [b115_21, if_neg (nI_ge (by omega) (by decide)), b115_28 (wx_o0 hw) (wx_s0_2 hw) (by rw [wx_g0_2 hw]; exact wx_k24 hw), wx_g0_2 hw, s20w hA, hp_bd, hp_ts, b115_35, hc, if_pos (by decide), b115_57]
    rfl
  | succ k ih =>
    intro i S D hA hm hi
    have hw := hA.1
    cases hc : ab_com D with
    | false =>
      refine ⟨S, ?_, fr_rf⟩
      rw [b115_21, if_neg (nI_ge (by omega) (by decide)), b115_28 (wx_o0 hw) (wx_s0_2 hw) (by rw [wx_g0_2 hw]; exact wx_k24 hw), wx_g0_2 hw, s20w hA, hp_bd, hp_ts, b115_35, hc, if_pos (by decide), b115_57]
      unfold ab_log
      rw [hc]
      rfl
    | true =>
      have ht := ab_turn_ok hA.2.2.2.2.1 hA.2.2.2.2.2 hc
      obtain ⟨T1, g1, g2, g3⟩ := s21 (d := d) hA hc
      have st : mm_ex (d + 5) 115 21 [.ref 0, .int x, .int (nI i)] [] S = mm_ex (d + 5) 115 45 [.ref 0, .int x, .int (nI i)] [.int (nI (ab_ha P D))] T1 := by
        rw [b115_21, if_neg (nI_ge (by omega) (by decide)), b115_28 (wx_o0 hw) (wx_s0_2 hw) (by rw [wx_g0_2 hw]; exact wx_k24 hw), wx_g0_2 hw, s20w hA, hp_bd, hp_ts, b115_35, hc, if_neg (by decide), b115_38 (wx_o0 hw) (wx_s0_2 hw) (by rw [wx_g0_2 hw]; exact wx_k24 hw), wx_g0_2 hw, g1, hp_bd, hp_ts]
      have el : ab_log P (k + 1) D = ((ab_row D).headD 0, ab_ha P D) :: ab_log P k (ab_turn P D) := by
        show (if ab_com D = true then _ else _) = _
        rw [if_pos hc]
      obtain ⟨b, r, hr, hlo⟩ := com_row hc
      have hb : b < ab_kn P := hA.2.2.2.2.2.2.1 b (by rw [hr]; exact List.mem_cons_self)
      have a3 : ab_ha P D ≤ 3 := by
        have := (@ab_act_ok P D b ((ab_row D).length - 1) hA.2.2.2.2.1 hA.2.2.2.2.2 hb).2.1
        unfold ab_ha
        rw [hr] at this ⊢
        exact this
      by_cases h1 : ab_ha P D = 2
      · refine ⟨T1, ?_, g2⟩
        have en : ab_nob (ab_log P (k + 1) D) = false := by
          rw [el]
          unfold ab_nob
          rw [List.all_cons, h1]
          rfl
        rw [st, b115_45, if_pos (by rw [h1]), b115_49, en, if_neg (by decide)]
      · obtain ⟨T2, g4, g5⟩ := ih (i + 1) T1 (ab_turn P D) g3 (by omega) (by omega)
        refine ⟨T2, ?_, fr_tr g2 g5⟩
        have en : ab_nob (ab_log P (k + 1) D) = ab_nob (ab_log P k (ab_turn P D)) := by
          rw [el]
          unfold ab_nob
          rw [List.all_cons, decide_eq_true h1]
          rfl
        rw [st, b115_45, if_neg (fun e => h1 ((nI_eq (by omega) (by decide)).mp e)), b115_51, nI_add, g4, en]
theorem s115q (ok : gb_ok G) (hR : RC S G) {f : Nat} (hf : f < 100) : ∃ T, mm_cl (d + 6) 115 [.ref 0, .int (nI f)] S = some (some (.int (if ab_nob (ab_lgs (gP_fe (gP G) f) (gD G)) = true then nI 1 else nI 0)), T) ∧ QC S T G := by
  have hw := hR.1
  obtain ⟨g1, g2, g3⟩ := t_copy (d := d + 4) (a := 24) ok hR (Or.inl rfl)
  have w1 := g3.1
  have w2 : mm_W (mm_uM (mm_cD S 24 6) 24 9 (nI f)) := w1
  have A2 : cd_A (mm_uM (mm_cD S 24 6) 24 9 (nI f)) 24 (gP_fe (gP G) f) (gD G) := by
    obtain ⟨-, -, ⟨p1, p2, p3, p4, p5, s, p6, p7, p8⟩, ⟨h1, h2, h3, h4, h5, h6, h7, h8⟩, oP, oD⟩ := g3
    have fr : sf_f (fun c j => c = 24 ∧ j = 9) (mm_cD S 24 6) (mm_uM (mm_cD S 24 6) 24 9 (nI f)) := sf_uM ⟨rfl, rfl⟩
    refine ⟨w2, dy24, ⟨(rdn (by omega)).trans p1, rds, fun b hb => (rdn (by omega)).trans (p3 b hb), fun i hi => (rdn (by omega)).trans (p4 i hi), fun b hb => ?_, s, p6, p7, tr_cs fr (fun m j hm (h : s + m = 24 ∧ j = 9) => by unfold mm_sh at p7; omega) p8⟩, ⟨(rdn (by omega)).trans h1, fun i hi => (rdn (by omega)).trans (h2 i hi), fun i hi => (rdn (by omega)).trans (h3 i hi), fun i hi => (rdn (by omega)).trans (h4 i hi), (rdn (by omega)).trans h5, (rdn (by omega)).trans h6, (rdn (by omega)).trans h7, (rdn (by omega)).trans h8⟩, ⟨oP.1, hf, oP.2.2⟩, oD⟩
    obtain ⟨e, he, hy⟩ := p5 b hb
    exact ⟨e, he, tr_by fr (fun j _ (h : e = 24 ∧ j = 9) => by have := hy.1; omega) hy⟩
  obtain ⟨T, g4, g5⟩ := s115_loop (d := d + 1) (x := nI f) (P := gP_fe (gP G) f) 60 0 _ (gD G) A2 (ab_mea_le A2.2.2.2.2.1.1 A2.2.2.2.2.2) (by decide)
  have q2 : QC S (mm_uM (mm_cD S 24 6) 24 9 (nI f)) G := QC_tr g2 (QC_f ok g2.1 (sf_uM (by unfold gc_F; omega)) w2 rfl rfl)
  refine ⟨T, ?_, QC_tr q2 (QC_fr ok q2.1 (Or.inl rfl) g5)⟩
  rw [e115, b115_0 (wx_o0 hw) (wx_s0_2 hw) (wx_s0_0 hw) (by rw [wx_g0_2 hw]; exact wx_k24 hw), wx_g0_2 hw, wx_g0_0 hw, g1, hp_bd, hp_tn, b115_11 (wx_o0 w1) (wx_s0_2 w1) (by rw [wx_g0_2 w1]; exact wx_o24 w1), wx_g0_2 w1, g4]
  rfl
theorem s90_loop (ok : gb_ok G) : ∀ (k i : Nat) (S : mm_S), RC S G → i + k = 21 → ∃ T, mm_ex (d + 7) 90 2 [.ref 0, .int (nI i)] [] S = some (some (.int (ab_fee (gP G) (gD G) k i)), T) ∧ QC S T G := by
  intro k
  induction k with
  | zero =>
    intro i S hR hi
    refine ⟨S, ?_, QC_rf hR⟩
    rw [b90_2, if_pos (nI_lt (by omega) (by omega)), b90_24]
    rfl
  | succ k ih =>
    intro i S hR hi
    have hw := hR.1
    obtain ⟨T, g1, g2⟩ := s115q (d := d) ok hR (f := i) (by omega)
    have st : mm_ex (d + 7) 90 2 [.ref 0, .int (nI i)] [] S = mm_ex (d + 7) 90 13 [.ref 0, .int (nI i)] [.int (if ab_nob (ab_lgs (gP_fe (gP G) i) (gD G)) = true then nI 1 else nI 0)] T := by
      rw [b90_2, if_neg (nI_nlt (by omega) (by omega)), b90_8 (wx_k0 hw), g1, hp_bd, hp_ts]
    have ef : ab_fee (gP G) (gD G) (k + 1) i = if ab_nob (ab_lgs (gP_fe (gP G) i) (gD G)) = true then nI i else ab_fee (gP G) (gD G) k (i + 1) := rfl
    cases hb : ab_nob (ab_lgs (gP_fe (gP G) i) (gD G)) with
    | true =>
      refine ⟨T, ?_, g2⟩
      rw [st, b90_13, hb, if_pos rfl, if_neg i01, b90_16, ef, hb, if_pos rfl]
    | false =>
      obtain ⟨T2, g3, g4⟩ := ih (i + 1) T g2.1 (by omega)
      refine ⟨T2, ?_, QC_tr g2 g4⟩
      rw [st, b90_13, hb, if_pos (by decide), b90_18, nI_add, g3, ef, hb, if_neg (by decide)]
theorem c_17 (ok : gb_ok G) (hR : RC S G) : oC S (d + 7) 90 [.ref 0] (.int (an_17 G)) G := by
  obtain ⟨T, g1, g2⟩ := s90_loop (d := d) ok 21 0 S hR rfl
  refine oC_Q g2 ?_
  rw [e90, b90_0, g1]
  rfl
theorem c96_loop (ok : gb_ok G) : ∀ (l : List Nat) (i : Nat) (S : mm_S) (D : ab_D), RC S G → cd_A S 24 (gP G) D → gx_f G.1 = (gx_f G.1).take i ++ l → i + l.length = (gx_f G.1).length → ∃ T, mm_ex (d + 5) 96 13 [.ref 0, .int (nI i)] [] S = some (some (.int (ab_off (gP G) l i D)), T) ∧ QC S T G := by
  have hl12 : (gx_f G.1).length ≤ 12 := ok.1.2.2.2.1
  intro l
  induction l with
  | nil =>
    intro i S D hR hA _ hi
    have hw := hR.1
    have h17 : mm_M S 6 17 = nI (gx_f G.1).length := hR.2.1.2.2.2.1
    refine ⟨S, ?_, QC_rf hR⟩
    rw [b96_13 (wx_o0 hw) (wx_s0_0 hw) (by rw [wx_g0_0 hw]; exact wx_o6 hw), wx_g0_0 hw, h17, if_pos (nI_le (by rw [List.length_nil] at hi; omega) (by rw [List.length_nil] at hi; omega)), b96_61]
    rfl
  | cons f l ih =>
    intro i S D hR hA hf hi
    have hw := hR.1
    rw [List.length_cons] at hi
    have h17 : mm_M S 6 17 = nI (gx_f G.1).length := hR.2.1.2.2.2.1
    have hif : i < (gx_f G.1).length := by omega
    have hfi : (gx_f G.1).getD i 0 = f := by
      rw [List.getD_eq_getElem?_getD]
      conv => lhs; rw [hf]
      rw [List.getElem?_append_right (by rw [List.length_take]; omega), List.length_take, Nat.min_eq_left (by omega), Nat.sub_self]
      rfl
    have hfm : f ∈ gx_f G.1 := by rw [hf]; exact List.mem_append.mpr (Or.inr List.mem_cons_self)
    have hf3 := ok.1.2.2.2.2.1 f hfm
    have h13 : mm_M S 13 i = nI f := by rw [← hfi]; exact hR.2.1.2.2.2.2.1 i hif
    have cl : (nI i).toNatClampNeg = i := nI_clamp (by omega)
    have hbi : mm_inb (nI i) 12 = true := hp_inb (by omega) (by omega)
    have st : mm_ex (d + 5) 96 13 [.ref 0, .int (nI i)] [] S = mm_ex (d + 5) 96 31 [.ref 0, .int (nI i)] [.int (if ab_com D = true then nI 1 else nI 0)] S := by
      rw [b96_13 (wx_o0 hw) (wx_s0_0 hw) (by rw [wx_g0_0 hw]; exact wx_o6 hw), wx_g0_0 hw, h17, if_neg (nI_ge hif (by omega)), b96_24 (wx_o0 hw) (wx_s0_2 hw) (by rw [wx_g0_2 hw]; exact wx_k24 hw), wx_g0_2 hw, s20w hA, hp_bd, hp_ts]
    have eo : ab_off (gP G) (f :: l) i D = if ab_com D = true ∧ ab_ha (gP G) D = f then ab_off (gP G) l (i + 1) (ab_turn (gP G) D) else nI i := rfl
    cases hc : ab_com D with
    | false =>
      refine ⟨S, ?_, QC_rf hR⟩
      rw [st, b96_31, hc, if_pos (by decide), b96_53, eo, hc, if_neg (fun e => by cases e.1)]
    | true =>
      obtain ⟨T, g1, g2, g3⟩ := s21 (d := d) hA hc
      have q1 := QC_fr ok hR (Or.inl rfl) g2
      have wT := g3.1
      have h13T : mm_M T 13 i = nI f := by rw [← hfi]; exact q1.1.2.1.2.2.2.2.1 i hif
      obtain ⟨b, r, hr, hlo⟩ := com_row hc
      have hb : b < ab_kn (gP G) := hA.2.2.2.2.2.2.1 b (by rw [hr]; exact List.mem_cons_self)
      have a3 : ab_ha (gP G) D ≤ 3 := by
        have := (@ab_act_ok (gP G) D b ((ab_row D).length - 1) hA.2.2.2.2.1 hA.2.2.2.2.2 hb).2.1
        unfold ab_ha
        rw [hr] at this ⊢
        exact this
      have e2 : (nI (ab_ha (gP G) D) = nI f) = (ab_ha (gP G) D = f) := propext (nI_eq (by omega) (by omega))
      have st2 : mm_ex (d + 5) 96 13 [.ref 0, .int (nI i)] [] S = if nI (ab_ha (gP G) D) = nI f then mm_ex (d + 5) 96 55 [.ref 0, .int (nI i)] [] T else mm_ex (d + 5) 96 53 [.ref 0, .int (nI i)] [] T := by
        rw [st, b96_31, hc, if_neg (by decide), b96_34 (wx_o0 hw) (wx_s0_2 hw) (by rw [wx_g0_2 hw]; exact wx_k24 hw), wx_g0_2 hw, g1, hp_bd, hp_ts, b96_41 (wx_o0 wT) (wx_s0_0 wT) (by rw [wx_g0_0 wT]; exact wx_o6 wT) (by rw [wx_g0_0 wT]; exact wx_s6_6 wT) (by rw [wx_g0_0 wT, wx_g6_6 wT, wx_N13 wT]; exact hbi) (by rw [wx_g0_0 wT, wx_g6_6 wT]; exact wx_a13 wT), wx_g0_0 wT, wx_g6_6 wT, cl, h13T]
      by_cases he : ab_ha (gP G) D = f
      · obtain ⟨T2, g4, g5⟩ := ih (i + 1) T (ab_turn (gP G) D) q1.1 g3 (by
          rw [List.take_add_one]
          conv => lhs; rw [hf]
          rw [List.append_assoc]
          congr 1
          have : (gx_f G.1)[i]? = some f := by
            rw [List.getD_eq_getElem?_getD, List.getElem?_eq_getElem hif] at hfi
            rw [List.getElem?_eq_getElem hif]
            exact congrArg some hfi
          rw [this]
          rfl) (by omega)
        refine ⟨T2, ?_, QC_tr q1 g5⟩
        rw [st2, if_pos (by rw [e2]; exact he), b96_55, nI_add, g4, eo, if_pos ⟨hc, he⟩]
      · refine ⟨T, ?_, q1⟩
        rw [st2, if_neg (by rw [e2]; exact he), b96_53, eo, if_neg (fun e => he e.2)]
theorem c_23 (ok : gb_ok G) (hR : RC S G) : oC S (d + 5) 96 [.ref 0] (.int (an_23 G)) G := by
  have hw := hR.1
  obtain ⟨g1, g2, g3⟩ := t_copy (d := d + 3) (a := 24) ok hR (Or.inl rfl)
  obtain ⟨T, g4, g5⟩ := c96_loop (d := d) ok (gx_f G.1) 0 _ (gD G) g2.1 g3 (by simp) (by omega)
  refine oC_Q (QC_tr g2 g5) ?_
  rw [e96, b96_0 (wx_o0 hw) (wx_s0_2 hw) (wx_s0_0 hw) (by rw [wx_g0_2 hw]; exact wx_k24 hw), wx_g0_2 hw, wx_g0_0 hw, g1, hp_bd, hp_tn, b96_11, g4]
  rfl
theorem c97_loop (ok : gb_ok G) (hR : RC S G) (hA : cd_A S 24 (gP G) D) {t i : Nat} (ht : t < 6) (hi : i < 2 ^ 31) : ∀ (k b : Nat), b + k = gK G → b ≤ (gb_p G t).2.1 → mm_ex d 97 51 [.ref 0, .int (nI t), .int (nI i), .ref (76 + 2 * t), .int (nI b)] [] S = some (some (.int (ab_ju (gb_p G t).2.2 (ab_ga D) (gb_p G t).2.1 i k b)), S) := by
  have hw := hR.1
  have hk : gK G ≤ 6 := ok.1.1.1
  have sz := tsz ok ht
  obtain ⟨p1, p2, p3⟩ := hR.2.2.2.2.2.2.2.1 t ht
  have h10 : mm_M S 6 10 = nI (gK G) := hR.2.1.1.1
  intro k
  induction k with
  | zero =>
    intro b hb _
    rw [b97_51 (wx_o0 hw) (wx_s0_0 hw) (by rw [wx_g0_0 hw]; exact wx_o6 hw), wx_g0_0 hw, h10, if_pos (nI_le (by omega) (by omega)), b97_113]
    rfl
  | succ k ih =>
    intro b hb hbs
    have e : ab_ju (gb_p G t).2.2 (ab_ga D) (gb_p G t).2.1 i (k + 1) b = if (gb_p G t).2.1 - b ≤ i then nI (100 + b) else if lg_cmp ((gb_p G t).2.2 (i + b)) (ab_ga D b).toInt64 = nI 0 then ab_ju (gb_p G t).2.2 (ab_ga D) (gb_p G t).2.1 i k (b + 1) else nI b := rfl
    have sb : nI (gb_p G t).2.1 - nI b = nI ((gb_p G t).2.1 - b) := pk_sub hbs
    rw [b97_51 (wx_o0 hw) (wx_s0_0 hw) (by rw [wx_g0_0 hw]; exact wx_o6 hw), wx_g0_0 hw, h10, if_neg (nI_ge (by omega) (by omega)), b97_63 (tp_o hw ht), p2, sb, e]
    by_cases h1 : (gb_p G t).2.1 - b ≤ i
    · rw [if_neg (nI_nlt h1 hi), b97_74, nI_add, if_pos h1]
    · have g : mm_M S 29 b = ab_ga D b := hA.2.2.2.1.2.2.2.1 b (by have : b < gK G := (by omega); exact this)
      have cl : (nI b).toNatClampNeg = b := nI_clamp (by omega)
      have hbi : mm_inb (nI b) 6 = true := hp_inb (by omega) (by omega)
      rw [if_pos (nI_lt (by omega) (by omega)), if_neg h1, b97_80 (tp_o hw ht) (tp_s0 hw ht) (by rw [nI_add, tp_g0 hw ht, tp_N hw ht]; exact hp_inb (by omega) (by omega)) (by rw [tp_g0 hw ht]; exact tp_a hw ht) (wx_o0 hw) (wx_s0_2 hw) (by rw [wx_g0_2 hw]; exact wx_o24 hw) (by rw [wx_g0_2 hw]; exact wx_s24_4 hw) (by rw [wx_g0_2 hw, wx_g24_4 hw, wx_N29 hw]; exact hbi) (by rw [wx_g0_2 hw, wx_g24_4 hw]; exact wx_a29 hw), wx_g0_2 hw, wx_g24_4 hw, tp_g0 hw ht, nI_add, nI_clamp (by omega), cl, g, p3 (i + b) (by omega)]
      by_cases h2 : lg_cmp ((gb_p G t).2.2 (i + b)) (ab_ga D b).toInt64 = nI 0
      · rw [if_pos h2, if_pos h2, b97_107, nI_add, ih (b + 1) (by omega) (by omega)]
      · rw [if_neg h2, if_neg h2, b97_104]
theorem c_24 (ok : gb_ok G) (hR : RC S G) {i : Int32} : oC S (d + 7) 97 [.ref 0, .int t, .int i] (.int (an_24 G t i)) G := by
  have hw := hR.1
  have hp := hR.2.2.2.2.2.2.2.1
  unfold an_24
  rcases kw_c (n := 6) (by decide) t with ⟨e, h⟩ | ⟨t, ht, e, rfl⟩
  · have k := t109n (d := d + 6) (S := S) e
    rw [e]
    refine oC_id hR ?_
    rw [e97, b97_0, k, hp_bd, hp_ts, b97_4, if_pos rfl, b97_7]
  have k := t109s (d := d + 6) (S := S) ht
  have cl : (nI t).toNatClampNeg = t := nI_clamp (by omega)
  have hbi : mm_inb (nI t) 6 = true := hp_inb (by omega) (by omega)
  have q1 := tp_g hw ht
  have q2 := tp_s hw ht
  have q3 := tp_o hw ht
  have q4 := tp_k hw ht
  obtain ⟨p1, p2, p3⟩ := hp t ht
  have k61 := s61 (d := d + 6) hw q3
  rw [p1] at k61
  rw [e]
  simp only
  have st : mm_cl (d + 7) 97 [.ref 0, .int (nI t), .int i] S = mm_ex (d + 7) 97 20 [.ref 0, .int (nI t), .int i, .ref (76 + 2 * t), .null] [.int (if (gb_p G t).1 = -1 then nI 1 else nI 0)] S := by
    rw [e97, b97_0, k, hp_bd, hp_ts, b97_4, if_neg i01, b97_9 (wx_o0 hw) (wx_s0_6 hw) (by rw [wx_g0_6 hw, wx_N75 hw]; exact hbi) (by rw [wx_g0_6 hw]; exact wx_a75 hw) (by rw [wx_g0_6 hw, cl]; exact q2) (by rw [wx_g0_6 hw, cl, q1]; exact q4), wx_g0_6 hw, cl, q1, k61, hp_bd, hp_ts]
  by_cases hs : (gb_p G t).1 = -1
  · rw [if_pos hs]
    refine oC_id hR ?_
    rw [st, b97_20, if_pos hs, if_neg i01, b97_23]
  rw [if_neg hs]
  rw [b97_20, if_neg hs, if_pos rfl, b97_26 q3, p1] at st
  by_cases h2 : (gb_p G t).1 = nI 2
  · rw [if_neg (fun e => e h2)]
    rw [if_pos h2, b97_37] at st
    by_cases hi : i < nI 0
    · rw [if_pos hi]
      refine oC_id hR ?_
      rw [st, if_neg (Int32.not_le.mpr hi), b97_41]
    · rw [if_neg hi]
      rw [if_pos (Int32.not_lt.mp hi)] at st
      obtain ⟨n, hn, rfl⟩ := nI_of (x := i) hi
      obtain ⟨T, g1, g2, g3⟩ := s113q (d := d) ok hR
      refine oC_Q g2 ?_
      rw [st, b97_44 (wx_k0 hw), g1, hp_bd, hp_tn, b97_48, nI_clamp hn]
      exact c97_loop ok g2.1 g3 ht hn (gK G) 0 (Nat.zero_add _) (Nat.zero_le _)
  · rw [if_pos h2]
    rw [if_neg h2, b97_34] at st
    exact oC_id hR st
end Q1
