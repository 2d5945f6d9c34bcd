/-! ===== questions of the reference: off, first, fee, one price ===== -/
section QM1
variable {S T U : mm_S} {G : gb_G} {P : ab_P} {D : ab_D} {b c d n k i j p : Nat} {x w y : Int32} {r : List Nat}
theorem m193_loop (ok : gb_ok G) (hR : RM S G) : ∀ (l : List Nat) (i : Nat) (T : mm_S) (D : ab_D) (v : Value), QK S T → md_A T (gP G) D → gx_f G.1 = (gx_f G.1).take i ++ l → i + l.length = (gx_f G.1).length → ∃ T' w v', mm_ex (d + 9) 193 9 [.ref 92, .int (-5), .int (nI i), v] [] T = mm_ex (d + 9) 193 71 [.ref 92, .int (ab_off (gP G) l i D), .int w, v'] [] T' ∧ QK S T' := by
  have hl12 : (gx_f G.1).length ≤ 12 := ok.1.2.2.2.1
  have h15S : mm_M (mm_kp S) 92 15 = nI (gx_f G.1).length := (QM_kp ok hR).1.2.1.2.2.2.1
  have hfS : ∀ i, i < (gx_f G.1).length → mm_M (mm_kp S) 101 i = nI ((gx_f G.1).getD i 0) := (QM_kp ok hR).1.2.1.2.2.2.2.1
  intro l
  induction l with
  | nil =>
    intro i T D v hQ hA _ hi
    have hw := hA.1
    have h15 : mm_M T 92 15 = nI (gx_f G.1).length := (hQ.2 92 15 (by unfold gm_e md_dc; omega)).trans h15S
    refine ⟨T, nI i, v, ?_, hQ⟩
    rw [b193_9 (wx_o92 hw), h15, if_pos (nI_le (by rw [List.length_nil] at hi; omega) (by rw [List.length_nil] at hi; omega))]
    rfl
  | cons f l ih =>
    intro i T D v hQ hA hf hi
    have hw := hA.1
    rw [List.length_cons] at hi
    have h15 : mm_M T 92 15 = nI (gx_f G.1).length := (hQ.2 92 15 (by unfold gm_e md_dc; omega)).trans h15S
    have hif : i < (gx_f G.1).length := by omega
    have hfi : (gx_f G.1).getD i 0 = f := by
      rw [List.getD_eq_getElem?_getD]
      conv => lhs; rw [hf]
      rw [List.getElem?_append_right (by rw [List.length_take]; omega), List.length_take, Nat.min_eq_left (by omega), Nat.sub_self]
      rfl
    have hfm : f ∈ gx_f G.1 := by rw [hf]; exact List.mem_append.mpr (Or.inr List.mem_cons_self)
    have hf3 := ok.1.2.2.2.2.1 f hfm
    have cl : (nI i).toNatClampNeg = i := nI_clamp (by omega)
    have hbi : mm_inb (nI i) 12 = true := hp_inb (by omega) (by omega)
    have fm : ∀ {U : mm_S}, QK S U → mm_M U 101 i = nI f := fun q => ((q.2 101 i (by unfold gm_e md_dc; omega)).trans (hfS i hif)).trans (by rw [hfi])
    have out : ∀ {U : mm_S} {v : Value}, mm_W U → mm_ex (d + 9) 193 9 [.ref 92, .int (nI i), .int (nI (i + 1)), v] [] U = mm_ex (d + 9) 193 71 [.ref 92, .int (nI i), .int (nI (i + 1)), v] [] U := by
      intro U v hu
      rw [b193_9 (wx_o92 hu)]
      by_cases z : mm_M U 92 15 ≤ nI (i + 1)
      · rw [if_pos z]
      · rw [if_neg z, b193_17, if_neg (nI_m5 (by omega))]
    have st : mm_ex (d + 9) 193 9 [.ref 92, .int (-5), .int (nI i), v] [] T = mm_ex (d + 9) 193 27 [.ref 92, .int (-5), .int (nI i), v] [.int (if ab_com D = true then nI 1 else nI 0)] T := by
      rw [b193_9 (wx_o92 hw), h15, if_neg (nI_ge hif (by omega)), b193_17, if_pos rfl, b193_23 (wx_k92 hw), s168w hA, hp_bd, hp_ts]
    have eo : ab_off (gP G) (f :: l) i D = if ab_com D = true ∧ ab_ha (gP G) D = f then ab_off (gP G) l (i + 1) (ab_turn (gP G) D) else nI i := rfl
    cases hc : ab_com D with
    | false =>
      refine ⟨T, nI (i + 1), .int (nI 0), ?_, hQ⟩
      have nf : ¬ nI 0 = nI f := fun e => by
        have := (nI_eq (by omega) (by omega)).mp e
        omega
      rw [st, b193_27, hc, if_pos (by decide), b193_43 (wx_o92 hw) (wx_s92_16 hw) (by rw [wx_g92_16 hw, wx_N101 hw]; exact hbi) (by rw [wx_g92_16 hw]; exact wx_a101 hw), wx_g92_16 hw, cl, fm hQ, if_neg nf, b193_63, nI_add, out hw, eo, hc, if_neg (fun e => by cases e.1)]
    | true =>
      obtain ⟨b, r, U, T2, hr, hh, g1, g2, g3, g4, g5, -, -⟩ := s169t (d := d) hA hc
      have qU := QK_md hQ (mf_q g2)
      have q2 := QK_md hQ g4
      have wU := mq_W g2 hw
      have hb : b < ab_kn (gP G) := hA.2.2.2.2.2.1 b (by rw [hr]; exact List.mem_cons_self)
      have a3 : ab_ha (gP G) D ≤ 3 := by
        have := (@ab_act_ok (gP G) D b ((ab_row D).length - 1) hA.2.2.2.1 hA.2.2.2.2 hb).2.1
        unfold ab_ha
        rw [hr] at this ⊢
        exact this
      have e2 : (nI (ab_ha (gP G) D) = nI f) = (ab_ha (gP G) D = f) := propext (nI_eq (by omega) (by omega))
      have st2 : mm_ex (d + 9) 193 9 [.ref 92, .int (-5), .int (nI i), v] [] T = if nI (ab_ha (gP G) D) = nI f then mm_ex (d + 9) 193 55 [.ref 92, .int (-5), .int (nI i), .int (nI (ab_ha (gP G) D))] [] U else mm_ex (d + 9) 193 63 [.ref 92, .int (-5), .int (nI i), .int (nI (ab_ha (gP G) D))] [] U := by
        rw [st, b193_27, hc, if_neg (by decide), b193_30 (wx_o92 hw) (wx_s92_9 hw) (by rw [wx_g92_9 hw, wx_N100 hw]; rfl) (by rw [wx_g92_9 hw]; exact wx_a100 hw) (wx_k92 hw), wx_g92_9 hw, show (nI 0).toNatClampNeg = 0 from rfl, hh, g1, hp_bd, hp_ts, b193_40 (wx_o92 wU) (wx_s92_16 wU) (by rw [wx_g92_16 wU, wx_N101 wU]; exact hbi) (by rw [wx_g92_16 wU]; exact wx_a101 wU), wx_g92_16 wU, cl, fm qU]
      by_cases he : ab_ha (gP G) D = f
      · obtain ⟨T3, w, v', g6, g7⟩ := ih (i + 1) T2 (ab_turn (gP G) D) (.int (nI (ab_ha (gP G) D))) q2 g5 (by
          rw [List.take_add_one]
          conv => lhs; rw [hf]
          rw [List.append_assoc]
          congr 1
          have : (gx_f G.1)[i]? = some f := by
            rw [List.getD_eq_getElem?_getD, List.getElem?_eq_getElem hif] at hfi
            rw [List.getElem?_eq_getElem hif]
            exact congrArg some hfi
          rw [this]
          rfl) (by omega)
        refine ⟨T3, w, v', ?_, g7⟩
        rw [st2, if_pos (by rw [e2]; exact he), b193_55 (wx_k92 wU), g3, hp_bd, hp_tn, b193_60, nI_add, g6, eo, if_pos ⟨hc, he⟩]
      · refine ⟨U, nI (i + 1), .int (nI (ab_ha (gP G) D)), ?_, qU⟩
        rw [st2, if_neg (by rw [e2]; exact he), b193_63, nI_add, out wU, eo, if_neg (fun e => he e.2)]
theorem m_23 (ok : gb_ok G) (hR : RM S G) : oM S (d + 9) 193 [.ref 92] (.int (an_23 G)) G := by
  have hw := hR.1
  obtain ⟨T, w, v, g1, g2⟩ := m193_loop (d := d) ok hR (gx_f G.1) 0 (mm_kp S) (gD G) .null QK_kp (kp_A ok hR) (by simp) (by omega)
  have wT := QK_W g2 hw
  refine oM_Q (QM_ly ok hR g2) ?_
  rw [e193, b193_0 (wx_k92 hw), s171 hw, hp_bd, hp_tn, b193_4, g1, b193_71 (wx_k92 wT), s172 wT, hp_bd, hp_tn, b193_75]
  rfl
theorem m176_it (ok : gb_ok G) (hR : RM S G) (hc : ab_com (gD G) = true) {act : Nat} (ha : act = 1 ∨ act = 2 ∨ act = 3) (hx : x = nI 0 ∨ x = nI 1) {s : Nat × Int32} (hs : s.1 ≤ 3) {v6 : Value} : ∃ T v, mm_ex (d + 10) 176 36 [.ref 92, .int x, .int (nI ((ab_row (gD G)).headD 0)), .int (nI s.1), .int s.2, .int (nI act), v6] [] S = mm_ex (d + 10) 176 36 [.ref 92, .int x, .int (nI ((ab_row (gD G)).headD 0)), .int (nI (ab_f1 (gP G) (gD G) (if x = nI 0 then 0 else 1) s act).1), .int (ab_f1 (gP G) (gD G) (if x = nI 0 then 0 else 1) s act).2, .int (nI (act + 1)), v] [] T ∧ QM S T G := by
  have hw := hR.1
  have wk : mm_W (mm_kp S) := hw
  have hA := RM_A ok hR
  obtain ⟨b, r, hr, hlo⟩ := com_row hc
  have hb : b < ab_kn (gP G) := ok.1.2.1.2.1 b (by have e : ab_row (gx_D (gb_x G)) = b :: r := hr; rw [e]; exact List.mem_cons_self)
  have hk : ab_kn (gP G) ≤ 6 := ok.1.1.1
  have ehd : (ab_row (gD G)).headD 0 = b := by rw [hr]; rfl
  have edo : ab_does (gP G) (gD G) act = ab_do (gP G) (gD G) b r act := by unfold ab_does; rw [hr]
  have go : (act = 3 → ab_may (gP G) (gD G) b = true) → ∃ T v, mm_ex (d + 10) 176 56 [.ref 92, .int x, .int (nI b), .int (nI s.1), .int s.2, .int (nI act), v6] [] S = mm_ex (d + 10) 176 36 [.ref 92, .int x, .int (nI b), .int (nI (ab_f1 (gP G) (gD G) (if x = nI 0 then 0 else 1) s act).1), .int (ab_f1 (gP G) (gD G) (if x = nI 0 then 0 else 1) s act).2, .int (nI (act + 1)), v] [] T ∧ QM S T G := by
    intro hm
    obtain ⟨T1, g1, g2, g3, -⟩ := s169 (d := d + 4) (kp_A ok hR) hr ha hlo hm
    obtain ⟨T2, g4, g5, g6, -⟩ := s173 (d := d) g3
    have w1 := g3.1
    have w2 := g6.1
    have q2 : QK S T2 := QK_md (QK_md QK_kp g2) g5
    have wl : mm_W (mm_ly T2) := w2
    obtain ⟨t1, t2, t3, t4, t5, t6, t7, t8⟩ := g6.2.2.1
    have cl : (nI b).toNatClampNeg = b := nI_clamp (by omega)
    have hbi : mm_inb (nI b) 6 = true := hp_inb (by omega) (by omega)
    have st : mm_ex (d + 10) 176 56 [.ref 92, .int x, .int (nI b), .int (nI s.1), .int s.2, .int (nI act), v6] [] S = mm_ex (d + 10) 176 98 [.ref 92, .int x, .int (nI b), .int (nI s.1), .int s.2, .int (nI act), .int (ab_fv (gP G) (gD G) (if x = nI 0 then 0 else 1) act)] [] (mm_ly T2) := by
      unfold ab_fv
      rw [ehd, edo, b176_56 (wx_k92 hw), s171 hw, hp_bd, hp_tn, b176_60 (wx_k92 wk), g1, hp_bd, hp_tn, b176_66 (wx_k92 w1), g4, hp_bd, hp_tn, b176_70]
      by_cases x0 : x = nI 0
      · rw [if_pos x0, if_pos x0, if_pos rfl, b176_74 (wx_o92 w2) (wx_s92_6 w2) (by rw [wx_g92_6 w2, wx_N98 w2]; exact hbi) (by rw [wx_g92_6 w2]; exact wx_a98 w2) (wx_k92 w2), s172 w2, hp_bd, hp_tn, wx_g92_6 w2, cl, show mm_M T2 98 b = _ from t4 b hb]
      · rw [if_neg x0, if_neg x0, if_neg (by decide), b176_83 (wx_o92 w2) (wx_k92 w2), s174 g6, hp_bd, hp_tsc, b176_91 (wx_k92 w2), s172 w2, hp_bd, hp_tn, t7]
    refine ⟨mm_ly T2, .int (ab_fv (gP G) (gD G) (if x = nI 0 then 0 else 1) act), ?_, QM_ly ok hR q2⟩
    have hn3 : ¬ (act = 3 ∧ ab_may (gP G) (gD G) ((ab_row (gD G)).headD 0) = false) := by
      rw [ehd]
      intro e
      rw [hm e.1] at e
      cases e.2
    have e0 : (nI s.1 = nI 0) = (s.1 = 0) := propext (nI_eq (by omega) (by omega))
    rw [st, b176_98]
    unfold ab_f1
    rw [if_neg hn3]
    simp only [e0]
    by_cases h0 : s.1 = 0
    · rw [if_pos h0, if_pos (Or.inl h0), b176_109, nI_add]
    · rw [if_neg h0, b176_102]
      by_cases h1 : s.2 < ab_fv (gP G) (gD G) (if x = nI 0 then 0 else 1) act
      · rw [if_pos (Or.inr h1), if_neg (Int32.not_le.mpr h1), b176_109, nI_add]
      · have nn : ¬ (s.1 = 0 ∨ s.2 < ab_fv (gP G) (gD G) (if x = nI 0 then 0 else 1) act) := fun e => Or.elim e h0 h1
        rw [if_neg nn, if_pos (Int32.not_lt.mp h1), b176_116, nI_add]
  rw [ehd]
  by_cases h3 : act = 3
  · subst h3
    have k160 := s160 (d := d + 8) hA hb
    cases hm : ab_may (gP G) (gD G) b with
    | true =>
      obtain ⟨T, v, g1, g2⟩ := go (fun _ => hm)
      refine ⟨T, v, ?_, g2⟩
      rw [b176_36, if_neg (by decide), b176_42, if_pos rfl, b176_48 (wx_k92 hw), k160, hp_bd, hp_ts, b176_53, hm, if_pos rfl, if_neg i01, g1]
    | false =>
      refine ⟨S, v6, ?_, QM_rf hR⟩
      unfold ab_f1
      rw [ehd, hm, if_pos ⟨rfl, rfl⟩, b176_36, if_neg (by decide), b176_42, if_pos rfl, b176_48 (wx_k92 hw), k160, hp_bd, hp_ts, b176_53, hm, if_pos (by decide), b176_116, nI_add]
  · obtain ⟨T, v, g1, g2⟩ := go (fun e => absurd e h3)
    refine ⟨T, v, ?_, g2⟩
    have n3 : ¬ nI act = nI 3 := fun e => h3 ((nI_eq (by omega) (by omega)).mp e)
    rw [b176_36, if_neg (nI_nlt (by omega) (by omega)), b176_42, if_neg n3, g1]
theorem m_13 (ok : gb_ok G) (hR : RM S G) : oM S (d + 10) 176 [.ref 92, .int x] (.int (an_13 G x)) G := by
  have hw := hR.1
  have hA := RM_A ok hR
  unfold an_13
  by_cases hx : x = nI 0 ∨ x = nI 1
  · rw [if_pos hx]
    have k128 : mm_cl (d + 9) 128 [.int x, .int (nI 0), .int (nI 1)] S = some (some (.int (nI 1)), S) := by
      rcases hx with rfl | rfl
      · exact m128s (n := 1) rfl (by decide) (j := 0) (by decide)
      · exact m128s (n := 1) rfl (by decide) (j := 1) (by decide)
    have st : mm_cl (d + 10) 176 [.ref 92, .int x] S = mm_ex (d + 10) 176 15 [.ref 92, .int x, .null, .null, .null, .null, .null] [.int (if ab_com (gD G) = true then nI 1 else nI 0)] S := by
      rw [e176, b176_0, k128, hp_bd, hp_ts, b176_6, if_neg i01, b176_11 (wx_k92 hw), s168w hA, hp_bd, hp_ts]
    cases hc : ab_com (gD G) with
    | false =>
      refine oM_id hR ?_
      rw [st, hc, b176_15, if_pos (by decide), b176_18, if_neg (by decide)]
    | true =>
      obtain ⟨b, r, hr, hlo⟩ := com_row hc
      have ehd : (ab_row (gD G)).headD 0 = b := by rw [hr]; rfl
      have h0 : mm_M S 100 0 = nI b := by
        have := hR.2.1.2.1.2.1 0 (by have e : ab_row (gx_D (gb_x G)) = b :: r := hr; rw [e]; exact Nat.succ_pos _)
        have e : ab_row (gx_D (gb_x G)) = b :: r := hr
        rw [e] at this
        exact this
      obtain ⟨T1, v1, g1, q1⟩ := m176_it (d := d) (s := (0, nI 0)) (v6 := .null) ok hR hc (act := 1) (by decide) hx (by decide)
      obtain ⟨T2, v2, g2, q2⟩ := m176_it (d := d) (s := ab_f1 (gP G) (gD G) (if x = nI 0 then 0 else 1) (0, nI 0) 1) (v6 := v1) ok q1.1 hc (act := 2) (by decide) hx (f1_le (by decide) (by decide))
      obtain ⟨T3, v3, g3, q3⟩ := m176_it (d := d) (s := ab_f1 (gP G) (gD G) (if x = nI 0 then 0 else 1) (ab_f1 (gP G) (gD G) (if x = nI 0 then 0 else 1) (0, nI 0) 1) 2) (v6 := v2) ok q2.1 hc (act := 3) (by decide) hx (f1_le (f1_le (by decide) (by decide)) (by decide))
      rw [ehd] at g1 g2 g3
      refine oM_Q (QM_tr q1 (QM_tr q2 q3)) ?_
      rw [st, hc, b176_15, if_pos rfl, if_neg i01, b176_21 (wx_o92 hw) (wx_s92_9 hw) (by rw [wx_g92_9 hw, wx_N100 hw]; rfl) (by rw [wx_g92_9 hw]; exact wx_a100 hw), wx_g92_9 hw, show (nI 0).toNatClampNeg = 0 from rfl, h0, if_pos rfl]
      refine Eq.trans g1 (g2.trans (g3.trans ?_))
      rw [b176_36, if_pos (by decide), b176_122]
      rfl
  · rw [if_neg hx]
    have e : ab_kw 2 x = none := by
      rcases kw_d (n := 1) (m := 2) rfl (by decide) x with ⟨z, -⟩ | ⟨z, -⟩ | ⟨j, hj, -, z, -⟩
      · exact z
      · exact z
      · exfalso
        rcases (by omega : j = 0 ∨ j = 1) with rfl | rfl
        · exact hx (Or.inl z)
        · exact hx (Or.inr z)
    refine oM_id hR ?_
    rw [e176, b176_0, m128n (n := 1) rfl (by decide) e, hp_bd, hp_ts, b176_6, if_pos rfl, b176_9]
/-! fee -/
theorem log_len : ∀ (k : Nat) (D : ab_D), (ab_log P k D).length ≤ k := by
  intro k
  induction k with
  | zero => intro D; exact Nat.le_refl _
  | succ k ih =>
    intro D
    show (if ab_com D = true then _ else _ : List (Nat × Nat)).length ≤ _
    split
    · rw [List.length_cons]
      have := ih (ab_turn P D)
      omega
    · exact Nat.zero_le _
theorem refs_c : ∀ (l : List (Nat × Nat)) (n : Nat), n + l.length ≤ 100 → (ab_refs l (nI n) = nI 0) = (n = 0 ∧ ab_nob l = true) := by
  intro l
  induction l with
  | nil =>
    intro n h
    rw [List.length_nil] at h
    show (nI n = nI 0) = (n = 0 ∧ true = true)
    rw [eq_self, and_true]
    exact propext (nI_eq (by omega) (by omega))
  | cons e l ih =>
    intro n h
    rw [List.length_cons] at h
    have e1 : ab_refs (e :: l) (nI n) = ab_refs l (if e.2 = 2 then nI n + nI 1 else nI n) := rfl
    have e2 : ab_nob (e :: l) = (decide (e.2 ≠ 2) && ab_nob l) := rfl
    rw [e1, e2]
    by_cases h2 : e.2 = 2
    · rw [if_pos h2, nI_add, ih (n + 1) (by omega), decide_eq_false (fun q => q h2), Bool.false_and]
      exact propext ⟨fun q => absurd q.1 (by omega), fun q => absurd q.2 (by decide)⟩
    · rw [if_neg h2, ih n (by omega), decide_eq_true h2, Bool.true_and]
theorem fe_A (hA : md_A S P D) {f : Nat} (hf : f < 100) : md_A (mm_uM S 92 27 (nI f)) (gP_fe P f) D := by
  obtain ⟨hw, ⟨p1, p2, p3, ⟨o, p4⟩, -⟩, ⟨h1, h2, h3, h4, h5, h6, h7, h8⟩, oP, oD⟩ := hA
  refine ⟨hw, ⟨(rdn (by omega)).trans p1, fun b hb => ?_, fun i hi => (rdn (by omega)).trans (p3 i hi), ⟨o, mf_sh (fun c i a b => rdn (by omega)) (rdn (by omega)) p4⟩, Or.inr rds⟩, ⟨(rdn (by omega)).trans h1, fun i hi => (rdn (by omega)).trans (h2 i hi), fun i hi => (rdn (by omega)).trans (h3 i hi), fun i hi => (rdn (by omega)).trans (h4 i hi), (rdn (by omega)).trans h5, (rdn (by omega)).trans h6, (rdn (by omega)).trans h7, (rdn (by omega)).trans h8⟩, ⟨oP.1, hf, oP.2.2⟩, oD⟩
  obtain ⟨q1, q2, q3, q4⟩ := p2 b hb
  exact ⟨(rdn (by omega)).trans q1, (rdn (by omega)).trans q2, (rdn (by omega)).trans q3, (rdn (by omega)).trans q4⟩
theorem m183_it (ok : gb_ok G) (hR : RM S G) {f : Nat} (hf : f ≤ 20) {v2 : Value} : ∃ T v, mm_ex (d + 10) 183 2 [.ref 92, .int (nI f), v2] [] S = (if ab_nob (ab_lgs (gP_fe (gP G) f) (gD G)) = true then some (some (.int (nI f)), T) else mm_ex (d + 10) 183 2 [.ref 92, .int (nI (f + 1)), v] [] T) ∧ QM S T G := by
  have hw := hR.1
  have w1 : mm_W (mm_uM S 92 27 (nI f)) := hw
  have A1 := fe_A (RM_A ok hR) (f := f) (by omega)
  have k1 : sf_f gm_F (mm_uM S 92 27 (nI f)) (mm_kp (mm_uM S 92 27 (nI f))) := kp_F
  have wk : mm_W (mm_kp (mm_uM S 92 27 (nI f))) := hw
  have Ak : md_A (mm_kp (mm_uM S 92 27 (nI f))) (gP_fe (gP G) f) (gD G) := by
    obtain ⟨-, hp, hd, oP, oD⟩ := A1
    exact ⟨wk, mt_P (fun c j q => (k1.1 c j (by unfold nX at q; unfold gm_F; omega)).1) hp, mt_D oP.1 (row_le oP oD) (fun c j q => (k1.1 c j (by unfold nX at q; unfold gm_F; omega)).1) hd, oP, oD⟩
  obtain ⟨T, g1, g2, g3, -, g5⟩ := s173 (d := d) Ak
  have wT := g3.1
  have wl : mm_W (mm_ly T) := wT
  have qk : QK (mm_uM S 92 27 (nI f)) T := QK_md QK_kp g2
  obtain ⟨l1, l2, l3⟩ := QK_ly qk
  have h43 : mm_M (mm_kp (mm_uM S 92 27 (nI f))) 92 43 = nI 0 := by rw [kp_M]; rfl
  rw [h43] at g5
  have fin : QM S (mm_uM (mm_ly T) 92 27 (-1)) G := by
    refine QM_f ok hR ⟨fun c j hc => ⟨?_, (l1.1 c j hc).2.1, (l1.1 c j hc).2.2⟩, l1.2.1, l1.2.2⟩ wl l2 l3
    by_cases h : c = 92 ∧ j = 27
    · rw [h.1, h.2, rds]
      exact hR.2.1.2.2.2.2.2.2.symm
    · rw [rdn h, (l1.1 c j hc).1, rdn h]
  refine ⟨_, .int (ab_refs (ab_lgs (gP_fe (gP G) f) (gD G)) (nI 0)), ?_, fin⟩
  have e0 := refs_c (ab_lgs (gP_fe (gP G) f) (gD G)) 0 (by have := @log_len (gP_fe (gP G) f) 60 (gD G); unfold ab_lgs; omega)
  have e1 : (ab_refs (ab_lgs (gP_fe (gP G) f) (gD G)) (nI 0) = nI 0) = (ab_nob (ab_lgs (gP_fe (gP G) f) (gD G)) = true) := by
    rw [e0, eq_self, true_and]
  rw [b183_2, if_neg (nI_nlt (by omega) (by omega)), b183_8 (wx_o92 hw) (wx_k92 hw), s171 w1, hp_bd, hp_tn, b183_17 (wx_k92 wk), g1, hp_bd, hp_tn, b183_21 (wx_o92 wT) (wx_k92 wT), s172 wT, hp_bd, hp_tn, b183_30 (wx_o92 wl), g5]
  simp only [e1]
  split
  · rw [b183_39]
  · rw [b183_41, nI_add]
theorem m183_loop (ok : gb_ok G) : ∀ (k i : Nat) (S : mm_S) (v : Value), RM S G → i + k = 21 → ∃ T, mm_ex (d + 10) 183 2 [.ref 92, .int (nI i), v] [] S = some (some (.int (ab_fee (gP G) (gD G) k i)), T) ∧ QM S T G := by
  intro k
  induction k with
  | zero =>
    intro i S v hR hi
    refine ⟨S, ?_, QM_rf hR⟩
    rw [b183_2, if_pos (nI_lt (by omega) (by omega)), b183_47]
    rfl
  | succ k ih =>
    intro i S v hR hi
    obtain ⟨T, v2, g1, g2⟩ := m183_it (d := d) ok hR (f := i) (by omega) (v2 := v)
    have ef : ab_fee (gP G) (gD G) (k + 1) i = if ab_nob (ab_lgs (gP_fe (gP G) i) (gD G)) = true then nI i else ab_fee (gP G) (gD G) k (i + 1) := rfl
    by_cases hb : ab_nob (ab_lgs (gP_fe (gP G) i) (gD G)) = true
    · refine ⟨T, ?_, g2⟩
      rw [g1, ef, if_pos hb, if_pos hb]
    · obtain ⟨T2, g3, g4⟩ := ih (i + 1) T v2 g2.1 (by omega)
      refine ⟨T2, ?_, QM_tr g2 g4⟩
      rw [g1, ef, if_neg hb, if_neg hb, g3]
theorem m_17 (ok : gb_ok G) (hR : RM S G) : oM S (d + 10) 183 [.ref 92] (.int (an_17 G)) G := by
  obtain ⟨T, g1, g2⟩ := m183_loop (d := d) ok 21 0 S .null hR rfl
  refine oM_Q g2 ?_
  rw [e183, b183_0, g1]
  rfl
/-! one price -/
theorem m184_in (hA : md_A S P D) {s : Nat × Nat} (hp : p < 2 ^ 20) {x1 x2 x3 : Int32} : ∀ (l : List Nat) (i : Nat) (T : mm_S), md_q S T → ab_row D = (ab_row D).take i ++ l → i + l.length = (ab_row D).length → ∃ U, mm_ex (d + 5) 184 31 [.ref 92, .int x1, .int x2, .int x3, .int (nI p), .int (nI (min (ab_lo D) (ab_tk (((ab_row D).take i).map (ab_val P D)) p))), .int (nI i)] [] T = mm_ex (d + 5) 184 81 [.ref 92, .int x1, .int x2, .int x3, .int (nI p), .int (nI (min (ab_lo D) (ab_tk (ab_vs P D) p))), .int (nI (ab_row D).length)] [] U ∧ md_q S U := by
  have hl6 := row_le hA.2.2.2.1 hA.2.2.2.2
  have hlo9 : ab_lo D ≤ 9 := hA.2.2.2.2.2.2.2.2
  intro l
  induction l with
  | nil =>
    intro i T hq hr hi
    have AT := mq_A hq hA
    have hw := AT.1
    rw [List.append_nil] at hr
    rw [List.length_nil] at hi
    refine ⟨T, ?_, hq⟩
    have hi' : i = (ab_row D).length := hi
    rw [b184_31 (wx_o92 hw), AT.2.2.1.1, if_pos (nI_le (by omega) (by omega)), ← hr, hi']
    rfl
  | cons o l ih =>
    intro i T hq hr hi
    have AT := mq_A hq hA
    have hw := AT.1
    rw [List.length_cons] at hi
    have hil : i < (ab_row D).length := by omega
    have hio : (ab_row D)[i]? = some o := by
      rw [hr, List.getElem?_append_right (by rw [List.length_take]; omega), List.length_take, Nat.min_eq_left (by omega), Nat.sub_self]
      rfl
    have hgo : (ab_row D).getD i 0 = o := by rw [List.getD_eq_getElem?_getD, hio]; rfl
    have hom : o ∈ ab_row D := by rw [hr]; exact List.mem_append.mpr (Or.inr List.mem_cons_self)
    have hob := hA.2.2.2.2.2.1 o hom
    have cl : (nI i).toNatClampNeg = i := nI_clamp (by omega)
    have hbi : mm_inb (nI i) 6 = true := hp_inb (by omega) (by omega)
    have h100 := AT.2.2.1.2.1 i hil
    rw [hgo] at h100
    obtain ⟨U, g1, g2⟩ := s156 (d := d) AT hob
    have AU := mq_A g2 AT
    have wU := AU.1
    have et : (ab_row D).take (i + 1) = (ab_row D).take i ++ [o] := by
      rw [List.take_add_one, hio]
      rfl
    have etk : ab_tk (((ab_row D).take (i + 1)).map (ab_val P D)) p = ab_tk (((ab_row D).take i).map (ab_val P D)) p + (if p ≤ ab_val P D o then 1 else 0) := by
      rw [et, List.map_append]
      exact tk_s
    obtain ⟨V, g3, g4⟩ := ih (i + 1) U (mq_tr hq g2) (by
      rw [et, List.append_assoc]
      exact hr) (by omega)
    have hv := @ab_val_le P D o hA.2.2.2.1 hob
    have hn : min (ab_lo D) (ab_tk (((ab_row D).take i).map (ab_val P D)) p) ≤ 9 := Nat.le_trans (Nat.min_le_left _ _) hlo9
    refine ⟨V, ?_, g4⟩
    rw [b184_31 (wx_o92 hw), AT.2.2.1.1, if_neg (nI_ge hil (by omega)), b184_40 (wx_o92 hw) (wx_s92_9 hw) (by rw [wx_g92_9 hw, wx_N100 hw]; exact hbi) (by rw [wx_g92_9 hw]; exact wx_a100 hw) (wx_k92 hw), wx_g92_9 hw, cl, h100, g1, hp_bd, hp_tsc, b184_53]
    by_cases h1 : p ≤ ab_val P D o
    · rw [if_neg (nI_nlt h1 (by omega)), b184_58 (wx_o92 wU), AU.2.2.1.2.2.2.2.2.1]
      rw [if_pos h1] at etk
      by_cases h2 : ab_lo D ≤ min (ab_lo D) (ab_tk (((ab_row D).take i).map (ab_val P D)) p)
      · have em : min (ab_lo D) (ab_tk (((ab_row D).take i).map (ab_val P D)) p + 1) = min (ab_lo D) (ab_tk (((ab_row D).take i).map (ab_val P D)) p) + 0 := by omega
        rw [etk, em] at g3
        rw [if_pos (nI_le h2 (by omega)), b184_71, nI_add, nI_add, g3]
      · have em : min (ab_lo D) (ab_tk (((ab_row D).take i).map (ab_val P D)) p + 1) = min (ab_lo D) (ab_tk (((ab_row D).take i).map (ab_val P D)) p) + 1 := by omega
        rw [etk, em] at g3
        rw [if_neg (nI_ge (by omega) (by omega)), b184_67, nI_add, nI_add, g3]
    · rw [if_neg h1] at etk
      rw [if_pos (nI_lt (by omega) (by omega)), b184_71, nI_add, nI_add, ← g3, etk]
      rfl
theorem m184_loop (hA : md_A S P D) : ∀ (k p : Nat) (T : mm_S) (v5 v6 : Value), md_q S T → p + k = 100 → ∃ U v7 v8, mm_ex (d + 5) 184 18 [.ref 92, .int x, .int (nI (ab_o1 P D p).1), .int (nI (ab_o1 P D p).2), .int (nI p), v5, v6] [] T = mm_ex (d + 5) 184 105 [.ref 92, .int x, .int (nI (ab_o1 P D 100).1), .int (nI (ab_o1 P D 100).2), .int (nI 100), v7, v8] [] U ∧ md_q S U := by
  have hlo9 : ab_lo D ≤ 9 := hA.2.2.2.2.2.2.2.2
  intro k
  induction k with
  | zero =>
    intro p T v5 v6 hq hp
    have e : p = 100 := by omega
    subst e
    refine ⟨T, v5, v6, ?_, hq⟩
    rw [b184_18, if_pos (by decide)]
  | succ k ih =>
    intro p T v5 v6 hq hp
    obtain ⟨U, g1, g2⟩ := m184_in (d := d) (s := (0, 0)) (p := p) hA (by omega) (x1 := x) (x2 := nI (ab_o1 P D p).1) (x3 := nI (ab_o1 P D p).2) (ab_row D) 0 T hq (by simp) (by omega)
    obtain ⟨V, v7, v8, g3, g4⟩ := ih (p + 1) U (.int (nI (min (ab_lo D) (ab_tk (ab_vs P D) p)))) (.int (nI (ab_row D).length)) g2 (by omega)
    have e1 : ab_o1 P D (p + 1) = ab_op (ab_lo D) (ab_vs P D) (ab_o1 P D p) p := by
      unfold ab_o1
      rw [List.range_succ, List.foldl_append]
      rfl
    have l1 := @o1_le P D hlo9 p (by omega)
    have hm : min (ab_lo D) (ab_tk (ab_vs P D) p) ≤ 9 := Nat.le_trans (Nat.min_le_left _ _) hlo9
    have hpm : p * min (ab_lo D) (ab_tk (ab_vs P D) p) ≤ 100 * 9 := Nat.mul_le_mul (by omega) hm
    refine ⟨V, v7, v8, ?_, g4⟩
    have e : min (ab_lo D) (ab_tk (((ab_row D).take 0).map (ab_val P D)) p) = 0 := by
      rw [List.take_zero]
      exact Nat.min_zero _
    rw [e] at g1
    rw [b184_18, if_neg (nI_nlt (by omega) (by omega)), b184_25, g1, b184_81, nI_mul]
    rw [e1] at g3
    unfold ab_op at g3
    by_cases h : (ab_o1 P D p).2 < p * min (ab_lo D) (ab_tk (ab_vs P D) p)
    · rw [if_pos h] at g3
      rw [if_neg (nI_ge h (by omega)), b184_90, nI_mul, nI_add]
      exact g3
    · rw [if_neg h] at g3
      rw [if_pos (nI_le (by omega) (by omega)), b184_99, nI_add]
      exact g3
theorem m_18 (ok : gb_ok G) (hR : RM S G) : oM S (d + 5) 184 [.ref 92, .int x] (.int (an_18 G x)) G := by
  have hw := hR.1
  unfold an_18
  obtain ⟨U, v7, v8, g1, g2⟩ := m184_loop (d := d) (x := x) (RM_A ok hR) 100 0 S .null .null mq_rf (by decide)
  by_cases h0 : x = nI 0
  · refine oM_Q (QM_q ok hR g2) ?_
    have k128 : mm_cl (d + 4) 128 [.int x, .int (nI 0), .int (nI 1)] S = some (some (.int (nI 1)), S) := by
      rw [h0]; exact m128s (n := 1) rfl (by decide) (j := 0) (by decide)
    rw [e184, b184_0, k128, hp_bd, hp_ts, b184_6, if_neg i01, b184_11, if_pos h0]
    refine Eq.trans g1 ?_
    rw [b184_105, if_pos h0, b184_109]
  by_cases h1 : x = nI 1
  · refine oM_Q (QM_q ok hR g2) ?_
    have k128 : mm_cl (d + 4) 128 [.int x, .int (nI 0), .int (nI 1)] S = some (some (.int (nI 1)), S) := by
      rw [h1]; exact m128s (n := 1) rfl (by decide) (j := 1) (by decide)
    rw [e184, b184_0, k128, hp_bd, hp_ts, b184_6, if_neg i01, b184_11, if_neg h0, if_pos h1]
    refine Eq.trans g1 ?_
    rw [b184_105, if_neg h0, b184_113]
  · have e : ab_kw 2 x = none := by
      rcases kw_d (n := 1) (m := 2) rfl (by decide) x with ⟨z, -⟩ | ⟨z, -⟩ | ⟨j, hj, -, z, -⟩
      · exact z
      · exact z
      · exfalso
        rcases (by omega : j = 0 ∨ j = 1) with rfl | rfl
        · exact h0 z
        · exact h1 z
    refine oM_id hR ?_
    rw [e184, b184_0, m128n (n := 1) rfl (by decide) e, hp_bd, hp_ts, b184_6, if_pos rfl, b184_9, if_neg h0, if_neg h1]
end QM1
