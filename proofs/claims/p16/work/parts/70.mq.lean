/-! ===== questions of the reference: what they write is laid back ===== -/
def gm_e (c j : Nat) : Prop := md_dc c j ∨ c = 121
def QK (S T : mm_S) : Prop := T = mm_wM S (mm_M T) ∧ ∀ c j, ¬ gm_e c j → mm_M T c j = mm_M (mm_kp S) c j
def QM (S T : mm_S) (G : gb_G) : Prop := RM T G ∧ sf_f gm_F S T ∧ mm_n T = mm_n S ∧ mm_z T = mm_z S
section QMS
variable {S T U : mm_S} {G : gb_G} {P : ab_P} {D : ab_D} {b c d n k i j : Nat} {x w y : Int32} {r : List Nat}
theorem nI_m5 {n : Nat} (h : n < 2 ^ 31) : ¬ nI n = -5 := by
  intro e
  have := congrArg Int32.toInt e
  rw [nI_toInt h, show (-5 : Int32).toInt = -5 from rfl] at this
  omega
theorem QM_rf (hR : RM S G) : QM S S G := ⟨hR, sf_rf, rfl, rfl⟩
theorem QM_tr (h : QM S T G) (h2 : QM T U G) : QM S U G := ⟨h2.1, sf_tr h.2.1 h2.2.1, h2.2.2.1.trans h.2.2.1, h2.2.2.2.trans h.2.2.2⟩
theorem QM_f (ok : gb_ok G) (hR : RM S G) (h : sf_f gm_F S T) (hw : mm_W T) (hn : mm_n T = mm_n S) (hz : mm_z T = mm_z S) : QM S T G := ⟨RM_q ok h hw hR, h, hn, hz⟩
theorem QM_q (ok : gb_ok G) (hR : RM S G) (h : md_q S T) : QM S T G := QM_f ok hR (mq_F h) (mq_W h hR.1) (by rw [h.1]; rfl) (by rw [h.1]; rfl)
theorem oM_Q (h : QM S T G) {y : Nat} {as : List Value} {v : Value} (e : mm_cl d y as S = some (some v, T)) : oM S d y as v G := ⟨T, e, h.1, gmF_0 h.2.1, h.2.2⟩
theorem QK_kp : QK S (mm_kp S) := ⟨rfl, fun _ _ _ => rfl⟩
theorem QK_W (h : QK S T) (hw : mm_W S) : mm_W T := by rw [h.1]; exact hw
theorem QK_md (h : QK S T) (h2 : md_fr T U) : QK S U := by
  refine ⟨?_, fun c j hc => (h2.2 c j (fun e => hc (Or.inl e))).trans (h.2 c j hc)⟩
  have e := h2.1
  rw [h.1] at e
  exact e
theorem QK_w (h : QK S T) (hc : gm_e c j) : QK S (mm_uM T c j x) := by
  refine ⟨?_, fun c2 j2 h2 => ?_⟩
  · have e : mm_uM T c j x = mm_wM T (mm_M (mm_uM T c j x)) := hp_uMw
    refine e.trans ?_
    generalize mm_M (mm_uM T c j x) = F
    rw [h.1]
    rfl
  · rw [rdn (fun e => h2 (by rw [e.1, e.2]; exact hc))]
    exact h.2 c2 j2 h2
theorem kp_F : sf_f gm_F S (mm_kp S) := by
  refine ⟨fun c j hc => ⟨?_, rfl, rfl⟩, fun _ _ => ⟨rfl, rfl⟩, Nat.le_refl _⟩
  unfold gm_F at hc
  rw [kp_M]
  by_cases h : c = 92
  · subst h
    rw [if_pos rfl, if_neg (by omega), if_neg (by omega), if_neg (by omega), if_neg (by omega), if_neg (by omega), if_neg (by omega), if_neg (by omega)]
  · rw [if_neg h, if_neg (by omega), if_neg (by omega), if_neg (by omega)]
theorem QM_kp (ok : gb_ok G) (hR : RM S G) : QM S (mm_kp S) G := QM_f ok hR kp_F hR.1 rfl rfl
theorem kp_A (ok : gb_ok G) (hR : RM S G) : md_A (mm_kp S) (gP G) (gD G) := RM_A ok (QM_kp ok hR).1
theorem QK_ly (h : QK S T) : sf_f gm_F S (mm_ly T) ∧ mm_n (mm_ly T) = mm_n S ∧ mm_z (mm_ly T) = mm_z S := by
  have e1 : mm_n T = mm_n S := by rw [h.1]; rfl
  have e2 : mm_z T = mm_z S := by rw [h.1]; rfl
  refine ⟨⟨fun c j hc => ⟨?_, by rw [ly_L, h.1]; rfl, by rw [ly_R, h.1]; rfl⟩, fun c _ => ⟨by rw [ly_K, h.1]; rfl, by rw [ly_N, h.1]; rfl⟩, by rw [ly_n, e1]; exact Nat.le_refl _⟩, e1, e2⟩
  have q := h.2
  unfold gm_F at hc
  unfold gm_e md_dc at q
  rw [ly_M]
  by_cases h92 : c = 92
  · subst h92
    rw [if_pos rfl]
    by_cases h13 : j = 13
    · rw [if_pos h13, q 92 51 (by omega), kp_M, h13]; rfl
    rw [if_neg h13]
    by_cases h12 : j = 12
    · rw [if_pos h12, q 92 50 (by omega), kp_M, h12]; rfl
    rw [if_neg h12]
    by_cases h11 : j = 11
    · rw [if_pos h11, q 92 49 (by omega), kp_M, h11]; rfl
    rw [if_neg h11]
    by_cases h10 : j = 10
    · rw [if_pos h10, q 92 48 (by omega), kp_M, h10]; rfl
    rw [if_neg h10]
    by_cases h8 : j = 8
    · rw [if_pos h8, q 92 47 (by omega), kp_M, h8]; rfl
    rw [if_neg h8, q 92 j (by omega)]
    exact (kp_F.1 92 j (by unfold gm_F; omega)).1
  rw [if_neg h92]
  by_cases h98 : j < 6 ∧ c = 98
  · rw [if_pos h98, q 120 j (by omega), kp_M, if_neg (by decide), if_pos ⟨h98.1, rfl⟩, h98.2]
  rw [if_neg h98]
  by_cases h97 : j < 6 ∧ c = 97
  · rw [if_pos h97, q 119 j (by omega), kp_M, if_neg (by decide), if_neg (by omega), if_pos ⟨h97.1, rfl⟩, h97.2]
  rw [if_neg h97]
  by_cases h100 : j < 6 ∧ c = 100
  · rw [if_pos h100, q 118 j (by omega), kp_M, if_neg (by decide), if_neg (by omega), if_neg (by omega), if_pos ⟨h100.1, rfl⟩, h100.2]
  rw [if_neg h100, q c j (by omega)]
  exact (kp_F.1 c j (by unfold gm_F; omega)).1
theorem QM_ly (ok : gb_ok G) (hR : RM S G) (h : QK S T) : QM S (mm_ly T) G := QM_f ok hR (QK_ly h).1 (by rw [ly_W]; exact QK_W h hR.1) (QK_ly h).2.1 (QK_ly h).2.2
/-- to the end, from what is kept -/
theorem m173q (ok : gb_ok G) (hR : RM S G) : ∃ T, mm_cl (d + 9) 173 [.ref 92] (mm_kp S) = some (none, T) ∧ QK S T ∧ md_A T (gP G) (ab_fin (gP G) (gD G)) ∧ mm_M T 92 42 = ab_bits (ab_lgs (gP G) (gD G)) (nI 0) ∧ mm_M T 92 43 = ab_refs (ab_lgs (gP G) (gD G)) (nI 0) := by
  obtain ⟨T, g1, g2, g3, g4, g5⟩ := s173 (d := d) (kp_A ok hR)
  exact ⟨T, g1, QK_md QK_kp g2, g3, g4, g5⟩
/-- would: an answer of its own -/
def mn_10 (G : gb_G) (x : Int32) : Int32 := match ab_kw (gK G) x with
  | none => -1
  | some b => nI (ab_act (gP G) (gD G) b (ab_oth (gD G) b))
theorem m_10 (ok : gb_ok G) (hR : RM S G) : oM S (d + 9) 167 [.ref 92, .int x] (.int (mn_10 G x)) G := by
  have hw := hR.1
  have hk : gK G ≤ 6 := ok.1.1.1
  unfold mn_10
  rcases kw_c hk x with ⟨e, -⟩ | ⟨b, hb, e, rfl⟩
  · have k := m129n (d := d + 7) ok hR e
    rw [e]
    refine oM_id hR ?_
    rw [e167, b167_0 (wx_k92 hw), k, hp_bd, hp_ts, b167_5, if_pos rfl, b167_16]
  · have k := m129s (d := d + 7) ok hR hb
    obtain ⟨T, g1, g2⟩ := s166 (d := d) (RM_A ok hR) hb
    rw [e]
    refine oM_Q (QM_q ok hR g2) ?_
    rw [e167, b167_0 (wx_k92 hw), k, hp_bd, hp_ts, b167_5, if_neg i01, b167_8 (wx_k92 hw), g1, hp_bd, hp_ts, b167_13]
theorem m_12 (ok : gb_ok G) (hR : RM S G) : oM S (d + 10) 175 [.ref 92, .int w] (.int (an_12 G w)) G := by
  have hw := hR.1
  have wk : mm_W (mm_kp S) := hw
  have hk : gK G ≤ 6 := ok.1.1.1
  obtain ⟨T, g1, g2, g3, g4, -⟩ := m173q (d := d) ok hR
  have wT := g3.1
  have wl : mm_W (mm_ly T) := wT
  have q := QM_ly ok hR g2
  obtain ⟨t1, t2, t3, t4, t5, t6, t7, t8⟩ := g3.2.2.1
  unfold an_12
  rcases kw_c hk w with ⟨e, h⟩ | ⟨b, hb, e, rfl⟩
  · have k := m129n (d := d + 8) ok hR e
    rw [e]
    simp only
    have st : mm_cl (d + 10) 175 [.ref 92, .int w] S = mm_ex (d + 10) 175 16 [.ref 92, .int w, .null, .null] [.int (if w < nI 10 ∨ nI 13 < w then nI 0 else nI 1)] S := by
      rw [e175, b175_0 (wx_k92 hw), k, hp_bd, hp_ts, b175_5, if_pos rfl, b175_8, s128, hp_bd, hp_ts]
    have st2 : ¬ (w < nI 10 ∨ nI 13 < w) → mm_cl (d + 10) 175 [.ref 92, .int w] S = mm_ex (d + 10) 175 40 [.ref 92, .int w, .int (nI 1), .null] [] T := by
      intro h
      rw [st, if_neg h, b175_16, if_neg i01, b175_19, if_neg i01, b175_32 (wx_k92 hw), s171 hw, hp_bd, hp_tn, b175_36 (wx_k92 wk), g1, hp_bd, hp_tn]
    by_cases w0 : w = nI 10
    · subst w0
      refine oM_Q q ?_
      rw [if_pos rfl, st2 (by decide), b175_40, if_pos (by decide), b175_55, if_pos rfl, b175_61 (wx_o92 wT) (wx_k92 wT), s172 wT, hp_bd, hp_tn, b175_103, t7]
    by_cases w1 : w = nI 11
    · subst w1
      refine oM_Q q ?_
      rw [if_neg w0, if_pos rfl, st2 (by decide), b175_40, if_pos (by decide), b175_55, if_neg (by decide), b175_68, if_pos rfl, b175_74 (wx_o92 wT) (wx_k92 wT), s172 wT, hp_bd, hp_tn, b175_103, t5]
    by_cases w2 : w = nI 12
    · subst w2
      refine oM_Q q ?_
      rw [if_neg w0, if_neg w1, if_pos rfl, st2 (by decide), b175_40, if_pos (by decide), b175_55, if_neg (by decide), b175_68, if_neg (by decide), b175_81, if_pos rfl, b175_87 (wx_o92 wT) (wx_k92 wT), s172 wT, hp_bd, hp_tn, b175_103, t8]
    by_cases w3 : w = nI 13
    · subst w3
      refine oM_Q q ?_
      rw [if_neg w0, if_neg w1, if_neg w2, if_pos rfl, st2 (by decide), b175_40, if_pos (by decide), b175_55, if_neg (by decide), b175_68, if_neg (by decide), b175_81, if_neg (by decide), b175_94 (wx_o92 wT) (wx_k92 wT), s172 wT, hp_bd, hp_tn, b175_103, g4]
    have hn : w < nI 10 ∨ nI 13 < w := by
      rcases kw_d (n := 13) (m := 14) rfl (by decide) w with ⟨-, z, -⟩ | ⟨-, -, -, z, -⟩ | ⟨j, hj, -, rfl, -⟩
      · refine Or.inl ?_
        have := of_eq_true z
        exact Int32.lt_trans this (by decide)
      · exact Or.inr (of_eq_true z)
      · refine Or.inl (nI_lt ?_ (by omega))
        have h0 : j ≠ 10 := fun e => w0 (by rw [e])
        have h1 : j ≠ 11 := fun e => w1 (by rw [e])
        have h2 : j ≠ 12 := fun e => w2 (by rw [e])
        have h3 : j ≠ 13 := fun e => w3 (by rw [e])
        omega
    rw [if_neg w0, if_neg w1, if_neg w2, if_neg w3]
    refine oM_id hR ?_
    rw [st, if_pos hn, b175_16, if_pos rfl, b175_23, if_pos rfl, b175_29]
  · have k := m129s (d := d + 8) ok hR hb
    have cl : (nI b).toNatClampNeg = b := nI_clamp (by omega)
    have hbi : mm_inb (nI b) 6 = true := hp_inb (by omega) (by omega)
    rw [e]
    refine oM_Q q ?_
    rw [e175, b175_0 (wx_k92 hw), k, hp_bd, hp_ts, b175_5, if_neg i01, b175_19, if_neg i01, b175_32 (wx_k92 hw), s171 hw, hp_bd, hp_tn, b175_36 (wx_k92 wk), g1, hp_bd, hp_tn, b175_40, if_neg (nI_ge (by omega) (by omega)), b175_46 (wx_o92 wT) (wx_s92_6 wT) (by rw [wx_g92_6 wT, wx_N98 wT]; exact hbi) (by rw [wx_g92_6 wT]; exact wx_a98 wT) (wx_k92 wT), s172 wT, hp_bd, hp_tn, b175_103, wx_g92_6 wT, cl, show mm_M T 98 b = _ from t4 b hb]
theorem m195_loop (hA : md_A T P D) {t i s : Nat} {it : Nat → Int64} (ht : t < 6) (hi : i < 2 ^ 31) (hs : s ≤ 60) (p2 : mm_M T 111 t = nI s) (p3 : ∀ i, i < s → mm_L T 112 (60 * t + i) = it i) : ∀ (k b : Nat), b + k = ab_kn P → b ≤ s → ∃ x, mm_ex d 195 57 [.ref 92, .int (nI t), .int (nI i), .int (-5), .int (nI b)] [] T = mm_ex d 195 131 [.ref 92, .int (nI t), .int (nI i), .int (ab_ju it (ab_ga D) s i k b), .int x] [] T := by
  have hw := hA.1
  have hk : ab_kn P ≤ 6 := hA.2.2.2.1.1
  have h0 : mm_M T 92 0 = nI (ab_kn P) := hA.2.1.1
  intro k
  induction k with
  | zero =>
    intro b hb _
    refine ⟨nI b, ?_⟩
    rw [b195_57 (wx_o92 hw), h0, if_pos (nI_le (by omega) (by omega))]
    rfl
  | succ k ih =>
    intro b hb hbs
    have e : ab_ju it (ab_ga D) s i (k + 1) b = if s - b ≤ i then nI (100 + b) else if lg_cmp (it (i + b)) (ab_ga D b).toInt64 = nI 0 then ab_ju it (ab_ga D) s i k (b + 1) else nI b := rfl
    have clt : (nI t).toNatClampNeg = t := nI_clamp (by omega)
    have hti : mm_inb (nI t) 6 = true := hp_inb ht (by omega)
    have out : ∀ {m : Nat} {w : Int32}, nI m ≠ -5 → mm_ex d 195 57 [.ref 92, .int (nI t), .int (nI i), .int (nI m), .int w] [] T = mm_ex d 195 131 [.ref 92, .int (nI t), .int (nI i), .int (nI m), .int w] [] T := by
      intro m w hm
      rw [b195_57 (wx_o92 hw)]
      by_cases z : mm_M T 92 0 ≤ w
      · rw [if_pos z]
      · rw [if_neg z, b195_66, if_neg hm]
    have c1 : (nI i ≤ nI s - nI 1 - nI b) = (i + b < s) := by
      have q : nI s - nI 1 - nI b = nI s - nI (1 + b) := by rw [← nI_add, Int32.sub_sub]
      rw [q, Int32.le_iff_toInt_le, nI_toInt hi, pk_sub_toInt (by omega) (by omega)]
      exact propext (by omega)
    have st : mm_ex d 195 57 [.ref 92, .int (nI t), .int (nI i), .int (-5), .int (nI b)] [] T = if i + b < s then mm_ex d 195 96 [.ref 92, .int (nI t), .int (nI i), .int (-5), .int (nI b)] [] T else mm_ex d 195 87 [.ref 92, .int (nI t), .int (nI i), .int (-5), .int (nI b)] [] T := by
      rw [b195_57 (wx_o92 hw), h0, if_neg (nI_ge (by omega) (by omega)), b195_66, if_pos rfl, b195_72 (wx_o92 hw) (wx_s92_31 hw) (by rw [wx_g92_31 hw, wx_N111 hw]; exact hti) (by rw [wx_g92_31 hw]; exact wx_a111 hw), wx_g92_31 hw, clt, p2]
      simp only [c1]
    rw [e]
    by_cases h1 : s - b ≤ i
    · refine ⟨nI (b + 1), ?_⟩
      rw [st, if_neg (by omega), b195_87, if_pos h1, nI_add, nI_add]
      exact out (nI_m5 (by omega))
    · have g : mm_M T 98 b = ab_ga D b := hA.2.2.1.2.2.2.1 b (by omega)
      have cl : (nI b).toNatClampNeg = b := nI_clamp (by omega)
      have hbi : mm_inb (nI b) 6 = true := hp_inb (by omega) (by omega)
      have ex : nI 60 * nI t + nI i + nI b = nI (60 * t + (i + b)) := by rw [nI_mul, nI_add, nI_add, Nat.add_assoc]
      have st2 : mm_ex d 195 57 [.ref 92, .int (nI t), .int (nI i), .int (-5), .int (nI b)] [] T = if lg_cmp (it (i + b)) (ab_ga D b).toInt64 = nI 0 then mm_ex d 195 125 [.ref 92, .int (nI t), .int (nI i), .int (-5), .int (nI b)] [] T else mm_ex d 195 122 [.ref 92, .int (nI t), .int (nI i), .int (-5), .int (nI b)] [] T := by
        rw [st, if_pos (by omega), b195_96 (wx_o92 hw) (wx_s92_32 hw) (by rw [ex, wx_g92_32 hw, wx_N112 hw]; exact hp_inb (by omega) (by omega)) (by rw [wx_g92_32 hw]; exact wx_a112 hw) (wx_s92_6 hw) (by rw [wx_g92_6 hw, wx_N98 hw]; exact hbi) (by rw [wx_g92_6 hw]; exact wx_a98 hw), ex, wx_g92_32 hw, wx_g92_6 hw, cl, g, nI_clamp (by omega), p3 (i + b) (by omega)]
      rw [if_neg h1]
      by_cases h2 : lg_cmp (it (i + b)) (ab_ga D b).toInt64 = nI 0
      · obtain ⟨x, hx⟩ := ih (b + 1) (by omega) (by omega)
        refine ⟨x, ?_⟩
        rw [st2, if_pos h2, if_pos h2, b195_125, nI_add, hx]
      · refine ⟨nI (b + 1), ?_⟩
        rw [st2, if_neg h2, if_neg h2, b195_122, nI_add]
        exact out (nI_m5 (by omega))
theorem m_24 (ok : gb_ok G) (hR : RM S G) {t i : Int32} : oM S (d + 10) 195 [.ref 92, .int t, .int i] (.int (an_24 G t i)) G := by
  have hw := hR.1
  have wk : mm_W (mm_kp S) := hw
  unfold an_24
  rcases kw_c (n := 6) (by decide) t with ⟨e, -⟩ | ⟨t, ht, e, rfl⟩
  · have k := m194n (d := d + 8) (S := S) (a := 92) e
    rw [e]
    refine oM_id hR ?_
    rw [e195, b195_0 (wx_k92 hw), k, hp_bd, hp_ts, b195_5, if_pos rfl, b195_8]
  have k := m194s (d := d + 8) (S := S) (a := 92) ht
  obtain ⟨p1, p2, p3⟩ := hR.2.2.2.2.2.1 t ht
  have cl : (nI t).toNatClampNeg = t := nI_clamp (by omega)
  have hti : mm_inb (nI t) 6 = true := hp_inb ht (by omega)
  rw [e]
  simp only
  have st : mm_cl (d + 10) 195 [.ref 92, .int (nI t), .int i] S = if (gb_p G t).1 = -1 then mm_ex (d + 10) 195 20 [.ref 92, .int (nI t), .int i, .null, .null] [] S else mm_ex (d + 10) 195 23 [.ref 92, .int (nI t), .int i, .null, .null] [] S := by
    rw [e195, b195_0 (wx_k92 hw), k, hp_bd, hp_ts, b195_5, if_neg i01, b195_10 (wx_o92 hw) (wx_s92_30 hw) (by rw [wx_g92_30 hw, wx_N110 hw]; exact hti) (by rw [wx_g92_30 hw]; exact wx_a110 hw), wx_g92_30 hw, cl, p1]
  by_cases hs : (gb_p G t).1 = -1
  · rw [if_pos hs]
    refine oM_id hR ?_
    rw [st, if_pos hs, b195_20]
  rw [if_neg hs]
  rw [if_neg hs, b195_23 (wx_o92 hw) (wx_s92_30 hw) (by rw [wx_g92_30 hw, wx_N110 hw]; exact hti) (by rw [wx_g92_30 hw]; exact wx_a110 hw), wx_g92_30 hw, cl, p1] at st
  by_cases h2 : (gb_p G t).1 = nI 2
  · rw [if_neg (fun e => e h2)]
    rw [if_pos h2, b195_36] at st
    by_cases hi : i < nI 0
    · rw [if_pos hi]
      refine oM_id hR ?_
      rw [st, if_neg (Int32.not_le.mpr hi), b195_40]
    · rw [if_neg hi]
      rw [if_pos (Int32.not_lt.mp hi)] at st
      obtain ⟨n, hn, rfl⟩ := nI_of (x := i) hi
      obtain ⟨T, g1, g2, g3, -⟩ := m173q (d := d) ok hR
      have wT := g3.1
      have sz := tsz ok ht
      have q2 : mm_M T 111 t = nI (gb_p G t).2.1 := (g2.2 111 t (by unfold gm_e md_dc; omega)).trans (((QM_kp ok hR).1.2.2.2.2.2.1 t ht).2.1 hs)
      have q3 : ∀ i, i < (gb_p G t).2.1 → mm_L T 112 (60 * t + i) = (gb_p G t).2.2 i := by
        intro i hi
        rw [g2.1]
        exact p3 i hi
      obtain ⟨x, hx⟩ := m195_loop (d := d + 10) (i := n) g3 ht hn sz q2 q3 (gK G) 0 (Nat.zero_add _) (Nat.zero_le _)
      refine oM_Q (QM_ly ok hR g2) ?_
      rw [st, b195_43 (wx_k92 hw), s171 hw, hp_bd, hp_tn, b195_47 (wx_k92 wk), g1, hp_bd, hp_tn, b195_51, nI_clamp hn, hx, b195_131 (wx_k92 wT), s172 wT, hp_bd, hp_tn, b195_135]
  · rw [if_pos h2]
    rw [if_neg h2, b195_33] at st
    exact oM_id hR st
end QMS
