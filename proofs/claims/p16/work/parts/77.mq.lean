/-! ===== questions of the reference: sure, all that may come ===== -/
def m190_H (d b s q : Nat) (P : ab_P) : Prop := ∀ (v : Nat) (T : mm_S) (D : ab_D) (w : Int64) (a : Int64 × Bool), v + q = 12 → md_A T P D → mm_M T 92 14 = nI s → sa T a → ∃ U, mm_cl (d + q + 9) 190 [.ref 92, .int (nI b), .int (nI v), .long w] T = some (none, U) ∧ md_A U P D ∧ SQ T U ∧ sa U (ab_sq P b s q D w a) ∧ dq v T U
section QM7
variable {S T U : mm_S} {G : gb_G} {P : ab_P} {D E : ab_D} {b c d n k i j p m o v s q e : Nat} {x w y : Int32} {r l L : List Nat} {a : Int64 × Bool} {t : Int64}
theorem A_nX (hA : md_A S P D) (hw : mm_W T) (g : ∀ c j, nX c j → mm_M T c j = mm_M S c j) : md_A T P D := ⟨hw, mt_P g hA.2.1, mt_D hA.2.2.2.1.1 (row_le hA.2.2.2.1 hA.2.2.2.2) g hA.2.2.1, hA.2.2.2⟩
theorem SQ_14 (h : SQ S T) : mm_M T 92 14 = mm_M S 92 14 := (h.1.1 92 14 (by unfold gm_v md_dc; omega)).1
theorem sa_uL (h : mm_L S 92 53 = a.1) (h2 : mm_M S 92 54 = if a.2 = true then nI 1 else nI 0) : sa (mm_uL S 92 53 (a.1 + t)) (a.1 + t, a.2) := ⟨by rw [hp_LuL, if_pos ⟨rfl, rfl⟩], h2⟩
/-- a turn, what may come of it, and all laid back -/
theorem m190_sub (IH : m190_H d b s q P) (hv : v + 1 + q = 12) (hA : md_A T P D) (hk : kd T v (ab_kn P) D) (h14 : mm_M T 92 14 = nI s) (hs : sa T a) {h : Nat} {r : List Nat} (hr : ab_row D = h :: r) {act : Nat} (ha : act = 1 ∨ act = 2 ∨ act = 3) (hlo : 0 < ab_lo D) (hm : act = 3 → ab_may P D h = true) : ∃ X Y U, mm_cl (d + q + 9) 169 [.ref 92, .int (nI act)] T = some (none, X) ∧ mm_cl (d + q + 9) 190 [.ref 92, .int (nI b), .int (nI (v + 1)), .long t] X = some (none, Y) ∧ mm_cl (d + q + 9) 189 [.ref 92, .int (nI v)] Y = some (none, U) ∧ mm_W X ∧ mm_W Y ∧ md_A U P D ∧ SQ T U ∧ sa U (ab_sq P b s q (ab_does P D act) t a) ∧ dq v T U ∧ kd U v (ab_kn P) D := by
  have hk6 : ab_kn P ≤ 6 := hA.2.2.2.1.1
  have hl6 := row_le hA.2.2.2.1 hA.2.2.2.2
  have edo : ab_does P D act = ab_do P D h r act := by unfold ab_does; rw [hr]
  obtain ⟨X, g1, g2, g3, -⟩ := s169 (d := d + q + 4) hA hr ha hlo hm
  rw [← edo] at g3
  have q1 := SQ_md g2
  obtain ⟨Y, g4, g5, g6, g7, g8⟩ := IH (v + 1) X (ab_does P D act) t a hv g3 ((SQ_14 q1).trans h14) (sa_md g2 hs)
  have kY : kd Y v (ab_kn P) D := kd_q hk6 hl6 (dq_tr (dq_md g2) g8) hk
  obtain ⟨U, g9, g10, g11⟩ := s189 (d := d + q + 9) g5.1 kY hk6 hl6 (by omega)
  refine ⟨X, Y, U, g1, g4, g9, g3.1, g5.1, ⟨mf_W g10 g5.1, mf_P g10 g5.2.1, g11, hA.2.2.2⟩, SQ_tr q1 (SQ_tr g6 (SQ_md g10)), sa_md g10 g7, dq_tr (dq_md g2) (dq_tr (dq_le g8) (dq_md g10)), kd_q hk6 hl6 (dq_md g10) kY⟩
theorem m190_all (hs9 : s ≤ 10) (hb : b < 6) : ∀ q, m190_H d b s q P := by
  intro q
  induction q with
  | zero =>
    intro v T D w a hv hA h14 hs
    have hw := hA.1
    have e12 : v = 12 := by omega
    subst e12
    by_cases w0 : w = 0
    · refine ⟨T, ?_, hA, SQ_rf, ?_, dq_rf⟩
      · rw [e190, b190_0, if_pos (lg_0.mpr w0), b190_13]
      · unfold ab_sq
        rw [if_pos (Or.inl w0)]
        exact hs
    cases hc : ab_com D with
    | false =>
      refine ⟨T, ?_, hA, SQ_rf, ?_, dq_rf⟩
      · rw [e190, b190_0, if_neg (fun z => w0 (lg_0.mp z)), b190_6 (wx_k92 hw), s168w hA, hp_bd, hp_ts, b190_10, hc, if_pos (by decide), b190_13]
      · unfold ab_sq
        rw [if_pos (Or.inr hc)]
        exact hs
    | true =>
      refine ⟨mm_uM T 92 54 (nI 1), ?_, A_nX hA hw (fun c j hcj => rdn (by unfold nX at hcj; omega)), ⟨sf_uM (by unfold gm_v; omega), rfl, rfl⟩, ?_, fun c j hcj => rdn (by omega)⟩
      · rw [e190, b190_0, if_neg (fun z => w0 (lg_0.mp z)), b190_6 (wx_k92 hw), s168w hA, hp_bd, hp_ts, b190_10, hc, if_pos rfl, if_neg i01, b190_14, if_pos rfl, b190_20 (wx_o92 hw)]
      · have e : ab_sq P b s 0 D w a = (a.1, true) := by
          unfold ab_sq
          rw [if_neg (fun z => Or.elim z w0 (fun z => by rw [hc] at z; cases z))]
        rw [e]
        exact ⟨hs.1, rds⟩
  | succ q ih =>
    intro v T D w a hv hA h14 hs
    have hw := hA.1
    show ∃ U, mm_cl (d + q + 9 + 1) 190 [.ref 92, .int (nI b), .int (nI v), .long w] T = some (none, U) ∧ _
    have esq : ab_sq P b s (q + 1) D w a = if w = 0 ∨ ab_com D = false then a else if ab_ha P D = 1 then ab_sq P b s q (ab_does P D 2) (w / 10 * (nI s).toInt64) (ab_sq P b s q (ab_does P D 1) (w - w / 10 * (nI s).toInt64) (a.1 + (if (ab_row D).headD 0 = b then w - w / 10 * (nI s).toInt64 else 0), a.2)) else ab_sq P b s q (ab_does P D (ab_ha P D)) w a := rfl
    by_cases w0 : w = 0
    · refine ⟨T, ?_, hA, SQ_rf, ?_, dq_rf⟩
      · rw [e190, b190_0, if_pos (lg_0.mpr w0), b190_13]
      · rw [esq, if_pos (Or.inl w0)]
        exact hs
    cases hc : ab_com D with
    | false =>
      refine ⟨T, ?_, hA, SQ_rf, ?_, dq_rf⟩
      · rw [e190, b190_0, if_neg (fun z => w0 (lg_0.mp z)), b190_6 (wx_k92 hw), s168w hA, hp_bd, hp_ts, b190_10, hc, if_pos (by decide), b190_13]
      · rw [esq, if_pos (Or.inr hc)]
        exact hs
    | true =>
      rw [esq, if_neg (fun z => Or.elim z w0 (fun z => by rw [hc] at z; cases z))]
      obtain ⟨h, r, hr, hlo⟩ := com_row hc
      have hhb : h < ab_kn P := hA.2.2.2.2.2.1 h (by rw [hr]; exact List.mem_cons_self)
      have hk6 : ab_kn P ≤ 6 := hA.2.2.2.1.1
      have hh := hA.2.2.1.2.1 0 (by rw [hr]; exact Nat.succ_pos _)
      rw [hr] at hh
      have hh : mm_M T 100 0 = nI h := hh
      have hmem : h ∈ ab_row D := by rw [hr]; exact List.mem_cons_self
      have eo : ab_oth D h = (ab_row D).length - 1 := if_pos hmem
      have eha : ab_ha P D = ab_act P D h ((ab_row D).length - 1) := by unfold ab_ha; rw [hr]; rfl
      have ehd : (ab_row D).headD 0 = h := by rw [hr]; rfl
      have ok := @ab_act_ok P D h ((ab_row D).length - 1) hA.2.2.2.1 hA.2.2.2.2 hhb
      have h3 := act_123 (o := (ab_row D).length - 1) hA.2.2.2.1 hA.2.2.2.2 hhb
      rw [← eha] at ok h3
      obtain ⟨U1, g1', g2⟩ := s166 (d := d + q + 1) hA hhb
      rw [eo, ← eha] at g1'
      have g1 : mm_cl (d + q + 9) 166 [.ref 92, .int (nI h)] T = some (some (.int (nI (ab_ha P D))), U1) := g1'
      have A1 := mq_A g2 hA
      have w1 := A1.1
      obtain ⟨V, g3, g4, g5, kV⟩ := s188 (d := d + q + 9) A1 (show v ≤ 12 by omega)
      have wV : mm_W V := by rw [g4]; exact w1
      have AV : md_A V P D := A_nX A1 wV (fun c j hcj => g5 c j (by unfold nX at hcj; omega) (by unfold nX at hcj; omega))
      have qV : SQ T V := SQ_tr (SQ_md (mf_q g2)) (SQ_wM g4 (fun c j hcj => g5 c j (by unfold gm_v md_dc at hcj; omega) (by unfold gm_v md_dc at hcj; omega)))
      have dV : dq v T V := fun c j hcj => (g5 c j (by omega) (by omega)).trans (g2.2 c j (by omega))
      have sV : sa V a := ⟨by rw [g4]; exact (sa_md (mf_q g2) hs).1, (g5 92 54 (by omega) (by omega)).trans (sa_md (mf_q g2) hs).2⟩
      have h14V := (SQ_14 qV).trans h14
      have hhV : mm_M V 100 0 = nI h := ((g5 100 0 (by omega) (by omega)).trans (g2.2 100 0 (by decide))).trans hh
      have n12 : ¬ nI v = nI 12 := fun z => by
        have := (nI_eq (by omega) (by omega)).mp z
        omega
      have st : mm_cl (d + q + 9 + 1) 190 [.ref 92, .int (nI b), .int (nI v), .long w] T = if nI (ab_ha P D) = nI 1 then mm_ex (d + q + 9 + 1) 190 67 [.ref 92, .int (nI b), .int (nI v), .long w, .null, .int (nI (ab_ha P D)), .null, .null] [] V else mm_ex (d + q + 9 + 1) 190 49 [.ref 92, .int (nI b), .int (nI v), .long w, .null, .int (nI (ab_ha P D)), .null, .null] [] V := by
        rw [e190, b190_0, if_neg (fun z => w0 (lg_0.mp z)), b190_6 (wx_k92 hw), s168w hA, hp_bd, hp_ts, b190_10, hc, if_pos rfl, if_neg i01, b190_14, if_neg n12, b190_26 (wx_o92 hw) (wx_s92_9 hw) (by rw [wx_g92_9 hw, wx_N100 hw]; rfl) (by rw [wx_g92_9 hw]; exact wx_a100 hw) (wx_k92 hw), wx_g92_9 hw, show (nI 0).toNatClampNeg = 0 from rfl, hh, g1, hp_bd, hp_ts, b190_36 (wx_k92 w1), g3, hp_bd, hp_tn, b190_43]
      by_cases h1 : ab_ha P D = 1
      · rw [if_pos h1]
        rw [if_pos (by rw [h1])] at st
        have key : ∀ (t : Int64), t = (if (ab_row D).headD 0 = b then w - w / 10 * (nI s).toInt64 else 0) → mm_cl (d + q + 9 + 1) 190 [.ref 92, .int (nI b), .int (nI v), .long w] T = mm_bd (mm_cl (d + q + 9) 169 [.ref 92, .int (nI 1)] (mm_uL V 92 53 (a.1 + t))) (fun u S2 => mm_ex (d + q + 9 + 1) 190 112 [.ref 92, .int (nI b), .int (nI v), .long w, .null, .int (nI (ab_ha P D)), .long (w / 10 * (nI s).toInt64), .null] (u.toList ++ []) S2) := by
          intro t ht
          have e0 : (nI h = nI b) = (h = b) := propext (nI_eq (by omega) (by omega))
          rw [st, b190_67 (wx_o92 wV) (wx_s92_9 wV) (by rw [wx_g92_9 wV, wx_N100 wV]; rfl) (by rw [wx_g92_9 wV]; exact wx_a100 wV), wx_g92_9 wV, show (nI 0).toNatClampNeg = 0 from rfl, hhV, h14V, sV.1]
          rw [ehd] at ht
          by_cases hb2 : h = b
          · rw [if_pos (by rw [e0]; exact hb2), b190_95 (wx_o92 wV) (wx_k92 wV), ht, if_pos hb2]
          · rw [if_neg (by rw [e0]; exact hb2), b190_102 (wx_o92 wV) (wx_k92 wV), ht, if_neg hb2]
        have key := key _ rfl
        generalize (if (ab_row D).headD 0 = b then w - w / 10 * (nI s).toInt64 else 0) = t at key ⊢
        have wV2 : mm_W (mm_uL V 92 53 (a.1 + t)) := wV
        have AV2 : md_A (mm_uL V 92 53 (a.1 + t)) P D := A_nX AV wV2 (fun _ _ _ => rfl)
        have qV2 : SQ V (mm_uL V 92 53 (a.1 + t)) := ⟨sf_uL (by unfold gm_v; omega), rfl, rfl⟩
        obtain ⟨X1, Y1, U2, f1, f2, f3, f4, f5, f6, f7, f8, f9, f10⟩ := m190_sub (t := w - w / 10 * (nI s).toInt64) ih (by omega) AV2 (v := v) kV h14V (sa_uL sV.1 sV.2) hr (act := 1) (Or.inl rfl) hlo (fun z => by cases z)
        obtain ⟨X2, Y2, U3, e1, e2, e3, e4, e5, e6, e7, e8, e9, e10⟩ := m190_sub (t := w / 10 * (nI s).toInt64) ih (by omega) f6 (v := v) f10 ((SQ_14 (SQ_tr qV2 f7)).trans h14V) f8 hr (act := 2) (Or.inr (Or.inl rfl)) hlo (fun z => by cases z)
        refine ⟨U3, ?_, e6, SQ_tr qV (SQ_tr qV2 (SQ_tr f7 e7)), e8, dq_tr dV (dq_tr (fun _ _ _ => rfl) (dq_tr f9 e9))⟩
        rw [key, f1, hp_bd, hp_tn, b190_112 (wx_k92 f4), nI_add, f2, hp_bd, hp_tn, b190_124 (wx_k92 f5), f3, hp_bd, hp_tn, b190_129 (wx_k92 f6.1), e1, hp_bd, hp_tn, b190_134 (wx_k92 e4), nI_add, e2, hp_bd, hp_tn, b190_144 (wx_k92 e5), e3, hp_bd, hp_tn, b190_149]
      · rw [if_neg h1]
        rw [if_neg (fun z => h1 ((nI_eq (by omega) (by omega)).mp z))] at st
        obtain ⟨X1, Y1, U2, f1, f2, f3, f4, f5, f6, f7, f8, f9, f10⟩ := m190_sub (t := w) ih (by omega) AV (v := v) kV h14V sV hr (act := ab_ha P D) h3 hlo ok.2.2
        refine ⟨U2, ?_, f6, SQ_tr qV f7, f8, dq_tr dV f9⟩
        rw [st, b190_49 (wx_k92 wV), f1, hp_bd, hp_tn, b190_55 (wx_k92 f4), nI_add, f2, hp_bd, hp_tn, b190_64 (wx_k92 f5), f3, hp_bd, hp_tn, b190_149]
def mn_21 (G : gb_G) (x p : Int32) : Int64 := match ab_kw (gK G) x with
  | none => -9223372036854775808
  | some b => if p = nI 0 ∨ p = nI 1 then (if (ab_sq (gP G) b (gx_s G.1) 12 (gD G) 1000000000000 (0, false)).2 = true then -9223372036854775808 else lw_l (ab_sq (gP G) b (gx_s G.1) 12 (gD G) 1000000000000 (0, false)).1 1000000000000 p) else -9223372036854775808
theorem m_21 (ok : gb_ok G) (hR : RM S G) {p : Int32} : oM S (d + 22) 191 [.ref 92, .int x, .int p] (.long (mn_21 G x p)) G := by
  have hw := hR.1
  have hk : gK G ≤ 6 := ok.1.1.1
  unfold mn_21
  rcases kw_c hk x with ⟨e, -⟩ | ⟨b, hb, e, rfl⟩
  · have k := m129n (d := d + 20) ok hR e
    rw [e]
    refine oM_id hR ?_
    rw [e191, b191_0 (wx_k92 hw), k, hp_bd, hp_ts, b191_5, if_pos rfl, b191_17]
  have k := m129s (d := d + 20) ok hR hb
  rw [e]
  simp only
  rcases k128 (S := S) (x := p) (d + 21) with ⟨hx, kx⟩ | ⟨hx, kx⟩
  · rw [if_pos hx]
    have A0 : md_A (mm_uM (mm_uL S 92 53 0) 92 54 (nI 0)) (gP G) (gD G) := A_nX (RM_A ok hR) hw (fun c j hcj => rdn (by unfold nX at hcj; omega))
    have q0 : SQ S (mm_uM (mm_uL S 92 53 0) 92 54 (nI 0)) := ⟨sf_tr (sf_uL (by unfold gm_v; omega)) (sf_uM (by unfold gm_v; omega)), rfl, rfl⟩
    have s0 : sa (mm_uM (mm_uL S 92 53 0) 92 54 (nI 0)) (0, false) := ⟨by rw [hp_LuM, hp_LuL, if_pos ⟨rfl, rfl⟩], rds⟩
    have h14 : mm_M S 92 14 = nI (gx_s G.1) := hR.2.1.2.2.1
    obtain ⟨U, g1, g2, g3, g4, -⟩ := m190_all (d := d) (P := gP G) (s := gx_s G.1) ok.1.2.2.1 (show b < 6 by omega) 12 0 _ (gD G) 1000000000000 (0, false) rfl A0 ((SQ_14 q0).trans h14) s0
    have g1 : mm_cl (d + 21) 190 [.ref 92, .int (nI b), .int (nI 0), .long 1000000000000] (mm_uM (mm_uL S 92 53 0) 92 54 (nI 0)) = some (none, U) := g1
    have wU := g2.1
    have qU := SQ_tr q0 g3
    generalize ab_sq (gP G) b (gx_s G.1) 12 (gD G) 1000000000000 (0, false) = z at *
    have fin : ∀ {v : Value}, mm_cl (d + 22) 191 [.ref 92, .int (nI b), .int p] S = some (some v, U) → oM S (d + 22) 191 [.ref 92, .int (nI b), .int p] v G := by
      intro v hv
      have gX := hR.2.1
      have f : ∀ c j, ¬ gm_v c j → mm_M U c j = mm_M S c j := fun c j h => (qU.1.1 c j h).1
      refine oM_X hR hv (sf_mo qU.1 (fun c j h => by unfold gm_v md_dc at h; unfold gm_now; omega)) wU (X := G.1) ⟨g2.2.1, g2.2.2.1, (f _ _ (by unfold gm_v md_dc; omega)).trans gX.2.2.1, (f _ _ (by unfold gm_v md_dc; omega)).trans gX.2.2.2.1, fun i hi => (f _ _ (by unfold gm_v md_dc; omega)).trans (gX.2.2.2.2.1 i hi), (f _ _ (by unfold gm_v md_dc; omega)).trans gX.2.2.2.2.2.1, (f _ _ (by unfold gm_v md_dc; omega)).trans gX.2.2.2.2.2.2⟩ qU.2.1 qU.2.2
    have st : mm_cl (d + 22) 191 [.ref 92, .int (nI b), .int p] S = mm_ex (d + 22) 191 40 [.ref 92, .int (nI b), .int p] [] U := by
      rw [e191, b191_0 (wx_k92 hw), k, hp_bd, hp_ts, b191_5, if_neg i01, b191_8, kx, hp_bd, hp_ts, b191_14, if_neg i01, b191_21 (wx_o92 hw) (wx_k92 hw), g1, hp_bd, hp_tn]
    rw [b191_40 (wx_o92 wU), g4.2] at st
    cases hz : z.2 with
    | true =>
      rw [if_pos rfl]
      refine fin ?_
      rw [st, hz, if_pos rfl, if_neg i01, b191_47]
    | false =>
      rw [if_neg (by decide)]
      refine fin ?_
      rw [st, hz, if_neg (show ¬ false = true by decide), if_pos rfl, b191_53 (wx_o92 wU), s181, hp_bd, hp_ts, b191_64, g4.1]
  · rw [if_neg hx]
    refine oM_id hR ?_
    rw [e191, b191_0 (wx_k92 hw), k, hp_bd, hp_ts, b191_5, if_neg i01, b191_8, kx, hp_bd, hp_ts, b191_14, if_pos rfl, b191_17]
end QM7
