/-! ===== how the class reads: F, and with it a whole E ===== -/
section CP3
variable {S T U V : mm_S} {t : List Nat} {i j k n c q s m a e : Nat} {x y : Int32} {C N : List ab_T} {o : Option (List ab_T)} {z : ab_T} {r : mm_Res}
theorem c44_t {d : Nat} (hT : ct S s t) (h : ce S s T C i) (hi : i ≤ t.length) (hC : C.length ≤ i) (h1 : ps t i ≠ 33) (h2 : ps t i ≠ 40) : rC S s C (pte t i).1 ((pte t i).2.map (fun x => [x])) (mm_cl (d + 6) 44 [.ref 73, .int x] T) := by
  have T0 := fe_t h.1 hT
  have hw := T0.1
  have hl := cs_lt (i := i) hT
  have h100 := hT.2.2.2.2.2.1
  by_cases hi1 : i < t.length
  · obtain ⟨U, g1, g2, g3⟩ := s45 (d := d) hT h (by omega) (by omega)
    have st : mm_cl (d + 6) 44 [.ref 73, .int x] T = some (some (.int (if (pte t i).2 = none then nI 0 else nI 1)), U) := by
      rw [e44, b44_0 (wx_k73 hw), s38 T0 h.1.2.2 (by omega), hp_bd, hp_ts, b44_4, if_neg (fun z => h1 ((nI_eq (by omega) (by omega)).mp z)), b44_11, if_neg (fun z => h2 ((nI_eq (by omega) (by omega)).mp z)), b44_17 (wx_k73 hw), g1, hp_bd, hp_ts, b44_21 (by split <;> rfl)]
    rw [st]
    cases hp : (pte t i).2 with
    | none =>
      rw [if_pos rfl]
      exact ⟨U, rfl, g3 hp⟩
    | some x =>
      rw [if_neg (show ¬ some x = (none : Option ab_T) from fun z => by cases z)]
      exact ⟨U, rfl, g2 x hp⟩
  · have e0 : ab_at (ps t i) plt = none := by
      cases ha : ab_at (ps t i) plt with
      | none => rfl
      | some l => exact absurd (at_ps ha (by decide)) hi1
    have ep : pte t i = (i, none) := by unfold pte; rw [e0]
    have k1 := s215 (d := d) (S := T) T0.2.2.1 (q := 10) (by decide) (by decide) hl
    have e1 : ab_at (ps t i) (stg 10) = none := e0
    rw [ep]
    refine ⟨T, ?_, h.1⟩
    rw [e44, b44_0 (wx_k73 hw), s38 T0 h.1.2.2 (by omega), hp_bd, hp_ts, b44_4, if_neg (fun z => h1 ((nI_eq (by omega) (by omega)).mp z)), b44_11, if_neg (fun z => h2 ((nI_eq (by omega) (by omega)).mp z)), b44_17 (wx_k73 hw), e45, b45_0 (wx_k73 hw), s38 T0 h.1.2.2 (by omega), hp_bd, hp_tsc, show (1000020 : Nat) = sta 10 from rfl, b45_6 (st_k T0.2.2.1 (by decide)), w16 _ hl, k1, hp_bd, hp_ts, b45_10, e1, if_neg (show ¬ nI 0 ≤ pmo none by decide), b45_15, hp_bd, hp_ts, b44_21 rfl]
theorem CF_all (hT : ct S s t) : ∀ (e d : Nat), e ≤ 4 → CF S s t d e := by
  have hs := hT.2.1
  have h100 := hT.2.2.2.2.2.1
  intro e
  induction e with
  | zero =>
    intro d _ T C i h hi hC
    have T0 := fe_t h.1 hT
    have hw := T0.1
    have hl := cs_lt (i := i) hT
    by_cases h1 : ps t i = 33 ∨ ps t i = 40
    · refine ⟨i, none, PE_c.2.1 4 i h1 (Nat.le_refl 4), T, ?_, h.1⟩
      show mm_cl (d + 6) 44 [.ref 73, .int (nI 4)] T = _
      have st : mm_cl (d + 6) 44 [.ref 73, .int (nI 4)] T = mm_ex (d + 6) 44 22 [.ref 73, .int (nI 4), .int (nI (ps t i))] [] T := by
        rw [e44, b44_0 (wx_k73 hw), s38 T0 h.1.2.2 (by omega), hp_bd, hp_ts, b44_4]
        by_cases z : ps t i = 33
        · rw [if_pos (by rw [z])]
        · rw [if_neg (fun y => z ((nI_eq (by omega) (by omega)).mp y)), b44_11, if_pos (by rw [h1.resolve_left z])]
      rw [st, b44_22, if_neg (by decide), b44_27]
    · have h1a : ps t i ≠ 33 := fun z => h1 (Or.inl z)
      have h1b : ps t i ≠ 40 := fun z => h1 (Or.inr z)
      exact ⟨_, _, PE_c.1 4 i h1a h1b, c44_t (d := d) hT h hi hC h1a h1b⟩
  | succ e ih =>
    intro d he T C i h hi hC
    have T0 := fe_t h.1 hT
    have hw := T0.1
    have hl := cs_lt (i := i) hT
    show ∃ j o, PE t 0 (4 - (e + 1)) i j o ∧ rC S s C j o (mm_cl (d + 3 * e + 8 + 1) 44 [.ref 73, .int (nI (4 - (e + 1)))] T)
    have ea : 4 - (e + 1) + 1 = 4 - e := by omega
    generalize hb : 4 - (e + 1) = b at *
    by_cases h1 : ps t i = 33 ∨ ps t i = 40
    · have il : i < t.length := ps_in (by omega)
      have r1 : q73 T (mm_uM T 73 2 (nI (i + 1))) (i + 1) := q_w
      have c1 := ce_36 hs h r1
      have T1 := fe_t c1.1 hT
      have w1 := T1.1
      have st : mm_cl (d + 3 * e + 8 + 1) 44 [.ref 73, .int (nI b)] T = if nI (ps t i) = nI 40 then mm_ex (d + 3 * e + 8 + 1) 44 45 [.ref 73, .int (nI b), .int (nI (ps t i))] [] (mm_uM T 73 2 (nI (i + 1))) else mm_ex (d + 3 * e + 8 + 1) 44 70 [.ref 73, .int (nI b), .int (nI (ps t i))] [] (mm_uM T 73 2 (nI (i + 1))) := by
        have st0 : mm_cl (d + 3 * e + 8 + 1) 44 [.ref 73, .int (nI b)] T = mm_ex (d + 3 * e + 8 + 1) 44 22 [.ref 73, .int (nI b), .int (nI (ps t i))] [] T := by
          rw [e44, b44_0 (wx_k73 hw), s38 T0 h.1.2.2 (by omega), hp_bd, hp_ts, b44_4]
          by_cases z : ps t i = 33
          · rw [if_pos (by rw [z])]
          · rw [if_neg (fun y => z ((nI_eq (by omega) (by omega)).mp y)), b44_11, if_pos (by rw [h1.resolve_left z])]
        rw [st0, b44_22, if_pos (nI_lt (by omega) (by omega)), b44_29 (wx_o73 hw), h.1.2.2, nI_add]
      by_cases z : ps t i = 40
      · rw [if_pos (by rw [z])] at st
        obtain ⟨j, o, p1, p2⟩ := CE_of hT (CB_of hT (ih d (by omega))) _ C (i + 1) c1 (by omega) (by omega)
        rw [← ea] at p1 p2
        have hle := PE_le p1
        rw [b44_45 (wx_k73 w1), nI_add] at st
        cases o with
        | none =>
          obtain ⟨U, q1, q2⟩ := p2
          refine ⟨j, none, PE_c.2.2.2.1 b i j z (by omega) p1, U, ?_, q2⟩
          rw [st, q1, hp_bd, hp_ts, b44_52, if_pos rfl, b44_68]
        | some c =>
          obtain ⟨U, q1, q2⟩ := p2
          have TU := fe_t q2.1 hT
          have jl := hle.2.1 (by omega)
          obtain ⟨V, q3, q4⟩ := s39 (d := d + 3 * e + 4) (q := 9) (by decide) TU q2.1.2.2 (by omega)
          change mm_cl (d + 3 * e + 8) 39 [.ref 73, .ref 1000018] U = _ at q3
          have epw : pw t (stg 9) j = if ps t j = 41 then (j + 1, true) else (j, false) := rfl
          rw [epw] at q3 q4
          refine ⟨_, _, PE_c.2.2.2.2.1 b i j c z (by omega) p1, ?_⟩
          rw [q1, hp_bd, hp_ts, b44_52, if_neg i01, b44_55 (wx_k73 TU.1), q3, hp_bd, hp_ts, b44_61] at st
          have c4 := ce_36 hs q2 q4
          rw [st]
          by_cases y : ps t j = 41
          · rw [if_pos y] at c4
            rw [if_pos y, if_pos y, if_pos y, if_pos rfl, if_neg i01, b44_64]
            exact ⟨V, rfl, c4⟩
          · rw [if_neg y] at c4
            rw [if_neg y, if_neg y, if_neg y]
            refine ⟨V, ?_, c4.1⟩
            rw [if_neg (show ¬ (j, false).2 = true from fun z => by cases z), if_pos rfl, b44_68]
      · have z3 : ps t i = 33 := h1.resolve_right z
        rw [if_neg (fun y => z ((nI_eq (by omega) (by omega)).mp y))] at st
        obtain ⟨j, o, p1, p2⟩ := ih (d + 2) (by omega) _ C (i + 1) c1 (by omega) (by omega)
        rw [← ea, show d + 2 + 3 * e + 6 = d + 3 * e + 8 by omega] at p2
        rw [← ea] at p1
        have hle := PE_le p1
        rw [b44_70 (wx_k73 w1), nI_add] at st
        refine ⟨j, _, PE_c.2.2.1 b i j o z3 (by omega) p1, ?_⟩
        cases o with
        | none =>
          obtain ⟨U, q1, q2⟩ := p2
          refine ⟨U, ?_, q2⟩
          rw [st, q1, hp_bd, hp_ts, b44_77, if_pos rfl, b44_80]
        | some c =>
          obtain ⟨U, q1, q2⟩ := p2
          have hcl := hle.2.2 c rfl
          have cl : (C ++ c).length = C.length + c.length := List.length_append
          have jl := hle.2.1 (by omega)
          have TU := fe_t q2.1 hT
          have RU := TU.2.2.2.2.2.2.2
          obtain ⟨V, q3, q4⟩ := s49 (d := d + 3 * e + 8) (z := Sum.inr 3) hT q2 (by omega)
          refine ⟨V, ?_, by rw [List.append_assoc] at q4; exact q4⟩
          rw [st, q1, hp_bd, hp_ts, b44_77, if_neg i01, b44_82 (wx_o73 TU.1) (hp_rs RU) (by rw [hp_rg RU]; exact ws_k TU.1 hs), hp_rg RU, show (-1 : Int32) = cd_en (Sum.inr 3) from rfl, q3, hp_bd, hp_tn, b44_90]
    · have h1a : ps t i ≠ 33 := fun z => h1 (Or.inl z)
      have h1b : ps t i ≠ 40 := fun z => h1 (Or.inr z)
      exact ⟨_, _, PE_c.1 b i h1a h1b, c44_t (d := d + 3 * e + 3) hT h hi hC h1a h1b⟩
/-- a whole E -/
theorem s42 {d : Nat} (hT : ct S s t) (h : ce S s T C i) (hi : i ≤ t.length) (hC : C.length ≤ i) : ∃ j o, PE t 2 0 i j o ∧ rC S s C j o (mm_cl (d + 20) 42 [.ref 73, .int (nI 0)] T) := CE_of hT (CB_of hT (CF_all hT 4 d (Nat.le_refl _))) T C i h hi hC
end CP3
