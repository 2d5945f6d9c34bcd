/-! ===== how the class reads: an E ===== -/
def gE (s c j : Nat) : Prop := (c = 73 ∧ j = 2) ∨ (c = s ∧ j = 9) ∨ c = s + 4
def feT (S : mm_S) (s : Nat) (U : mm_S) (j : Nat) : Prop := U = mm_wM S (mm_M U) ∧ (∀ c j, ¬ gE s c j → mm_M U c j = mm_M S c j) ∧ mm_M U 73 2 = nI j
def ce (S : mm_S) (s : Nat) (T : mm_S) (C : List ab_T) (i : Nat) : Prop := feT S s T i ∧ mm_M T s 9 = nI C.length ∧ ∀ n, n < C.length → mm_M T (s + 4) n = cd_en (C.getD n (Sum.inr 0))
def rC (S : mm_S) (s : Nat) (C : List ab_T) (j : Nat) (o : Option (List ab_T)) (r : mm_Res) : Prop := match o with
  | none => ∃ U, r = some (some (.int (nI 0)), U) ∧ feT S s U j
  | some c => ∃ U, r = some (some (.int (nI 1)), U) ∧ ce S s U (C ++ c) j
def CF (S : mm_S) (s : Nat) (t : List Nat) (d e : Nat) : Prop := ∀ T C i, ce S s T C i → i ≤ t.length → C.length ≤ i → ∃ j o, PE t 0 (4 - e) i j o ∧ rC S s C j o (mm_cl (d + 3 * e + 6) 44 [.ref 73, .int (nI (4 - e))] T)
def CB (S : mm_S) (s : Nat) (t : List Nat) (d e : Nat) : Prop := ∀ T C i, ce S s T C i → i ≤ t.length → C.length ≤ i → ∃ j o, PE t 1 (4 - e) i j o ∧ rC S s C j o (mm_cl (d + 3 * e + 7) 43 [.ref 73, .int (nI (4 - e))] T)
def CE (S : mm_S) (s : Nat) (t : List Nat) (d e : Nat) : Prop := ∀ T C i, ce S s T C i → i ≤ t.length → C.length ≤ i → ∃ j o, PE t 2 (4 - e) i j o ∧ rC S s C j o (mm_cl (d + 3 * e + 8) 42 [.ref 73, .int (nI (4 - e))] T)
section CP2
variable {S T U V : mm_S} {t : List Nat} {d i j k n c q s m a e : Nat} {x y : Int32} {C N : List ab_T} {o : Option (List ab_T)} {z : ab_T} {r : mm_Res}
theorem fe_t (h : feT S s T i) (hT : ct S s t) : ct T s t := by
  obtain ⟨h1, h2, h3, h4, h5, h6, h7, h8⟩ := hT
  have g := h.2.1
  have n := sh_n73 h2
  exact ⟨by rw [h.1]; exact h1, h2, by rw [h.1]; exact h3, (g _ _ (by unfold gE; omega)).trans h4, fun i hi => (g _ _ (by unfold gE; omega)).trans (h5 i hi), h6, h7, by rw [h.1]; exact h8⟩
theorem ce_36 (hs : mm_sh s) (h : ce S s T C i) (hr : q73 T U j) : ce S s U C j := by
  obtain ⟨⟨h1, h2, h3⟩, h4, h5⟩ := h
  have g := hr.2.1
  have n := sh_n73 hs
  refine ⟨⟨?_, fun c j hc => (g c j (fun z => hc (Or.inl z))).trans (h2 c j hc), hr.2.2⟩, (g _ _ (by omega)).trans h4, fun n hn => (g _ _ (by omega)).trans (h5 n hn)⟩
  have e := hr.1
  rw [h1] at e
  exact e
theorem s49 (hT : ct S s t) (h : ce S s T C i) (hc : C.length < 100) : ∃ U, mm_cl d 49 [.ref s, .int (cd_en z)] T = some (none, U) ∧ ce S s U (C ++ [z]) i := by
  have T1 := fe_t h.1 hT
  have w := T1.1
  have hs := hT.2.1
  have n73 := sh_n73 hs
  obtain ⟨⟨h1, h2, h3⟩, h4, h5⟩ := h
  have w1 : mm_W (mm_uM T (s + 4) C.length (cd_en z)) := w
  refine ⟨mm_uM (mm_uM T (s + 4) C.length (cd_en z)) s 9 (nI (C.length + 1)), ?_, ⟨wM_u (wM_u h1), fun c j hc => (rdn (fun z => hc (by unfold gE; omega))).trans ((rdn (fun z => hc (by unfold gE; omega))).trans (h2 c j hc)), (rdn (by omega)).trans ((rdn (by omega)).trans h3)⟩, rds.trans (by rw [la1]), fun n hn => ?_⟩
  · rw [e49, b49_0 (ws_o w hs) (ws_s7 w hs) (by rw [ws_g7 w hs]; exact ws_a4 w hs), h4, ws_g7 w hs, ws_N4 w hs, if_neg (nI_ge (by omega) (by omega)), b49_12 (ws_o w hs) (ws_s7 w hs) (by rw [ws_g7 w hs]; exact ws_a4 w hs) (by rw [h4, ws_g7 w hs, ws_N4 w hs]; exact hp_inb hc (by omega)), h4, ws_g7 w hs, nI_clamp (by omega), b49_24 (ws_o w1 hs) (ws_o w1 hs), show mm_M (mm_uM T (s + 4) C.length (cd_en z)) s 9 = nI C.length from (rdn (by omega)).trans h4, nI_add]
  · rw [la1] at hn
    rw [rdn (by omega)]
    by_cases q : n = C.length
    · rw [q, rds, ga_r]
    · rw [rdn (by omega), ga_l (by omega)]
      exact h5 n (by omega)
theorem w16 : ∀ m, m < 128 → ((nI m).toUInt32 % 65536).toInt32 = nI m := by decide
theorem s45 (hT : ct S s t) (h : ce S s T C i) (hi : i ≤ 100) (hc : C.length < 100) : ∃ U, mm_cl (d + 5) 45 [.ref 73] T = some (some (.int (if (pte t i).2 = none then nI 0 else nI 1)), U) ∧ (∀ x, (pte t i).2 = some x → ce S s U (C ++ [x]) (pte t i).1) ∧ ((pte t i).2 = none → feT S s U (pte t i).1) := by
  have T0 := fe_t h.1 hT
  have hw := T0.1
  have hs := hT.2.1
  have h36 := h.1.2.2
  have l0 := cs_lt (i := i) hT
  have l1 := cs_lt (i := i + 1) hT
  have k1 := s215 (d := d) (S := T) T0.2.2.1 (q := 10) (by decide) (by decide) l0
  have st : mm_cl (d + 5) 45 [.ref 73] T = if nI 0 ≤ pmo (ab_at (ps t i) plt) then mm_ex (d + 5) 45 17 [.ref 73, .int (pmo (ab_at (ps t i) plt)), .null, .null] [] T else mm_ex (d + 5) 45 15 [.ref 73, .int (pmo (ab_at (ps t i) plt)), .null, .null] [] T := by
    rw [e45, b45_0 (wx_k73 hw), s38 T0 h36 (by omega), hp_bd, hp_tsc, show (1000020 : Nat) = sta 10 from rfl, b45_6 (st_k T0.2.2.1 (by decide)), w16 _ l0, k1, hp_bd, hp_ts, b45_10]
    rfl
  unfold pte
  cases ha : ab_at (ps t i) plt with
  | none =>
    rw [ha, if_neg (show ¬ nI 0 ≤ pmo none by decide), b45_15] at st
    exact ⟨T, st, (fun x hx => by cases hx), fun _ => h.1⟩
  | some l =>
    have hl7 : l < 7 := at_ln ha
    rw [ha, show pmo (some l) = nI l from rfl, if_pos (nI_le (Nat.zero_le _) (by omega)), b45_17 (wx_o73 hw) (wx_k73 hw), h36, nI_add] at st
    simp only
    have r1 : q73 T (mm_uM T 73 2 (nI (i + 1))) (i + 1) := q_w
    have c1 := ce_36 hs h r1
    have T1 := fe_t c1.1 hT
    have w1 := T1.1
    have k2 := s215 (d := d) (S := mm_uM T 73 2 (nI (i + 1))) T1.2.2.1 (q := 11) (by decide) (by decide) l1
    have st2 : mm_cl (d + 5) 45 [.ref 73] T = if nI 0 ≤ pmo (ab_at (ps t (i + 1)) prl) then mm_ex (d + 5) 45 44 [.ref 73, .int (nI l), .int (pmo (ab_at (ps t (i + 1)) prl)), .null] [] (mm_uM T 73 2 (nI (i + 1))) else mm_ex (d + 5) 45 42 [.ref 73, .int (nI l), .int (pmo (ab_at (ps t (i + 1)) prl)), .null] [] (mm_uM T 73 2 (nI (i + 1))) := by
      rw [st, s38 T1 r1.2.2 (by omega), hp_bd, hp_tsc, show (1000022 : Nat) = sta 11 from rfl, b45_33 (st_k T1.2.2.1 (by decide)), w16 _ l1, k2, hp_bd, hp_ts, b45_37]
      rfl
    cases hr : ab_at (ps t (i + 1)) prl with
    | none =>
      rw [hr, if_neg (show ¬ nI 0 ≤ pmo none by decide), b45_42] at st2
      exact ⟨_, st2, (fun x hx => by cases hx), fun _ => c1.1⟩
    | some r =>
      have hr3 : r < 3 := at_ln hr
      rw [hr, show pmo (some r) = nI r from rfl, if_pos (nI_le (Nat.zero_le _) (by omega)), b45_44 (wx_o73 w1) (wx_k73 w1), r1.2.2, nI_add] at st2
      simp only
      have r2 : q73 T (mm_uM (mm_uM T 73 2 (nI (i + 1))) 73 2 (nI (i + 2))) (i + 2) := q_tr r1 q_w
      have c2 := ce_36 hs h r2
      have T2 := fe_t c2.1 hT
      obtain ⟨U, g1, g2⟩ := s46 (d := d + 4) T2 r2.2.2 (by omega)
      have c3 := ce_36 hs c2 g2
      have T3 := fe_t c3.1 hT
      have wU := T3.1
      rw [g1, hp_bd, hp_ts, b45_58] at st2
      cases hn : (pnu t (i + 2)).2 with
      | none =>
        rw [hn, if_neg (show ¬ nI 0 ≤ pmo none by decide), b45_63] at st2
        exact ⟨_, st2, (fun x hx => by cases hx), fun _ => c3.1⟩
      | some n =>
        have hn1 := (pnu_n hn).1
        have R3 := T3.2.2.2.2.2.2.2
        obtain ⟨V, g3, g4⟩ := s49 (d := d + 4) (z := Sum.inl (l, r, n)) hT c3 hc
        have ez : (nI l * nI 3 + nI r) * nI 100 + nI n = cd_en (Sum.inl (l, r, n)) := by rw [nI_mul, nI_add, nI_mul, nI_add]; rfl
        rw [hn, show pmo (some n) = nI n from rfl, if_pos (nI_le (Nat.zero_le _) (by omega)), b45_65 (wx_o73 wU) (hp_rs R3), hp_rg R3, e50, b50_0, hp_bd, hp_tsc, b45_75 (ws_k wU hs), ez, g3, hp_bd, hp_tn, b45_78] at st2
        exact ⟨V, st2, (fun x hx => by cases hx; exact g4), (fun z => by cases z)⟩
theorem L43 (hT : ct S s t) (H : CF S s t d e) : ∀ (r j : Nat) (T : mm_S) (C : List ab_T), t.length - j ≤ r → ce S s T C j → j ≤ t.length → C.length ≤ j → ∃ k o, PE t 3 (4 - e) j k o ∧ rC S s C k o (mm_ex (d + 3 * e + 7) 43 10 [.ref 73, .int (nI (4 - e))] [] T) := by
  have hs := hT.2.1
  have h100 := hT.2.2.2.2.2.1
  have n73 := sh_n73 hs
  intro r
  induction r with
  | zero =>
    intro j T C hr h hj hC
    have T0 := fe_t h.1 hT
    have np : ps t j ≠ pch 0 := fun z => by have := ps_in (t := t) (i := j) (by rw [z]; decide); omega
    refine ⟨j, some [], PE_c.2.2.2.2.2.2.2.1 0 (4 - e) j (by decide) np, T, ?_, by rw [List.append_nil]; exact h⟩
    rw [b43_10 (wx_o73 T0.1), T0.2.2.2.1, h.1.2.2, if_pos (nI_le (by omega) (by omega)), b43_67]
  | succ r ih =>
    intro j T C hr h hj hC
    have T0 := fe_t h.1 hT
    have hw := T0.1
    by_cases p : ps t j = pch 0
    · have jl : j < t.length := ps_in (by rw [p]; decide)
      have pj : ps t j = 38 := p
      have r1 : q73 T (mm_uM T 73 2 (nI (j + 1))) (j + 1) := q_w
      have c1 := ce_36 hs h r1
      obtain ⟨k, o, p1, p2⟩ := H _ C (j + 1) c1 (by omega) (by omega)
      have hle := PE_le p1
      have T1 := fe_t c1.1 hT
      have st : mm_ex (d + 3 * e + 7) 43 10 [.ref 73, .int (nI (4 - e))] [] T = mm_bd (mm_cl (d + 3 * e + 6) 44 [.ref 73, .int (nI (4 - e))] (mm_uM T 73 2 (nI (j + 1)))) (fun u S2 => mm_ex (d + 3 * e + 7) 43 50 [.ref 73, .int (nI (4 - e))] (u.toList ++ []) S2) := by
        rw [b43_10 (wx_o73 hw), T0.2.2.2.1, h.1.2.2, if_neg (nI_ge jl (by omega)), b43_21 (wx_o73 hw) (wx_s73_1 hw) (by rw [h.1.2.2, wx_g73_1 hw, wx_N74 hw]; exact hp_inb (by omega) (by omega)) (by rw [wx_g73_1 hw]; exact wx_a74 hw), h.1.2.2, wx_g73_1 hw, nI_clamp (by omega), T0.2.2.2.2.1 j jl, show t.getD j 0 = 38 from pj, if_pos rfl, b43_35 (wx_o73 hw) (wx_k73 hw), h.1.2.2, nI_add]
      cases o with
      | none =>
        obtain ⟨U, q1, q2⟩ := p2
        refine ⟨k, none, PE_c.2.2.2.2.2.2.2.2.1 0 (4 - e) j k (by decide) p p1, U, ?_, q2⟩
        rw [st, q1, hp_bd, hp_ts, b43_50, if_pos rfl, b43_53]
      | some c =>
        obtain ⟨U, q1, q2⟩ := p2
        have hcl := hle.2.2 c rfl
        have cl : (C ++ c).length = C.length + c.length := List.length_append
        have kl := hle.2.1 (by omega)
        have TU := fe_t q2.1 hT
        have RU := TU.2.2.2.2.2.2.2
        obtain ⟨V, q3, q4⟩ := s49 (d := d + 3 * e + 6) (z := Sum.inr (2 - 0)) hT q2 (by omega)
        have cl2 := @la1 _ (C ++ c) (Sum.inr (2 - 0))
        obtain ⟨m, o2, p3, p4⟩ := ih k V (C ++ c ++ [Sum.inr (2 - 0)]) (by omega) q4 kl (by omega)
        refine ⟨m, _, PE_c.2.2.2.2.2.2.2.2.2 0 (4 - e) j k m c o2 (by decide) p p1 p3, ?_⟩
        have st2 : mm_ex (d + 3 * e + 7) 43 10 [.ref 73, .int (nI (4 - e))] [] T = mm_ex (d + 3 * e + 7) 43 10 [.ref 73, .int (nI (4 - e))] [] V := by
          rw [st, q1, hp_bd, hp_ts, b43_50, if_neg i01, b43_55 (wx_o73 TU.1) (hp_rs RU) (by rw [hp_rg RU]; exact ws_k TU.1 hs), hp_rg RU, show (-2 : Int32) = cd_en (Sum.inr (2 - 0)) from rfl, q3, hp_bd, hp_tn, b43_64]
        rw [st2]
        cases o2 with
        | none => exact p4
        | some r2 =>
          obtain ⟨W, w1, w2⟩ := p4
          refine ⟨W, w1, ?_⟩
          rw [List.append_assoc, List.append_assoc] at w2
          exact w2
    · have st : mm_ex (d + 3 * e + 7) 43 10 [.ref 73, .int (nI (4 - e))] [] T = mm_ex (d + 3 * e + 7) 43 67 [.ref 73, .int (nI (4 - e))] [] T := by
        rw [b43_10 (wx_o73 hw), T0.2.2.2.1, h.1.2.2]
        by_cases jl : j < t.length
        · have hl := cs_lt (i := j) hT
          have np : ¬ nI (t.getD j 0) = nI 38 := fun z => by
            have hx : t.getD j 0 < 2 ^ 31 := (show ps t j < 2 ^ 31 by omega)
            exact p ((nI_eq hx (by decide)).mp z)
          rw [if_neg (nI_ge jl (by omega)), b43_21 (wx_o73 hw) (wx_s73_1 hw) (by rw [h.1.2.2, wx_g73_1 hw, wx_N74 hw]; exact hp_inb (by omega) (by omega)) (by rw [wx_g73_1 hw]; exact wx_a74 hw), h.1.2.2, wx_g73_1 hw, nI_clamp (by omega), T0.2.2.2.2.1 j jl, if_neg np]
        · rw [if_pos (nI_le (by omega) (by omega))]
      refine ⟨j, some [], PE_c.2.2.2.2.2.2.2.1 0 (4 - e) j (by decide) p, T, ?_, by rw [List.append_nil]; exact h⟩
      rw [st, b43_67]
theorem CB_of (hT : ct S s t) (H : CF S s t d e) : CB S s t d e := by
  intro T C i h hi hC
  have T0 := fe_t h.1 hT
  have h100 := hT.2.2.2.2.2.1
  obtain ⟨j, o, p1, p2⟩ := H T C i h hi hC
  have hle := PE_le p1
  have st : mm_cl (d + 3 * e + 7) 43 [.ref 73, .int (nI (4 - e))] T = mm_bd (mm_cl (d + 3 * e + 6) 44 [.ref 73, .int (nI (4 - e))] T) (fun u S2 => mm_ex (d + 3 * e + 7) 43 5 [.ref 73, .int (nI (4 - e))] (u.toList ++ []) S2) := by
    rw [e43, b43_0 (wx_k73 T0.1)]
  cases o with
  | none =>
    obtain ⟨U, q1, q2⟩ := p2
    refine ⟨j, none, PE_c.2.2.2.2.2.1 0 (4 - e) i j (by decide) p1, U, ?_, q2⟩
    rw [st, q1, hp_bd, hp_ts, b43_5, if_pos rfl, b43_8]
  | some c =>
    obtain ⟨U, q1, q2⟩ := p2
    have hcl := hle.2.2 c rfl
    have cl : (C ++ c).length = C.length + c.length := List.length_append
    obtain ⟨k, o2, p3, p4⟩ := L43 hT H (t.length - j) j U (C ++ c) (Nat.le_refl _) q2 (hle.2.1 hi) (by omega)
    refine ⟨k, _, PE_c.2.2.2.2.2.2.1 0 (4 - e) i j k c o2 (by decide) p1 p3, ?_⟩
    have st2 : mm_cl (d + 3 * e + 7) 43 [.ref 73, .int (nI (4 - e))] T = mm_ex (d + 3 * e + 7) 43 10 [.ref 73, .int (nI (4 - e))] [] U := by
      rw [st, q1, hp_bd, hp_ts, b43_5, if_neg i01]
    rw [st2]
    cases o2 with
    | none => exact p4
    | some r2 =>
      obtain ⟨W, w1, w2⟩ := p4
      refine ⟨W, w1, ?_⟩
      rw [List.append_assoc] at w2
      exact w2
theorem L42 (hT : ct S s t) (H : CB S s t d e) : ∀ (r j : Nat) (T : mm_S) (C : List ab_T), t.length - j ≤ r → ce S s T C j → j ≤ t.length → C.length ≤ j → ∃ k o, PE t 4 (4 - e) j k o ∧ rC S s C k o (mm_ex (d + 3 * e + 8) 42 10 [.ref 73, .int (nI (4 - e))] [] T) := by
  have hs := hT.2.1
  have h100 := hT.2.2.2.2.2.1
  have n73 := sh_n73 hs
  intro r
  induction r with
  | zero =>
    intro j T C hr h hj hC
    have T0 := fe_t h.1 hT
    have np : ps t j ≠ pch 1 := fun z => by have := ps_in (t := t) (i := j) (by rw [z]; decide); omega
    refine ⟨j, some [], PE_c.2.2.2.2.2.2.2.1 1 (4 - e) j (by decide) np, T, ?_, by rw [List.append_nil]; exact h⟩
    rw [b42_10 (wx_o73 T0.1), T0.2.2.2.1, h.1.2.2, if_pos (nI_le (by omega) (by omega)), b42_67]
  | succ r ih =>
    intro j T C hr h hj hC
    have T0 := fe_t h.1 hT
    have hw := T0.1
    by_cases p : ps t j = pch 1
    · have jl : j < t.length := ps_in (by rw [p]; decide)
      have pj : ps t j = 124 := p
      have r1 : q73 T (mm_uM T 73 2 (nI (j + 1))) (j + 1) := q_w
      have c1 := ce_36 hs h r1
      obtain ⟨k, o, p1, p2⟩ := H _ C (j + 1) c1 (by omega) (by omega)
      have hle := PE_le p1
      have T1 := fe_t c1.1 hT
      have st : mm_ex (d + 3 * e + 8) 42 10 [.ref 73, .int (nI (4 - e))] [] T = mm_bd (mm_cl (d + 3 * e + 7) 43 [.ref 73, .int (nI (4 - e))] (mm_uM T 73 2 (nI (j + 1)))) (fun u S2 => mm_ex (d + 3 * e + 8) 42 50 [.ref 73, .int (nI (4 - e))] (u.toList ++ []) S2) := by
        rw [b42_10 (wx_o73 hw), T0.2.2.2.1, h.1.2.2, if_neg (nI_ge jl (by omega)), b42_21 (wx_o73 hw) (wx_s73_1 hw) (by rw [h.1.2.2, wx_g73_1 hw, wx_N74 hw]; exact hp_inb (by omega) (by omega)) (by rw [wx_g73_1 hw]; exact wx_a74 hw), h.1.2.2, wx_g73_1 hw, nI_clamp (by omega), T0.2.2.2.2.1 j jl, show t.getD j 0 = 124 from pj, if_pos rfl, b42_35 (wx_o73 hw) (wx_k73 hw), h.1.2.2, nI_add]
      cases o with
      | none =>
        obtain ⟨U, q1, q2⟩ := p2
        refine ⟨k, none, PE_c.2.2.2.2.2.2.2.2.1 1 (4 - e) j k (by decide) p p1, U, ?_, q2⟩
        rw [st, q1, hp_bd, hp_ts, b42_50, if_pos rfl, b42_53]
      | some c =>
        obtain ⟨U, q1, q2⟩ := p2
        have hcl := hle.2.2 c rfl
        have cl : (C ++ c).length = C.length + c.length := List.length_append
        have kl := hle.2.1 (by omega)
        have TU := fe_t q2.1 hT
        have RU := TU.2.2.2.2.2.2.2
        obtain ⟨V, q3, q4⟩ := s49 (d := d + 3 * e + 7) (z := Sum.inr (2 - 1)) hT q2 (by omega)
        have cl2 := @la1 _ (C ++ c) (Sum.inr (2 - 1))
        obtain ⟨m, o2, p3, p4⟩ := ih k V (C ++ c ++ [Sum.inr (2 - 1)]) (by omega) q4 kl (by omega)
        refine ⟨m, _, PE_c.2.2.2.2.2.2.2.2.2 1 (4 - e) j k m c o2 (by decide) p p1 p3, ?_⟩
        have st2 : mm_ex (d + 3 * e + 8) 42 10 [.ref 73, .int (nI (4 - e))] [] T = mm_ex (d + 3 * e + 8) 42 10 [.ref 73, .int (nI (4 - e))] [] V := by
          rw [st, q1, hp_bd, hp_ts, b42_50, if_neg i01, b42_55 (wx_o73 TU.1) (hp_rs RU) (by rw [hp_rg RU]; exact ws_k TU.1 hs), hp_rg RU, show (-3 : Int32) = cd_en (Sum.inr (2 - 1)) from rfl, q3, hp_bd, hp_tn, b42_64]
        rw [st2]
        cases o2 with
        | none => exact p4
        | some r2 =>
          obtain ⟨W, w1, w2⟩ := p4
          refine ⟨W, w1, ?_⟩
          rw [List.append_assoc, List.append_assoc] at w2
          exact w2
    · have st : mm_ex (d + 3 * e + 8) 42 10 [.ref 73, .int (nI (4 - e))] [] T = mm_ex (d + 3 * e + 8) 42 67 [.ref 73, .int (nI (4 - e))] [] T := by
        rw [b42_10 (wx_o73 hw), T0.2.2.2.1, h.1.2.2]
        by_cases jl : j < t.length
        · have hl := cs_lt (i := j) hT
          have np : ¬ nI (t.getD j 0) = nI 124 := fun z => by
            have hx : t.getD j 0 < 2 ^ 31 := (show ps t j < 2 ^ 31 by omega)
            exact p ((nI_eq hx (by decide)).mp z)
          rw [if_neg (nI_ge jl (by omega)), b42_21 (wx_o73 hw) (wx_s73_1 hw) (by rw [h.1.2.2, wx_g73_1 hw, wx_N74 hw]; exact hp_inb (by omega) (by omega)) (by rw [wx_g73_1 hw]; exact wx_a74 hw), h.1.2.2, wx_g73_1 hw, nI_clamp (by omega), T0.2.2.2.2.1 j jl, if_neg np]
        · rw [if_pos (nI_le (by omega) (by omega))]
      refine ⟨j, some [], PE_c.2.2.2.2.2.2.2.1 1 (4 - e) j (by decide) p, T, ?_, by rw [List.append_nil]; exact h⟩
      rw [st, b42_67]
theorem CE_of (hT : ct S s t) (H : CB S s t d e) : CE S s t d e := by
  intro T C i h hi hC
  have T0 := fe_t h.1 hT
  have h100 := hT.2.2.2.2.2.1
  obtain ⟨j, o, p1, p2⟩ := H T C i h hi hC
  have hle := PE_le p1
  have st : mm_cl (d + 3 * e + 8) 42 [.ref 73, .int (nI (4 - e))] T = mm_bd (mm_cl (d + 3 * e + 7) 43 [.ref 73, .int (nI (4 - e))] T) (fun u S2 => mm_ex (d + 3 * e + 8) 42 5 [.ref 73, .int (nI (4 - e))] (u.toList ++ []) S2) := by
    rw [e42, b42_0 (wx_k73 T0.1)]
  cases o with
  | none =>
    obtain ⟨U, q1, q2⟩ := p2
    refine ⟨j, none, PE_c.2.2.2.2.2.1 1 (4 - e) i j (by decide) p1, U, ?_, q2⟩
    rw [st, q1, hp_bd, hp_ts, b42_5, if_pos rfl, b42_8]
  | some c =>
    obtain ⟨U, q1, q2⟩ := p2
    have hcl := hle.2.2 c rfl
    have cl : (C ++ c).length = C.length + c.length := List.length_append
    obtain ⟨k, o2, p3, p4⟩ := L42 hT H (t.length - j) j U (C ++ c) (Nat.le_refl _) q2 (hle.2.1 hi) (by omega)
    refine ⟨k, _, PE_c.2.2.2.2.2.2.1 1 (4 - e) i j k c o2 (by decide) p1 p3, ?_⟩
    have st2 : mm_cl (d + 3 * e + 8) 42 [.ref 73, .int (nI (4 - e))] T = mm_ex (d + 3 * e + 8) 42 10 [.ref 73, .int (nI (4 - e))] [] U := by
      rw [st, q1, hp_bd, hp_ts, b42_5, if_neg i01]
    rw [st2]
    cases o2 with
    | none => exact p4
    | some r2 =>
      obtain ⟨W, w1, w2⟩ := p4
      refine ⟨W, w1, ?_⟩
      rw [List.append_assoc] at w2
      exact w2
end CP2
