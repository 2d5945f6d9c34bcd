/-! ===== how the reference reads: clauses, the whole text ===== -/
section MP7
variable {S T U V : mm_S} {t : List Nat} {d i j k n q s a e m w B K : Nat} {x y : Int32} {W W0 A Q : List Nat} {C C2 N : List ab_T} {v : Value} {o : Option (List ab_T)} {l l2 : List ab_C} {c : ab_C} {p : Option ab_C}
theorem s143 (hT : rt T t) (h36 : mm_M T 92 36 = nI i) (hi : i ≤ 100) : ∃ U, mm_cl (d + 2) 143 [.ref 92] T = some (some (.int (match ab_at (ps t i) pfl with
  | none => -1
  | some w => if (pw t (pwl.getD w []) i).2 = true then nI w else -1)), U) ∧ r36 T U (match ab_at (ps t i) pfl with
  | none => i
  | some w => (pw t (pwl.getD w []) i).1) := by
  have hw := hT.1
  have l1 := s143_l (d := d + 1) hT h36 (by omega) 6 0 rfl
  rw [lv_z] at l1
  have st : mm_cl (d + 2) 143 [.ref 92] T = mm_ex (d + 2) 143 37 [.ref 92, .int (pmo (ab_at (ps t i) pfl)), .int (nI 6)] [] T := by
    rw [e143, b143_0]
    exact l1
  rw [b143_37] at st
  cases h : ab_at (ps t i) pfl with
  | none =>
    refine ⟨T, ?_, r_rf h36⟩
    rw [st, h, b143_39, if_pos (show pmo none = -1 from rfl), b143_79]
    rfl
  | some w =>
    have hw6 : w < 6 := at_ln h
    have f := wl_f w hw6
    obtain ⟨U, g1, g2⟩ := s143_w (d := d) hw6 (pwl.getD w []) 0 i T hT h36 (by omega) (by rw [List.take_zero, List.nil_append]) (Nat.zero_add _)
    refine ⟨U, ?_, g2⟩
    rw [st, h]
    exact g1
theorem rk_36 (h : rk S T l C i) (hr : r36 T U j) : rk S U l C j := by
  obtain ⟨h1, h2, h3, h4, h5⟩ := h
  have g := hr.2.1
  exact ⟨fk_tr h1 (fk_36 hr), (g _ _ (by omega)).trans h2, fun n hn => (g _ _ (by omega)).trans (h3 n hn), (g _ _ (by omega)).trans h4, cq_tr (K := l.length) (fun c j _ _ _ _ => g c j (by omega)) (fun n _ => g _ _ (by omega)) (by omega) (Nat.le_refl _) h5⟩
theorem m150_fin (hS : mm_W S) (h1 : faK S V j) (h2 : mm_M V 92 37 = nI (C ++ N).length) (h3 : cod V (C ++ N)) (h4 : mm_M V 102 6 = nI l.length) (h5 : cq V l 0 C.length) (hl : l.length ≤ 9) (r3 : mm_M V 103 (60 + l.length) = nI w) (r4 : mm_M V 104 (60 + l.length) = nI n) (r5 : mm_M V 105 (60 + l.length) = nI C.length) (hc : (C ++ N).length ≤ 100) : ∃ U, mm_ex (d + 5) 150 91 [.ref 92, .int (nI w), .int (nI n), .int (nI (60 + l.length))] [] V = some (some (.int (nI 1)), U) ∧ rk S U (l ++ [(w, n, N)]) (C ++ N) j := by
  have wV := fk_W h1 hS
  have w1 : mm_W (mm_uM V 106 (60 + l.length) (nI (C ++ N).length)) := wV
  have hcl : C.length + N.length = (C ++ N).length := (List.length_append).symm
  have q1 : faK S (mm_uM V 106 (60 + l.length) (nI (C ++ N).length)) j := fk_tr h1 (fk_u h1.2.2 (by unfold gp_k; omega) (by omega))
  have q2 : faK S (mm_uM (mm_uM V 106 (60 + l.length) (nI (C ++ N).length)) 102 6 (nI (l.length + 1))) j := fk_tr q1 (fk_u q1.2.2 (by unfold gp_k; omega) (by omega))
  refine ⟨mm_uM (mm_uM V 106 (60 + l.length) (nI (C ++ N).length)) 102 6 (nI (l.length + 1)), ?_, q2, (rdn (by omega)).trans ((rdn (by omega)).trans h2), fun n hn => (rdn (by omega)).trans ((rdn (by omega)).trans (h3 n hn)), rds.trans (by rw [la1]), ?_⟩
  · rw [b150_91 (wx_o92 wV) (wx_s92_23 wV) (by rw [wx_g92_23 wV]; exact wx_a106 wV) (by rw [wx_g92_23 wV, wx_N106 wV]; exact hp_inb (by omega) (by omega)) (wx_s92_19 wV), wx_g92_23 wV, wx_g92_19 wV, nI_clamp (by omega), h2, b150_108 (by rw [wx_N102 w1]; rfl) (wx_a102 w1) (wx_a102 w1) (by rw [wx_N102 w1]; rfl), show (nI 6).toNatClampNeg = 6 from rfl, show mm_M (mm_uM V 106 (60 + l.length) (nI (C ++ N).length)) 102 6 = nI l.length from (rdn (by omega)).trans h4, nI_add]
  · refine cq_app (cq_tr (K := l.length) (n := (C ++ N).length) (fun c j _ _ _ _ => (rdn (by omega)).trans (rdn (by omega))) (fun n _ => (rdn (by omega)).trans (rdn (by omega))) (by omega) (by omega) h5) ?_
    rw [Nat.zero_add]
    refine ⟨(rdn (by omega)).trans ((rdn (by omega)).trans r3), (rdn (by omega)).trans ((rdn (by omega)).trans r4), fun _ => ⟨C.length, (by show C.length + N.length ≤ (C ++ N).length; omega), (rdn (by omega)).trans ((rdn (by omega)).trans r5), (rdn (by omega)).trans (rds.trans (by rw [hcl])), ?_⟩⟩
    exact co_of (fun n hn => (rdn (by omega)).trans ((rdn (by omega)).trans (h3 n hn)))
theorem s150 (hT : rt S t) (h : rk S T l C i) (hl : l.length ≤ 9) (hCi : C.length ≤ i) (hi : i ≤ t.length) (p0 : PC t i j p) : (p = none → ∃ U, mm_cl (d + 5) 150 [.ref 92] T = some (some (.int (nI 0)), U) ∧ faK S U j) ∧ (∀ c, p = some c → ∃ U C2, mm_cl (d + 5) 150 [.ref 92] T = some (some (.int (nI 1)), U) ∧ rk S U (l ++ [c]) C2 j ∧ C2.length ≤ j ∧ j ≤ t.length) := by
  have hS := hT.1
  have h100 := hT.2.2.2.1
  have T0 := fk_t h.1 hT
  obtain ⟨U1, g1, g2⟩ := s143 (d := d + 2) T0 h.1.2.2 (by omega)
  have w0 := T0.1
  unfold PC at p0
  cases hw : ab_at (ps t i) pfl with
  | none =>
    rw [hw] at g1 g2 p0
    simp only at g1 g2 p0
    refine ⟨fun _ => ⟨U1, ?_, by rw [p0.1]; exact (rk_36 h g2).1⟩, fun c hc => by rw [p0.2] at hc; cases hc⟩
    rw [e150, b150_0 (wx_k92 w0), g1, hp_bd, hp_ts, b150_4, if_pos rfl, b150_19]
  | some w =>
    have hw6 : w < 6 := at_ln hw
    have f := wl_f w hw6
    rw [hw] at g1 g2 p0
    simp only at g1 g2 p0
    rw [f.2.1, pw_app] at p0
    have n0 : 0 ∉ pwl.getD w [] := by
      have : ∀ w, w < 6 → 0 ∉ pwl.getD w [] := by decide
      exact this w hw6
    have ple := @pw_le t (pwl.getD w []) i n0
    by_cases b1 : (pw t (pwl.getD w []) i).2 = true
    · rw [if_pos b1] at g1 p0
      have K1 := rk_36 h g2
      generalize (pw t (pwl.getD w []) i).1 = a at *
      have T1 := fk_t K1.1 hT
      have w1 := T1.1
      obtain ⟨U2, g3, g4⟩ := s141 (d := d + 3) T1 K1.1.2.2 (by omega) (c := 32) (by decide) (by decide)
      have ew : pw t [32] a = if ps t a = 32 then (a + 1, true) else (a, false) := rfl
      have st : mm_cl (d + 5) 150 [.ref 92] T = if (if ps t a = 32 then nI 1 else nI 0) = nI 0 then mm_ex (d + 5) 150 19 [.ref 92, .int (nI w), .null, .null] [] U2 else mm_ex (d + 5) 150 21 [.ref 92, .int (nI w), .null, .null] [] U2 := by
        rw [e150, b150_0 (wx_k92 w0), g1, hp_bd, hp_ts, b150_4, if_neg (nI_m1 (by omega)), b150_10 (wx_k92 w1), g3, hp_bd, hp_ts, b150_16]
      rw [ew] at p0
      by_cases b2 : ps t a = 32
      · have ain : a < t.length := ps_in (by omega)
        rw [if_pos b2] at g4 st p0
        rw [if_neg i01] at st
        simp only at p0
        rw [if_neg (by simp)] at p0
        have K2 := rk_36 K1 g4
        have T2 := fk_t K2.1 hT
        have w2 := T2.1
        obtain ⟨U3, g5, g6⟩ := s142 (d := d + 2) T2 K2.1.2.2 (by omega)
        have K3 := rk_36 K2 g6
        have nle := @pnu_le t (a + 1)
        have st2 : mm_cl (d + 5) 150 [.ref 92] T = if pmo (pnu t (a + 1)).2 = -1 then mm_ex (d + 5) 150 31 [.ref 92, .int (nI w), .int (pmo (pnu t (a + 1)).2), .null] [] U3 else mm_ex (d + 5) 150 33 [.ref 92, .int (nI w), .int (pmo (pnu t (a + 1)).2), .null] [] U3 := by
          rw [st, b150_21 (wx_k92 w2), g5, hp_bd, hp_ts, b150_25]
        cases hn : (pnu t (a + 1)).2 with
        | none =>
          rw [hn] at st2 p0
          simp only at p0
          rw [if_pos (show pmo none = -1 from rfl)] at st2
          refine ⟨fun _ => ⟨U3, ?_, by rw [p0.1]; exact K3.1⟩, fun c hc => by rw [p0.2] at hc; cases hc⟩
          rw [st2, b150_31]
        | some n =>
          have hn1 := (pnu_n hn).1
          rw [hn] at st2 p0
          simp only at p0
          rw [if_neg (show ¬ pmo (some n) = -1 from nI_m1 (by omega)), show pmo (some n) = nI n from rfl] at st2
          generalize (pnu t (a + 1)).1 = i1 at *
          have T3 := fk_t K3.1 hT
          have w3 := T3.1
          obtain ⟨k1, k2, k3, k4, k5⟩ := K3
          have ck : (nI (60 + l.length)).toNatClampNeg = 60 + l.length := nI_clamp (by omega)
          have bk : mm_inb (nI (60 + l.length)) 70 = true := hp_inb (by omega) (by omega)
          have q1 : faK S (mm_uM U3 103 (60 + l.length) (nI w)) i1 := fk_tr k1 (fk_u k1.2.2 (by unfold gp_k; omega) (by omega))
          have q2 : faK S (mm_uM (mm_uM U3 103 (60 + l.length) (nI w)) 104 (60 + l.length) (nI n)) i1 := fk_tr q1 (fk_u q1.2.2 (by unfold gp_k; omega) (by omega))
          have q3 : faK S (mm_uM (mm_uM (mm_uM U3 103 (60 + l.length) (nI w)) 104 (60 + l.length) (nI n)) 105 (60 + l.length) (nI C.length)) i1 := fk_tr q2 (fk_u q2.2.2 (by unfold gp_k; omega) (by omega))
          have w4 : mm_W (mm_uM (mm_uM U3 103 (60 + l.length) (nI w)) 104 (60 + l.length) (nI n)) := w3
          have st3 : mm_cl (d + 5) 150 [.ref 92] T = if nI 2 ≤ nI w then mm_ex (d + 5) 150 91 [.ref 92, .int (nI w), .int (nI n), .int (nI (60 + l.length))] [] (mm_uM (mm_uM (mm_uM U3 103 (60 + l.length) (nI w)) 104 (60 + l.length) (nI n)) 105 (60 + l.length) (nI C.length)) else mm_ex (d + 5) 150 73 [.ref 92, .int (nI w), .int (nI n), .int (nI (60 + l.length))] [] (mm_uM (mm_uM (mm_uM U3 103 (60 + l.length) (nI w)) 104 (60 + l.length) (nI n)) 105 (60 + l.length) (nI C.length)) := by
            have m37 : mm_M (mm_uM (mm_uM U3 103 (60 + l.length) (nI w)) 104 (60 + l.length) (nI n)) 92 37 = nI C.length := (rdn (by omega)).trans ((rdn (by omega)).trans k2)
            have e6 : (nI 6).toNatClampNeg = 6 := rfl
            rw [st2, b150_33 (wx_o92 w3) (wx_s92_19 w3) (by rw [wx_g92_19 w3, wx_N102 w3]; rfl) (by rw [wx_g92_19 w3]; exact wx_a102 w3) (wx_s92_20 w3) (by rw [wx_g92_20 w3]; exact wx_a103 w3) (by rw [wx_g92_19 w3, e6, k4, nI_add, wx_g92_20 w3, wx_N103 w3]; exact bk) (wx_s92_21 w3) (by rw [wx_g92_21 w3]; exact wx_a104 w3) (by rw [wx_g92_19 w3, e6, k4, nI_add, wx_g92_21 w3, wx_N104 w3]; exact bk) (wx_s92_22 w3), wx_g92_19 w3, wx_g92_20 w3, wx_g92_21 w3, wx_g92_22 w3, e6, k4, nI_add, ck, b150_64 (wx_o92 w4) (wx_a105 w4) (by rw [wx_N105 w4]; exact bk), m37, ck]
          have x2 : mm_M (mm_uM (mm_uM (mm_uM U3 103 (60 + l.length) (nI w)) 104 (60 + l.length) (nI n)) 105 (60 + l.length) (nI C.length)) 92 37 = nI C.length := (rdn (by omega)).trans ((rdn (by omega)).trans ((rdn (by omega)).trans k2))
          have x3 : cod (mm_uM (mm_uM (mm_uM U3 103 (60 + l.length) (nI w)) 104 (60 + l.length) (nI n)) 105 (60 + l.length) (nI C.length)) C := fun n hn => (rdn (by omega)).trans ((rdn (by omega)).trans ((rdn (by omega)).trans (k3 n hn)))
          have x4 : mm_M (mm_uM (mm_uM (mm_uM U3 103 (60 + l.length) (nI w)) 104 (60 + l.length) (nI n)) 105 (60 + l.length) (nI C.length)) 102 6 = nI l.length := (rdn (by omega)).trans ((rdn (by omega)).trans ((rdn (by omega)).trans k4))
          have x5 : cq (mm_uM (mm_uM (mm_uM U3 103 (60 + l.length) (nI w)) 104 (60 + l.length) (nI n)) 105 (60 + l.length) (nI C.length)) l 0 C.length := cq_tr (K := l.length) (fun c j _ _ _ _ => (rdn (by omega)).trans ((rdn (by omega)).trans (rdn (by omega)))) (fun n _ => (rdn (by omega)).trans ((rdn (by omega)).trans (rdn (by omega)))) (by omega) (Nat.le_refl _) k5
          have y3 : mm_M (mm_uM (mm_uM (mm_uM U3 103 (60 + l.length) (nI w)) 104 (60 + l.length) (nI n)) 105 (60 + l.length) (nI C.length)) 103 (60 + l.length) = nI w := (rdn (by omega)).trans ((rdn (by omega)).trans rds)
          have y4 : mm_M (mm_uM (mm_uM (mm_uM U3 103 (60 + l.length) (nI w)) 104 (60 + l.length) (nI n)) 105 (60 + l.length) (nI C.length)) 104 (60 + l.length) = nI n := (rdn (by omega)).trans rds
          have y5 : mm_M (mm_uM (mm_uM (mm_uM U3 103 (60 + l.length) (nI w)) 104 (60 + l.length) (nI n)) 105 (60 + l.length) (nI C.length)) 105 (60 + l.length) = nI C.length := rds
          generalize mm_uM (mm_uM (mm_uM U3 103 (60 + l.length) (nI w)) 104 (60 + l.length) (nI n)) 105 (60 + l.length) (nI C.length) = V at *
          have TV := fk_t q3 hT
          by_cases b3 : w < 2
          · rw [if_neg (nI_ge b3 (by omega)), b150_73 (wx_k92 TV.1)] at st3
            rw [if_pos b3] at p0
            obtain ⟨V2, f1, f2⟩ := s141 (d := d + 3) TV q3.2.2 (by omega) (c := 32) (by decide) (by decide)
            rw [f1, hp_bd, hp_ts, b150_79] at st3
            by_cases b4 : ps t i1 = 32
            · have i1n : i1 < t.length := ps_in (by omega)
              rw [if_pos b4] at f2 p0 st3
              rw [if_neg i01] at st3
              obtain ⟨o', p1, p2⟩ := p0
              have hple := PE_le p1
              have gg := f2.2.1
              have TV2 := rt_w f2 TV
              have z2 : mm_M V2 92 37 = nI C.length := (gg _ _ (by omega)).trans x2
              have z3 : cod V2 C := fun n hn => (gg _ _ (by omega)).trans (x3 n hn)
              obtain ⟨e1, e2⟩ := s149 (d := d) TV2 f2.2.2 z2 z3 (by omega) (by omega) p1
              rw [b150_82 (wx_k92 TV2.1)] at st3
              cases o' with
              | none =>
                obtain ⟨V3, e3, e4⟩ := e1 rfl
                refine ⟨fun _ => ⟨V3, ?_, fk_tr (fk_tr q3 (fk_36 f2)) ⟨e4.1, fun c j hc => e4.2.1 c j (fun z => hc (Or.inl z)), e4.2.2⟩⟩, fun c hc => by rw [p2] at hc; cases hc⟩
                rw [st3, e3, hp_bd, hp_ts, b150_86, if_pos rfl, b150_89]
              | some N =>
                obtain ⟨V3, e3, e4⟩ := e2 N rfl
                refine ⟨(fun hc => by rw [p2] at hc; cases hc), fun c hc => ?_⟩
                rw [p2] at hc
                cases hc
                have qV3 : faK S V3 j := fk_tr (fk_tr q3 (fk_36 f2)) ⟨e4.1, fun c j hc => e4.2.1 c j (fun z => hc (Or.inl z)), e4.2.2.1⟩
                have g3 := e4.2.1
                have hNl := hple.2.2 N rfl
                have hjl := hple.2.1 (by omega)
                have cN : C.length + N.length = (C ++ N).length := (List.length_append).symm
                obtain ⟨V4, e5, e6⟩ := m150_fin (d := d) (C := C) (N := N) (w := w) (n := n) hS qV3 e4.2.2.2.1 e4.2.2.2.2.1 ((g3 _ _ (by unfold gp_x; omega)).trans ((gg _ _ (by omega)).trans x4)) (cq_tr (K := l.length) (fun c j _ _ _ _ => (g3 _ _ (by unfold gp_x; omega)).trans (gg _ _ (by omega))) (fun n hn => by
                  rw [e4.2.2.2.2.1 n (by omega), ga_l hn, x3 n hn]) (by omega) (Nat.le_refl _) x5) hl ((g3 _ _ (by unfold gp_x; omega)).trans ((gg _ _ (by omega)).trans y3)) ((g3 _ _ (by unfold gp_x; omega)).trans ((gg _ _ (by omega)).trans y4)) ((g3 _ _ (by unfold gp_x; omega)).trans ((gg _ _ (by omega)).trans y5)) (by omega)
                refine ⟨V4, C ++ N, ?_, e6, by omega, by omega⟩
                rw [st3, e3, hp_bd, hp_ts, b150_86, if_neg i01, e5]
            · rw [if_neg b4] at f2 p0 st3
              rw [if_pos rfl] at st3
              refine ⟨fun _ => ⟨V2, ?_, by rw [p0.1]; exact fk_tr q3 (fk_36 f2)⟩, fun c hc => by rw [p0.2] at hc; cases hc⟩
              rw [st3, b150_89]
          · rw [if_pos (nI_le (by omega) (by omega))] at st3
            rw [if_neg b3] at p0
            refine ⟨(fun hc => by rw [p0.2] at hc; cases hc), fun c hc => ?_⟩
            rw [p0.2] at hc
            cases hc
            obtain ⟨V4, e5, e6⟩ := m150_fin (d := d) (C := C) (N := []) (w := w) (n := n) hS q3 (by rw [List.append_nil]; exact x2) (by rw [List.append_nil]; exact x3) x4 x5 hl y3 y4 y5 (by rw [List.append_nil]; omega)
            rw [List.append_nil] at e6
            rw [p0.1]
            exact ⟨V4, C, st3.trans e5, e6, by omega, by omega⟩
      · rw [if_neg b2] at g4 st p0
        rw [if_pos rfl] at st
        simp only at p0
        rw [if_pos trivial] at p0
        refine ⟨fun _ => ⟨U2, ?_, by rw [p0.1]; exact (rk_36 K1 g4).1⟩, fun c hc => by rw [p0.2] at hc; cases hc⟩
        rw [st, b150_19]
    · rw [if_neg b1] at g1 p0
      have b1f : (pw t (pwl.getD w []) i).2 = false := by
        cases h : (pw t (pwl.getD w []) i).2 with
        | true => exact absurd h b1
        | false => rfl
      rw [if_pos b1f] at p0
      refine ⟨fun _ => ⟨U1, ?_, by rw [p0.1]; exact (rk_36 h g2).1⟩, fun c hc => by rw [p0.2] at hc; cases hc⟩
      rw [e150, b150_0 (wx_k92 w0), g1, hp_bd, hp_ts, b150_4, if_pos rfl, b150_19]
end MP7
