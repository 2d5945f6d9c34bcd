/-! ===== shop, in the reference: all after it; what an object is stays well ===== -/
/-- cells that shop doesn't touch, h the place -/
def kX (h c j : Nat) : Prop := ¬ (gp_k c j ∨ (c = 92 ∧ (j = 26 ∨ j = 17 ∨ j = 18)) ∨ (c = 102 ∧ j = h) ∨ (103 ≤ c ∧ c ≤ 106 ∧ 10 * h ≤ j ∧ j < 10 * h + 10) ∨ (c = 107 ∧ 120 * h ≤ j ∧ j < 120 * h + 120))
section MP9
variable {S T U V : mm_S} {G G2 : gb_G} {t : List Nat} {d i j k n q s a e m w B K h : Nat} {x y z v : Int32} {C C2 N : List ab_T} {o : Option (List ab_C)} {l l2 : List ab_C} {c : ab_C} {p : Option ab_C} {X : gb_X}
theorem PC_ok (p : PC t i j (some c)) : ab_okC c := by
  unfold PC at p
  cases hw : ab_at (ps t i) pfl with
  | none => rw [hw] at p; cases p.2
  | some w =>
    have hw6 : w < 6 := at_ln hw
    rw [hw] at p
    simp only at p
    split at p
    · cases p.2
    · cases hn : (pnu t (pw t (pws.getD w []) i).1).2 with
      | none => rw [hn] at p; cases p.2
      | some n =>
        have hn1 := (pnu_n hn).1
        rw [hn] at p
        simp only at p
        split at p
        · split at p
          · obtain ⟨o', p1, p2⟩ := p
            cases o' with
            | none => cases p2
            | some c2 =>
              cases p2
              exact ⟨hw6, hn1, fun _ => PE_one p1⟩
          · cases p.2
        · rename_i w2
          have e := p.2
          cases e
          exact ⟨hw6, hn1, fun z => absurd z w2⟩
theorem PC_le (p0 : PC t i j p) (hi : i ≤ t.length) : j ≤ t.length := by
  unfold PC at p0
  cases hw : ab_at (ps t i) pfl with
  | none => rw [hw] at p0; rw [p0.1]; exact hi
  | some w =>
    have hw6 : w < 6 := at_ln hw
    have n0 : ∀ w, w < 6 → 0 ∉ pws.getD w [] := by decide
    have a := (@pw_le t (pws.getD w []) i (n0 w hw6)).2 hi
    have b := (@pnu_le t (pw t (pws.getD w []) i).1).2.1 a
    rw [hw] at p0
    simp only at p0
    split at p0
    · rw [p0.1]; exact a
    · cases hn : (pnu t (pw t (pws.getD w []) i).1).2 with
      | none => rw [hn] at p0; rw [p0.1]; exact b
      | some n =>
        rw [hn] at p0
        simp only at p0
        split at p0
        · split at p0
          · rename_i h32
            obtain ⟨o', p1, p2⟩ := p0
            exact (PE_le p1).2.1 (ps_in (by omega))
          · rw [p0.1]; exact b
        · rw [p0.1]; exact b
theorem PL_le : ∀ (m : Nat) (l : List ab_C) (i : Nat), PL t m l i j o → i ≤ t.length → j ≤ t.length := by
  intro m
  induction m with
  | zero => intro l i p _; exact p.elim
  | succ m ih =>
    intro l i p hi
    rcases p with ⟨p1, p2⟩ | ⟨k, c, p1, p2⟩
    · exact PC_le p1 hi
    · have hk := PC_le p1 hi
      rcases p2 with ⟨q1, q2, q3⟩ | ⟨q1, q2, q3, q4⟩ | ⟨q1, q2, q3, q4⟩
      · omega
      · omega
      · exact ih (l ++ [c]) (k + 1) q4 (by omega)
theorem PL_ok : ∀ (m : Nat) (l : List ab_C) (i : Nat), PL t m l i j (some l2) → m + l.length = 10 → (∀ c ∈ l, ab_okC c) → ab_okS l2 := by
  intro m
  induction m with
  | zero => intro l i p _ _; exact p.elim
  | succ m ih =>
    intro l i p hm hl
    rcases p with ⟨p1, p2⟩ | ⟨k, c, p1, p2⟩
    · cases p2
    · have hc : ∀ c' ∈ l ++ [c], ab_okC c' := fun c' h => by
        rcases List.mem_append.mp h with h | h
        · exact hl c' h
        · rw [List.mem_singleton.mp h]; exact PC_ok p1
      have lc := @la1 _ l c
      rcases p2 with ⟨q1, q2, q3⟩ | ⟨q1, q2, q3, q4⟩ | ⟨q1, q2, q3, q4⟩
      · cases q3
        exact ⟨by omega, hc⟩
      · cases q4
      · exact ih (l ++ [c]) (k + 1) q4 (by omega) hc
theorem ok_st (ok : gb_ok G) : gb_ok (gS_t G []) := ⟨ok.1, ok.2.1, ok.2.2.1, ok.2.2.2.1, Nat.zero_le _, (fun c hc => by cases hc), ok.2.2.2.2.2.2⟩
theorem gx_app (h : gx_ok (gb_s G) X) : gx_ok (gb_s G ++ [l]) X := by
  obtain ⟨h1, h2, h3, h4, h5, h6, h7⟩ := h
  refine ⟨h1, h2, h3, h4, h5, ?_, h7⟩
  cases hh : gx_h X with
  | none => rw [hh] at h6; exact h6
  | some q =>
    rw [hh] at h6
    exact ⟨by rw [la1]; have := h6.1; omega, h6.2.trans (ga_l h6.1).symm⟩
theorem ok_8 (ok : gb_ok G) (p : PS G v G2) : gb_ok G2 := by
  unfold PS at p
  by_cases h6 : (gb_s G).length = 6
  · rw [if_pos h6] at p
    rw [p.2]; exact ok
  · rw [if_neg h6] at p
    obtain ⟨j, o, p1, p2⟩ := p
    cases o with
    | none => rw [p2.2]; exact ok_st ok
    | some l =>
      rw [p2.2]
      have okl : ab_okS l := PL_ok 10 [] 0 p1 rfl (fun c hc => by cases hc)
      obtain ⟨⟨⟨o1, o2, o3, o4, o5, o6⟩, oD, h3, h4, h5, -, -⟩, k2, k3, k4, k5, k6, k7⟩ := ok
      refine ⟨⟨⟨o1, ?_, okl, o4, o5, o6⟩, oD, h3, h4, h5, ⟨by show (gb_s G).length < (gb_s G ++ [l]).length; rw [la1]; omega, ga_r.symm⟩, rfl⟩, fun Y hY => gx_app (k2 Y hY), by show (gb_s G ++ [l]).length ≤ 6; rw [la1]; omega, fun l2 hl2 => ?_, Nat.zero_le _, (fun c hc => by cases hc), k7⟩
      · exact ab_law_lt (fun c hc => (okl.2 c hc).2.1) (by decide)
      · rcases List.mem_append.mp hl2 with h | h
        · exact k4 l2 h
        · rw [List.mem_singleton.mp h]; exact okl
theorem sh_k (g : ∀ c j, kX k c j → mm_M T c j = mm_M S c j) (h18 : mm_M T 92 18 = mm_M S 92 18) {r : Option Nat} (hl : l.length ≤ 10) (hr : ∀ q, r = some q → q ≠ k) (hs : md_sh S r l) : md_sh T r l := by
  cases r with
  | none => exact ⟨h18.trans hs.1, hs.2⟩
  | some q =>
    have nq := hr q rfl
    obtain ⟨q1, q2, q3, q4⟩ := hs
    exact ⟨q1, h18.trans q2, (g _ _ (by unfold kX gp_k gp_x; omega)).trans q3, mcl_tr (fun c j _ _ _ _ => g c j (by unfold kX gp_k gp_x; omega)) (fun n hn => g _ _ (by unfold kX gp_k gp_x; omega)) (by omega) q4⟩
/-- the rest of an object, when a text was read -/
theorem RM_8 (ok : gb_ok G) (hR : RM S G) (hk : k ≤ 6) (g : ∀ c j, kX k c j → mm_M T c j = mm_M S c j) (gL : ∀ j, mm_L T 112 j = mm_L S 112 j) : md_D T (ab_kn (gP G)) (gD G) ∧ (mm_M T 92 0 = nI (ab_kn (gP G)) ∧ (∀ b, b < ab_kn (gP G) → mm_M T 93 b = nI (ab_ki (gP G) b) ∧ mm_M T 94 b = nI (ab_v (gP G) b) ∧ mm_M T 95 b = nI (ab_wo (gP G) b) ∧ mm_M T 96 b = md_fo (ab_fr (gP G) b)) ∧ ∀ i, i < 3 * ab_kn (gP G) → mm_M T 99 i = nI (ab_te (gP G) i)) ∧ mm_M T 92 14 = nI (gx_s G.1) ∧ mm_M T 92 15 = nI (gx_f G.1).length ∧ (∀ i, i < (gx_f G.1).length → mm_M T 101 i = nI ((gx_f G.1).getD i 0)) ∧ mm_M T 92 27 = -1 ∧ gm_i T (gb_i G) ∧ gm_p T (gb_p G) ∧ gm_r T (gb_r G) ∧ gm_c T := by
  obtain ⟨hw, ⟨⟨p1, p2, p3, -, -⟩, ⟨d1, d2, d3, d4, d5, d6, d7, d8⟩, h14, h15, hf, h18, h27⟩, hi, -, -, hp, hr, hc⟩ := hR
  have z : ∀ c j, (c = 92 ∧ j < 17) ∨ (c = 92 ∧ 19 ≤ j ∧ j < 26) ∨ (c = 92 ∧ 27 ≤ j ∧ j < 36) ∨ (c = 92 ∧ 41 ≤ j) ∨ (93 ≤ c ∧ c ≤ 101) ∨ (109 ≤ c ∧ c ≤ 115) ∨ 117 ≤ c → mm_M T c j = mm_M S c j := fun c j q => g c j (by unfold kX gp_k gp_x; omega)
  refine ⟨⟨(z _ _ (by omega)).trans d1, fun p hp => (z _ _ (by omega)).trans (d2 p hp), fun b hb => (z _ _ (by omega)).trans (d3 b hb), fun b hb => (z _ _ (by omega)).trans (d4 b hb), (z _ _ (by omega)).trans d5, (z _ _ (by omega)).trans d6, (z _ _ (by omega)).trans d7, (z _ _ (by omega)).trans d8⟩, ⟨(z _ _ (by omega)).trans p1, fun b hb => ?_, fun i hi => (z _ _ (by omega)).trans (p3 i hi)⟩, (z _ _ (by omega)).trans h14, (z _ _ (by omega)).trans h15, fun i hi => (z _ _ (by omega)).trans (hf i hi), (z _ _ (by omega)).trans h27, mt_i (fun c j q => z c j (by omega)) hi, mt_p (fun c j q => z c j (by omega)) gL hp, mt_r (fun c j q => ?_) hr, mt_c (fun c j q => z c j (by omega)) hc⟩
  · obtain ⟨q1, q2, q3, q4⟩ := p2 b hb
    exact ⟨(z _ _ (by omega)).trans q1, (z _ _ (by omega)).trans q2, (z _ _ (by omega)).trans q3, (z _ _ (by omega)).trans q4⟩
  · exact z c j (by omega)
theorem RM_t0 (ok : gb_ok G) (hR : RM S G) (hw : mm_W T) (g : ∀ c j, ¬ (gp_k c j ∨ (c = 92 ∧ j = 26)) → mm_M T c j = mm_M S c j) (gL : ∀ j, mm_L T 112 j = mm_L S 112 j) (h26 : mm_M T 92 26 = nI 0) : RM T (gS_t G []) := by
  have g6 : ∀ c j, kX 6 c j → mm_M T c j = mm_M S c j := fun c j q => g c j (fun z => q (z.elim Or.inl (fun y => Or.inr (Or.inl ⟨y.1, Or.inl y.2⟩))))
  obtain ⟨a1, ⟨a2, a3, a4⟩, a5, a6, a7, a8, a9, a10, a11, a12⟩ := RM_8 ok hR (Nat.le_refl 6) g6 gL
  have hl10 : (ab_sh (gP G)).length ≤ 10 := ok.1.1.2.2.1.1
  obtain ⟨-, ⟨⟨-, -, -, ⟨r, hr⟩, h27⟩, -, -, -, -, h18, -⟩, -, ⟨hs1, hs2⟩, -⟩ := hR
  have t18 : mm_M T 92 18 = mm_M S 92 18 := g _ _ (by unfold gp_k gp_x; omega)
  have t27 : mm_M T 92 27 = mm_M S 92 27 := g _ _ (by unfold gp_k gp_x; omega)
  refine ⟨hw, ⟨⟨a2, a3, a4, ⟨r, sh_k g6 t18 hl10 (fun q hq => ?_) hr⟩, by rw [t27]; exact h27⟩, a1, a5, a6, a7, t18.trans h18, a8⟩, a9, ⟨(g _ _ (by unfold gp_k gp_x; omega)).trans hs1, fun h hh => ?_⟩, ⟨h26, fun i hi => absurd hi (Nat.not_lt_zero _)⟩, a10, a11, a12⟩
  · rw [hq] at hr
    have := hr.1
    omega
  · have hh : h < (gb_s G).length := hh
    have hlen := ok.2.2.1
    have hok := ok.2.2.2.1 ((gb_s G).getD h []) (by rw [List.getD_eq_getElem?_getD, List.getElem?_eq_getElem hh]; exact List.getElem_mem hh)
    have hok1 : ((gb_s (gS_t G [])).getD h []).length ≤ 10 := hok.1
    exact ⟨(g _ _ (by unfold gp_k gp_x; omega)).trans (hs2 h hh).1, mcl_tr (fun c j _ _ _ _ => g c j (by unfold gp_k gp_x; omega)) (fun n hn => g _ _ (by unfold gp_k gp_x; omega)) (by omega) (hs2 h hh).2⟩
theorem m_8 (ok : gb_ok G) (hR : RM S G) (p : PS G v G2) : oM S (d + 7) 152 [.ref 92] (.int v) G2 := by
  have hw := hR.1
  have h17 : mm_M S 92 17 = nI (gb_s G).length := hR.2.2.2.1.1
  have hT : rt S (gb_t G) := ⟨hw, hR.2.2.2.2.1.1, hR.2.2.2.2.1.2, ok.2.2.2.2.1, ok.2.2.2.2.2.1, hR.2.2.2.2.2.2.2⟩
  have hl6 := ok.2.2.1
  unfold PS at p
  by_cases h6 : (gb_s G).length = 6
  · rw [if_pos h6] at p
    rw [p.1, p.2]
    refine oM_id hR ?_
    rw [e152, b152_0 (wx_o92 hw), h17, if_pos (by rw [h6]), b152_9]
  rw [if_neg h6] at p
  have hlt : (gb_s G).length < 6 := by omega
  obtain ⟨j, o, p1, p2⟩ := p
  obtain ⟨e1, e2⟩ := s151 (d := d) hT p1
  have st : mm_cl (d + 7) 152 [.ref 92] S = mm_bd (mm_cl (d + 6) 151 [.ref 92] S) (fun u S2 => mm_ex (d + 7) 152 16 [.ref 92, .null, .null] (u.toList ++ []) S2) := by
    rw [e152, b152_0 (wx_o92 hw), h17, if_neg (fun z => h6 ((nI_eq (by omega) (by omega)).mp z)), b152_12 (wx_k92 hw)]
  have g0 : ∀ {U : mm_S}, sf_f (fun c j => ¬ kX (gb_s G).length c j) S U → sf_f gm_0 S U := fun h => sf_mo h (fun c j q => by unfold kX gp_k gp_x at q; unfold gm_0; omega)
  cases o with
  | none =>
    obtain ⟨U, g1, g2⟩ := e1 rfl
    have wU := fk_W g2 hw
    have hj := PL_le 10 [] 0 p1 (Nat.zero_le _)
    have h100 := hT.2.2.2.1
    have jm : ¬ nI j = -1 := nI_m1 (by omega)
    rw [p2.1, p2.2]
    have fr : ∀ c j, ¬ (gp_k c j ∨ (c = 92 ∧ j = 26)) → mm_M (mm_uM U 92 26 (nI 0)) c j = mm_M S c j := fun c j hc => (rdn (fun z => hc (Or.inr z))).trans (g2.2.1 c j (fun z => hc (Or.inl z)))
    have eU := wM_u (c := 92) (j := 26) (x := nI 0) g2.1
    refine ⟨mm_uM U 92 26 (nI 0), ?_, RM_t0 ok hR wU fr (fun j => by rw [eU]; rfl) rds, ⟨fun c j hc => ⟨fr c j (fun z => hc (by unfold gp_k gp_x at z; unfold gm_0; omega)), by rw [eU]; rfl, by rw [eU]; rfl⟩, fun c _ => ⟨by rw [eU]; rfl, by rw [eU]; rfl⟩, by rw [eU]; exact Nat.le_refl _⟩, by rw [eU]; rfl, by rw [eU]; rfl⟩
    rw [st, g1, hp_bd, hp_ts, b152_16 (wx_o92 wU), if_neg jm, b152_27]
  | some l =>
    obtain ⟨U, C, g1, g2, g3, g4⟩ := e2 l rfl
    obtain ⟨k1, k2, k3, k4, k5⟩ := g2
    have wU := fk_W k1 hw
    rw [p2.1, p2.2]
    generalize hh : (gb_s G).length = h at *
    have m17 : mm_M (mm_uM U 92 26 (nI 0)) 92 17 = nI h := (rdn (by omega)).trans ((k1.2.1 _ _ (by unfold gp_k gp_x; omega)).trans h17)
    have m6 : mm_M (mm_uM U 92 26 (nI 0)) 102 6 = nI l.length := (rdn (by omega)).trans k4
    have w0 : mm_W (mm_uM U 92 26 (nI 0)) := wU
    have w1 : mm_W (mm_uM (mm_uM U 92 26 (nI 0)) 102 h (nI l.length)) := wU
    have st2 : mm_cl (d + 7) 152 [.ref 92] S = mm_ex (d + 7) 152 50 [.ref 92, .int (-1), .int (nI 0)] [] (mm_uM (mm_uM U 92 26 (nI 0)) 102 h (nI l.length)) := by
      rw [st, g1, hp_bd, hp_ts, b152_16 (wx_o92 wU), if_pos rfl, b152_32 (wx_o92 w0) (wx_s92_19 w0) (by rw [wx_g92_19 w0, wx_N102 w0]; rfl) (by rw [wx_g92_19 w0]; exact wx_a102 w0) (by rw [m17, wx_g92_19 w0, wx_N102 w0]; exact hp_inb (by omega) (by omega)), m17, wx_g92_19 w0, nI_clamp (by omega), show (nI 6).toNatClampNeg = 6 from rfl, m6]
    have q17 : mm_M (mm_uM (mm_uM U 92 26 (nI 0)) 102 h (nI l.length)) 92 17 = nI h := (rdn (by omega)).trans m17
    obtain ⟨V2, a1, a2, a3, a4⟩ := m152_a (d := d + 7) (x := -1) hlt w1 q17 10 0 _ rfl rfl (fun _ _ _ => rfl) (fun i hi => absurd hi (Nat.not_lt_zero _))
    have w2 : mm_W V2 := by rw [a2]; exact w1
    have r17 : mm_M V2 92 17 = nI h := (a3 _ _ (by omega)).trans q17
    obtain ⟨V3, b1, b2, b3, b4⟩ := m152_b (d := d + 7) (x := -1) hlt w2 r17 120 0 _ rfl rfl (fun _ _ _ => rfl) (fun i hi => absurd hi (Nat.not_lt_zero _))
    have w3 : mm_W V3 := by rw [b2]; exact w2
    have u17 : mm_M V3 92 17 = nI h := (b3 _ _ (by omega)).trans r17
    have w4 : mm_W (mm_uM V3 92 18 (nI h)) := w3
    have w5 : mm_W (mm_uM (mm_uM V3 92 18 (nI h)) 92 17 (nI (h + 1))) := w3
    have run : mm_cl (d + 7) 152 [.ref 92] S = some (some (.int (nI h)), mm_uM (mm_uM V3 92 18 (nI h)) 92 17 (nI (h + 1))) := by
      rw [st2, a1, b152_154, b1, b152_192 (wx_o92 w3), u17, b152_202 (wx_o92 w4) (wx_o92 w4), show mm_M (mm_uM V3 92 18 (nI h)) 92 17 = nI h from (rdn (by omega)).trans u17, nI_add, b152_211 (wx_o92 w5), show mm_M (mm_uM (mm_uM V3 92 18 (nI h)) 92 17 (nI (h + 1))) 92 18 = nI h from (rdn (by omega)).trans rds]
    have e1' : mm_uM (mm_uM U 92 26 (nI 0)) 102 h (nI l.length) = mm_wM S (mm_M (mm_uM (mm_uM U 92 26 (nI 0)) 102 h (nI l.length))) := wM_u (wM_u k1.1)
    have e2' : V2 = mm_wM S (mm_M V2) := by
      have e := a2
      rw [e1'] at e
      exact e
    have e3' : V3 = mm_wM S (mm_M V3) := by
      have e := b2
      rw [e2'] at e
      exact e
    have eV := wM_u (c := 92) (j := 17) (x := nI (h + 1)) (wM_u (c := 92) (j := 18) (x := nI h) e3')
    have fr : ∀ c j, kX h c j → mm_M (mm_uM (mm_uM V3 92 18 (nI h)) 92 17 (nI (h + 1))) c j = mm_M S c j := by
      intro c j q
      unfold kX at q
      rw [rdn (fun z => q (by omega)), rdn (fun z => q (by omega)), b3 c j (fun z => q (by omega)), a3 c j (fun z => q (by omega)), rdn (fun z => q (by omega)), rdn (fun z => q (by omega))]
      exact k1.2.1 c j (fun z => q (Or.inl z))
    have m18 : mm_M (mm_uM (mm_uM V3 92 18 (nI h)) 92 17 (nI (h + 1))) 92 18 = nI h := (rdn (by omega)).trans rds
    have m26 : mm_M (mm_uM (mm_uM V3 92 18 (nI h)) 92 17 (nI (h + 1))) 92 26 = nI 0 := (rdn (by omega)).trans ((rdn (by omega)).trans ((b3 _ _ (by omega)).trans ((a3 _ _ (by omega)).trans ((rdn (by omega)).trans rds))))
    have m102 : mm_M (mm_uM (mm_uM V3 92 18 (nI h)) 92 17 (nI (h + 1))) 102 h = nI l.length := (rdn (by omega)).trans ((rdn (by omega)).trans ((b3 _ _ (by omega)).trans ((a3 _ _ (by omega)).trans rds)))
    have hcl : md_cl (mm_uM (mm_uM V3 92 18 (nI h)) 92 17 (nI (h + 1))) h l 0 := by
      refine cq_mv (T := mm_uM (mm_uM U 92 26 (nI 0)) 102 h (nI l.length)) (B := C.length) (fun i hi => ?_) (fun n hn => ?_) (by omega) g3 (cq_tr (K := 10) (fun c j _ _ _ _ => (rdn (by omega)).trans (rdn (by omega))) (fun n _ => (rdn (by omega)).trans (rdn (by omega))) (by omega) (Nat.le_refl _) k5)
      · have := a4 i hi
        exact ⟨(rdn (by omega)).trans ((rdn (by omega)).trans ((b3 _ _ (by omega)).trans this.1)), (rdn (by omega)).trans ((rdn (by omega)).trans ((b3 _ _ (by omega)).trans this.2.1)), (rdn (by omega)).trans ((rdn (by omega)).trans ((b3 _ _ (by omega)).trans this.2.2.1)), (rdn (by omega)).trans ((rdn (by omega)).trans ((b3 _ _ (by omega)).trans this.2.2.2))⟩
      · exact (rdn (by omega)).trans ((rdn (by omega)).trans ((b4 n hn).trans (a3 _ _ (by omega))))
    obtain ⟨c1, ⟨c2, c3, c4⟩, c5, c6, c7, c8, c9, c10, c11, c12⟩ := RM_8 ok hR (show h ≤ 6 by omega) fr (fun j => by rw [eV]; rfl)
    obtain ⟨-, -, -, ⟨-, hs2⟩, -⟩ := hR
    refine ⟨_, run, ⟨w5, ⟨⟨c2, c3, c4, ⟨some h, hlt, m18, m102, hcl⟩, Or.inl ⟨c8, rfl⟩⟩, c1, c5, c6, c7, ?_, c8⟩, c9, ⟨?_, fun q hq => ?_⟩, ⟨m26, fun i hi => absurd hi (Nat.not_lt_zero _)⟩, c10, c11, c12⟩, ⟨fun c j hc => ⟨fr c j (by unfold gm_0 at hc; unfold kX gp_k gp_x; omega), by rw [eV]; rfl, by rw [eV]; rfl⟩, fun c _ => ⟨by rw [eV]; rfl, by rw [eV]; rfl⟩, by rw [eV]; exact Nat.le_refl _⟩, by rw [eV]; rfl, by rw [eV]; rfl⟩
    · show _ = gm_ho (some (gb_s G).length)
      rw [m18, hh]
      rfl
    · show _ = nI (gb_s G ++ [l]).length
      rw [rds, la1, hh]
    · have hq2 : q < (gb_s G ++ [l]).length := hq
      rw [la1, hh] at hq2
      show mm_M _ 102 q = nI ((gb_s G ++ [l]).getD q []).length ∧ md_cl _ q ((gb_s G ++ [l]).getD q []) 0
      by_cases qh : q = h
      · subst qh
        rw [← hh, ga_r]
        rw [hh]
        exact ⟨m102, hcl⟩
      · have hq3 : q < (gb_s G).length := by omega
        rw [ga_l hq3]
        have hok := ok.2.2.2.1 ((gb_s G).getD q []) (by rw [List.getD_eq_getElem?_getD, List.getElem?_eq_getElem hq3]; exact List.getElem_mem hq3)
        have hok1 : ((gb_s G).getD q []).length ≤ 10 := hok.1
        have hx := hs2 q (by omega)
        exact ⟨(fr _ _ (by unfold kX gp_k gp_x; omega)).trans hx.1, mcl_tr (fun c j _ _ _ _ => fr c j (by unfold kX gp_k gp_x; omega)) (fun n hn => fr _ _ (by unfold kX gp_k gp_x; omega)) (by omega) hx.2⟩
end MP9
