/-! ===== how the class reads: a clause ===== -/
def rK (S : mm_S) (s : Nat) (l : List ab_C) (j : Nat) (p : Option ab_C) (r : mm_Res) : Prop := match p with
  | none => ∃ U, r = some (some (.int (nI 0)), U) ∧ feK S s U j
  | some c => ∃ U C2, r = some (some (.int (nI 1)), U) ∧ ck S s U (l ++ [c]) C2 j ∧ C2.length ≤ j
section CP5
variable {S T U V : mm_S} {t : List Nat} {d i j k n q s m a e w N K : Nat} {x y : Int32} {C D : List ab_T} {o : Option (List ab_T)} {z : ab_T} {r : mm_Res} {l L : List ab_C} {c : ab_C} {p : Option ab_C}
theorem ck_f (hs : mm_sh s) (h : ck S s T l C i) (h2 : 2 ≤ w) (h6 : w < 6) : ck S s (mm_uM T s (w - 2) (nI (if w = 4 then min 9 n else n))) (l ++ [(w, n, [])]) C i := by
  obtain ⟨h1, ⟨f1, f2, f3, f4⟩, h3, h4, h5, h7⟩ := h
  have n73 := sh_n73 hs
  have el : cd_el (l ++ [(w, n, [])]) = cd_el l := by rw [el_1]; exact if_neg (show ¬ w < 2 by omega)
  refine ⟨k_tr h1 (k_u hs h1.2.2 (Nat.le_refl _) (by omega)), ⟨?_, ?_, ?_, ?_⟩, ?_, (rdn (by omega)).trans h4, fun n hn => (rdn (by omega)).trans (h5 n hn), ?_⟩
  · rw [law_1]
    show _ = nI (if w = 2 then n else ab_law l 2 1)
    by_cases e : w = 2
    · subst e; rw [if_pos rfl]; exact rds
    · rw [if_neg e, rdn (by omega)]; exact f1
  · rw [law_1]
    show _ = nI (if w = 3 then n else ab_law l 3 1)
    by_cases e : w = 3
    · subst e; rw [if_pos rfl]; exact rds
    · rw [if_neg e, rdn (by omega)]; exact f2
  · rw [law_1]
    show _ = nI (min 9 (if w = 4 then n else ab_law l 4 1))
    by_cases e : w = 4
    · subst e; rw [if_pos rfl]; exact rds
    · rw [rdn (by omega), if_neg e]; exact f3
  · rw [law_1]
    show _ = nI (if w = 5 then n else ab_law l 5 0)
    by_cases e : w = 5
    · subst e; rw [if_pos rfl]; exact rds
    · rw [if_neg e, rdn (by omega)]; exact f4
  · rw [el, rdn (by omega)]; exact h3
  · rw [el]
    exact ccl_tr (fun m a _ _ _ => rdn (by omega)) (fun a _ => rdn (by omega)) h7
theorem s41 (hT : ct S s t) (h : ck S s T l C i) (hl : l.length ≤ 9) (hC : C.length ≤ i) (hi : i ≤ t.length) : ∃ j p, PC t i j p ∧ rK S s l j p (mm_cl (d + 21) 41 [.ref 73] T) := by
  have hs := hT.2.1
  have n73 := sh_n73 hs
  have h100 := hT.2.2.2.2.2.1
  have T0 := k_t h.1 hT
  have hw := T0.1
  have hn := cs_lt (i := i) hT
  have st : ∀ q, q < 12 → pwq (ab_at (ps t i) pfl) = q → mm_cl (d + 21) 41 [.ref 73] T = mm_ex (d + 21) 41 14 [.ref 73, .int (nI (ps t i)), .ref (sta q), .null] [.int (if (stg q).length = 0 then nI 1 else nI 0)] T := by
    intro q hq e
    rw [e41, b41_0 (wx_k73 hw), s38 T0 h.1.2.2 (by omega), hp_bd, hp_ts, b41_4, s40 hn, hp_bd, hp_ts, e, b41_9 (st_k T0.2.2.1 hq), s213 T0.2.2.1 hq, hp_bd, hp_ts]
  cases ha : ab_at (ps t i) pfl with
  | none =>
    refine ⟨i, none, by unfold PC; rw [ha]; exact ⟨rfl, rfl⟩, T, ?_, h.1⟩
    rw [st 7 (by decide) (by rw [ha]; rfl), b41_14, if_pos (show (stg 7).length = 0 from rfl), if_neg i01, b41_25]
  | some w =>
    have hw6 : w < 6 := at_ln ha
    have hpw := at_some ha
    have sw := stg_w w hw6
    have n0 : ∀ w, w < 6 → 0 ∉ pws.getD w [] := by decide
    have st := st (w + 1) (by omega) (by rw [ha]; rfl)
    have nl : ¬ (stg (w + 1)).length = 0 := by omega
    rw [b41_14, if_neg nl, if_pos rfl, b41_17 (wx_k73 hw)] at st
    obtain ⟨U1, g1, g2⟩ := s39 (d := d + 16) (q := w + 1) (by omega) T0 h.1.2.2 (by omega)
    change mm_cl (d + 20) 39 _ _ = _ at g1
    rw [sw.1] at g1 g2
    rw [g1, hp_bd, hp_ts, b41_22] at st
    have k1 := ck_36 hs h g2
    have ple := (@pw_le t (pws.getD w []) i (n0 w hw6)).2 hi
    have ple0 := (@pw_le t (pws.getD w []) i (n0 w hw6)).1
    by_cases b1 : (pw t (pws.getD w []) i).2 = true
    · rw [if_pos b1, if_neg i01] at st
      have T1 := k_t k1.1 hT
      obtain ⟨U2, g3, g4⟩ := s46 (d := d + 20) T1 k1.1.2.2 (by omega)
      have k2 := ck_36 hs k1 g4
      have T2 := k_t k2.1 hT
      have w2 := T2.1
      have nle := @pnu_le t (pw t (pws.getD w []) i).1
      rw [b41_27 (wx_k73 T1.1), g3, hp_bd, hp_ts, b41_31] at st
      cases hnn : (pnu t (pw t (pws.getD w []) i).1).2 with
      | none =>
        rw [hnn, if_neg (show ¬ nI 0 ≤ pmo none by decide), b41_36] at st
        refine ⟨(pnu t (pw t (pws.getD w []) i).1).1, none, ?_, U2, st, k2.1⟩
        unfold PC
        rw [ha]
        simp only
        rw [if_neg (by rw [b1]; decide), hnn]
        first
          | exact ⟨rfl, rfl⟩
          | exact ⟨trivial, trivial⟩
      | some n =>
        have hn1 := (pnu_n hnn).1
        rw [hnn, show pmo (some n) = nI n from rfl, if_pos (nI_le (Nat.zero_le _) (by omega)), b41_38] at st
        have pcn : ∀ {j : Nat} {p : Option ab_C}, (if w < 2 then (if ps t (pnu t (pw t (pws.getD w []) i).1).1 = 32 then ∃ o', PE t 2 0 ((pnu t (pw t (pws.getD w []) i).1).1 + 1) j o' ∧ p = o'.map (fun c => (w, n, c)) else j = (pnu t (pw t (pws.getD w []) i).1).1 ∧ p = none) else j = (pnu t (pw t (pws.getD w []) i).1).1 ∧ p = some (w, n, [])) → PC t i j p := by
          intro j p hp
          unfold PC
          rw [ha]
          simp only
          rw [if_neg (by rw [b1]; decide), hnn]
          exact hp
        have RU := T2.2.2.2.2.2.2.2
        by_cases b3 : w < 2
        · have st88 : mm_cl (d + 21) 41 [.ref 73] T = mm_ex (d + 21) 41 88 [.ref 73, .int (nI (ps t i)), .ref (sta (w + 1)), .int (nI n)] [] U2 := by
            rw [st, b41_39]
            rcases (by omega : w = 0 ∨ w = 1) with rfl | rfl
            · have e : ps t i = 109 := hpw.2.symm
              rw [e, if_neg (by decide), if_neg (by decide), if_neg (by decide), if_pos rfl]
            · have e : ps t i = 99 := hpw.2.symm
              rw [e, if_neg (by decide), if_pos rfl]
          generalize (pnu t (pw t (pws.getD w []) i).1).1 = b at *
          obtain ⟨U3, f1, f2⟩ := s39 (d := d + 16) (q := 8) (by decide) T2 k2.1.2.2 (by omega)
          change mm_cl (d + 20) 39 [.ref 73, .ref 1000016] _ = _ at f1
          have epw : pw t (stg 8) b = if ps t b = 32 then (b + 1, true) else (b, false) := rfl
          rw [epw] at f1 f2
          rw [b41_88 (wx_k73 w2), f1, hp_bd, hp_ts, b41_94] at st88
          have k3 := ck_36 hs k2 f2
          by_cases b4 : ps t b = 32
          · rw [if_pos b4] at k3 st88
            rw [if_pos rfl, if_neg i01] at st88
            have bl : b < t.length := ps_in (by omega)
            have T3 := k_t k3.1 hT
            obtain ⟨⟨z1, z2, z3⟩, ⟨f1', f2', f3', f4'⟩, k8, k9, kc, kcl⟩ := k3
            have E3 : ce U3 s U3 C (b + 1) := ⟨⟨rfl, fun _ _ _ => rfl, z3⟩, k9, kc⟩
            obtain ⟨j, o, p1, p2⟩ := s42 (d := d) T3 E3 (by omega) (by omega)
            have hle := PE_le p1
            rw [b41_97 (wx_k73 T3.1)] at st88
            refine ⟨j, o.map (fun c => (w, n, c)), pcn (by rw [if_pos b3, if_pos b4]; exact ⟨o, p1, rfl⟩), ?_⟩
            cases o with
            | none =>
              obtain ⟨U4, q1, q2⟩ := p2
              refine ⟨U4, ?_, k_tr ⟨z1, z2, z3⟩ (k_E q2)⟩
              rw [st88, q1, hp_bd, hp_ts, b41_102, if_pos rfl, b41_105]
            | some c =>
              obtain ⟨U4, ⟨q1, q2⟩⟩ := p2
              have hcl := hle.2.2 c rfl
              have cl : (C ++ c).length = C.length + c.length := List.length_append
              have jl := hle.2.1 (by omega)
              have kU4 : feK S s U4 j := k_tr ⟨z1, z2, z3⟩ (k_E q2.1)
              have T4 := k_t kU4 hT
              have R4 := T4.2.2.2.2.2.2.2
              have gg := q2.1.2.1
              have elK : (cd_el l).length ≤ 9 := Nat.le_trans (List.length_filter_le _ _) hl
              have m8 : mm_M U4 s 8 = nI (cd_el l).length := (gg _ _ (by unfold gE; omega)).trans k8
              have k51 := s51 (d := d + 20) (x := nI w) (y := nI n) hT kU4 m8 (by omega) q2.2.1
              have fin : mm_cl (d + 21) 41 [.ref 73] T = some (some (.int (nI 1)), mm_uM (mm_uM (mm_uM (mm_uM U4 (s + 1) (cd_el l).length (nI w)) (s + 2) (cd_el l).length (nI n)) (s + 3) (cd_el l).length (nI (C ++ c).length)) s 8 (nI ((cd_el l).length + 1))) := by
                rw [st88, q1, hp_bd, hp_ts, b41_102, if_neg i01, b41_107 (wx_o73 T4.1) (hp_rs R4), hp_rg R4]
                rcases (by omega : w = 0 ∨ w = 1) with rfl | rfl
                · have e : ps t i = 109 := hpw.2.symm
                  rw [if_pos (by rw [e]), b41_117 (ws_k T4.1 hs), k51, hp_bd, hp_tn, b41_126]
                · have e : ps t i = 99 := hpw.2.symm
                  rw [if_neg (by rw [e]; decide), b41_121 (ws_k T4.1 hs), k51, hp_bd, hp_tn, b41_126]
              have el : cd_el (l ++ [(w, n, c)]) = cd_el l ++ [(w, n, c)] := by rw [el_1]; exact if_pos b3
              have v1 : feK S s (mm_uM U4 (s + 1) (cd_el l).length (nI w)) j := k_tr kU4 (k_u hs kU4.2.2 (by omega) (by omega))
              have v2 : feK S s (mm_uM (mm_uM U4 (s + 1) (cd_el l).length (nI w)) (s + 2) (cd_el l).length (nI n)) j := k_tr v1 (k_u hs v1.2.2 (by omega) (by omega))
              have v3 : feK S s (mm_uM (mm_uM (mm_uM U4 (s + 1) (cd_el l).length (nI w)) (s + 2) (cd_el l).length (nI n)) (s + 3) (cd_el l).length (nI (C ++ c).length)) j := k_tr v2 (k_u hs v2.2.2 (by omega) (by omega))
              have v4 : feK S s (mm_uM (mm_uM (mm_uM (mm_uM U4 (s + 1) (cd_el l).length (nI w)) (s + 2) (cd_el l).length (nI n)) (s + 3) (cd_el l).length (nI (C ++ c).length)) s 8 (nI ((cd_el l).length + 1))) j := k_tr v3 (k_u hs v3.2.2 (by omega) (by omega))
              have rr : ∀ m a, ¬ ((s + 1 ≤ m ∧ m ≤ s + 3 ∧ a = (cd_el l).length) ∨ (m = s ∧ a = 8)) → mm_M (mm_uM (mm_uM (mm_uM (mm_uM U4 (s + 1) (cd_el l).length (nI w)) (s + 2) (cd_el l).length (nI n)) (s + 3) (cd_el l).length (nI (C ++ c).length)) s 8 (nI ((cd_el l).length + 1))) m a = mm_M U4 m a := fun m a h => (rdn (by omega)).trans ((rdn (by omega)).trans ((rdn (by omega)).trans (rdn (by omega))))
              have lw : ∀ y z, 2 ≤ y → ab_law (l ++ [(w, n, c)]) y z = ab_law l y z := fun y z hy => by rw [law_1]; exact if_neg (show ¬ w = y by omega)
              refine ⟨_, C ++ c, fin, ⟨v4, ⟨?_, ?_, ?_, ?_⟩, ?_, ?_, fun a ha => ?_, ?_⟩, by omega⟩
              · rw [rr _ _ (by omega), lw 2 1 (by decide), gg _ _ (by unfold gE; omega)]; exact f1'
              · rw [rr _ _ (by omega), lw 3 1 (by decide), gg _ _ (by unfold gE; omega)]; exact f2'
              · rw [rr _ _ (by omega), lw 4 1 (by decide), gg _ _ (by unfold gE; omega)]; exact f3'
              · rw [rr _ _ (by omega), lw 5 0 (by decide), gg _ _ (by unfold gE; omega)]; exact f4'
              · rw [rds, el, la1]
              · rw [rr _ _ (by omega)]; exact q2.2.1
              · rw [rr _ _ (by omega)]; exact q2.2.2 a ha
              · rw [el, la1]
                refine Eq.mp (congrArg (fun z => cd_cl _ s (cd_el l ++ [(w, n, c)]) 0 0 ((cd_el l).length + 1) z) cl.symm) ?_
                refine ccl_app (c := (w, n, c)) (ccl_tr (fun m a h1 h2 h3 => (rr _ _ (by omega)).trans (gg _ _ (by unfold gE; omega))) (fun a ha => ?_) kcl) ?_ ?_ ?_ ?_
                · rw [rr _ _ (by omega), q2.2.2 a (by omega), ga_l ha]
                  exact (kc a ha).symm
                · exact (rdn (by omega)).trans ((rdn (by omega)).trans ((rdn (by omega)).trans rds))
                · exact (rdn (by omega)).trans ((rdn (by omega)).trans rds)
                · rw [rdn (by omega), rds]
                  exact congrArg nI cl
                · exact cco_of (fun a ha => (rr _ _ (by omega)).trans (q2.2.2 a ha))
          · rw [if_neg b4] at k3 st88
            refine ⟨b, none, pcn (by rw [if_pos b3, if_neg b4]; exact ⟨rfl, rfl⟩), U3, ?_, k3.1⟩
            rw [st88, if_neg (show ¬ (b, false).2 = true from fun z => by cases z), if_pos rfl, b41_105]
        · have fin : mm_cl (d + 21) 41 [.ref 73] T = some (some (.int (nI 1)), mm_uM U2 s (w - 2) (nI (if w = 4 then min 9 n else n))) := by
            have hso := ws_o w2 hs
            rw [st, b41_39]
            rcases (by omega : w = 2 ∨ w = 3 ∨ w = 4 ∨ w = 5) with rfl | rfl | rfl | rfl
            · have e : ps t i = 117 := hpw.2.symm
              rw [e, if_neg (by decide), if_neg (by decide), if_neg (by decide), if_neg (by decide), if_pos rfl, b41_128 (wx_o73 w2) (hp_rs RU) (by rw [hp_rg RU]; exact hso), hp_rg RU]
              rfl
            · have e : ps t i = 100 := hpw.2.symm
              rw [e, if_neg (by decide), if_neg (by decide), if_pos rfl, b41_138 (wx_o73 w2) (hp_rs RU) (by rw [hp_rg RU]; exact hso), hp_rg RU]
              rfl
            · have e : ps t i = 97 := hpw.2.symm
              have em : (if nI 9 < nI n then nI 9 else nI n) = nI (min 9 n) := by
                by_cases q : 9 < n
                · rw [if_pos (nI_lt q (by omega)), show min 9 n = 9 by omega]
                · rw [if_neg (nI_nlt (by omega) (by omega)), show min 9 n = n by omega]
              rw [e, if_pos rfl, b41_148 (wx_o73 w2) (hp_rs RU) (by rw [hp_rg RU]; exact hso), hp_rg RU, em]
              rfl
            · have e : ps t i = 102 := hpw.2.symm
              rw [e, if_neg (by decide), if_neg (by decide), if_neg (by decide), if_neg (by decide), if_neg (by decide), b41_163 (wx_o73 w2) (hp_rs RU) (by rw [hp_rg RU]; exact hso), hp_rg RU]
              rfl
          exact ⟨_, some (w, n, []), pcn (by rw [if_neg b3]; exact ⟨rfl, rfl⟩), _, C, fin, ck_f hs k2 (by omega) hw6, by omega⟩
    · have b1f : (pw t (pws.getD w []) i).2 = false := by
        cases h : (pw t (pws.getD w []) i).2 with
        | true => exact absurd h b1
        | false => rfl
      rw [if_neg b1, if_pos rfl, b41_25] at st
      refine ⟨(pw t (pws.getD w []) i).1, none, ?_, U1, st, k1.1⟩
      unfold PC
      rw [ha]
      simp only
      rw [if_pos b1f]
      first
        | exact ⟨rfl, rfl⟩
        | exact ⟨trivial, trivial⟩
end CP5
