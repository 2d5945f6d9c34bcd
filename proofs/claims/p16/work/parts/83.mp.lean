/-! ===== how the reference reads: a test, and the steps of an E ===== -/
section MP3
variable {S T U V : mm_S} {t : List Nat} {d i j k n c q s : Nat} {x y : Int32} {W W0 A B Q : List Nat} {C : List ab_T} {e : ab_T} {v : Value}
theorem at_iff : ∀ {l : List Nat} {k x : Nat}, l.Nodup → k < l.length → (x = l.getD k 0 ↔ ab_at x l = some k) := by
  intro l
  induction l with
  | nil => intro k x _ h; exact absurd h (Nat.not_lt_zero _)
  | cons y l ih =>
    intro k x hn hk
    rw [List.nodup_cons] at hn
    unfold ab_at
    cases k with
    | zero =>
      show x = y ↔ _
      by_cases e : y = x
      · rw [if_pos e]; exact ⟨fun _ => rfl, fun _ => e.symm⟩
      · rw [if_neg e]
        refine ⟨fun z => absurd z.symm e, fun z => ?_⟩
        cases h : ab_at x l with
        | none => rw [h] at z; cases z
        | some m => rw [h] at z; cases z
    | succ k =>
      show x = l.getD k 0 ↔ _
      have hk2 : k < l.length := Nat.lt_of_succ_lt_succ hk
      have h := @ih k x hn.2 hk2
      by_cases e : y = x
      · rw [if_pos e]
        refine ⟨fun z => ?_, fun z => by cases z⟩
        exfalso
        apply hn.1
        rw [e, z, List.getD_eq_getElem?_getD, List.getElem?_eq_getElem hk2]
        exact List.getElem_mem hk2
      · rw [if_neg e, h]
        cases h2 : ab_at x l with
        | none => exact ⟨(fun z => by cases z), (fun z => by cases z)⟩
        | some m => exact ⟨(fun z => by cases z; rfl), (fun z => by cases z; rfl)⟩
theorem lv_s {o : Option Nat} : lv o (k + 1) = if o = some k then nI k else lv o k := by
  cases o with
  | none => rw [if_neg (by simp)]; rfl
  | some l =>
    show (if l < k + 1 then nI l else -1) = if some l = some k then nI k else (if l < k then nI l else -1)
    by_cases h : l = k
    · rw [h, if_pos (by omega), if_pos rfl]
    · rw [if_neg (show ¬ some l = some k from fun z => h (Option.some.inj z))]
      by_cases h2 : l < k
      · rw [if_pos h2, if_pos (by omega)]
      · rw [if_neg h2, if_neg (by omega)]
theorem lv_z {o : Option Nat} : lv o 0 = -1 := by
  cases o with
  | none => rfl
  | some l =>
    show (if l < 0 then nI l else -1) = -1
    exact if_neg (Nat.not_lt_zero l)
theorem lv_e {o : Option Nat} (h : ∀ l, o = some l → l < k) : lv o k = pmo o := by
  cases o with
  | none => rfl
  | some l => exact if_pos (h l rfl)
theorem s145_l (hT : rt T t) (h : mm_M T 92 36 = nI i) (hi : i < 2 ^ 20) : ∀ (q k : Nat), k + q = 7 → mm_ex (d + 1) 145 4 [.ref 92, .int (lv (ab_at (ps t i) plt) k), .int (nI k), .null] [] T = mm_ex (d + 1) 145 35 [.ref 92, .int (pmo (ab_at (ps t i) plt)), .int (nI 7), .null] [] T := by
  have hw := hT.1
  intro q
  induction q with
  | zero =>
    intro k hk
    have e : k = 7 := by omega
    subst e
    rw [b145_4, if_pos (by decide), lv_e (k := 7) (fun l hl => (at_ln hl : l < plt.length))]
  | succ q ih =>
    intro k hk
    have hk7 : k < 7 := by omega
    have h115 : mm_M T 115 k = nI (plt.getD k 0) := hT.2.2.2.2.2.2.2 k hk7
    have pb : ∀ k, k < 7 → 0 < plt.getD k 0 ∧ plt.getD k 0 < 128 := by
      intro k hk
      rcases (by omega : k = 0 ∨ k = 1 ∨ k = 2 ∨ k = 3 ∨ k = 4 ∨ k = 5 ∨ k = 6) with rfl | rfl | rfl | rfl | rfl | rfl | rfl <;> decide
    have hp := pb k hk7
    have st : mm_ex (d + 1) 145 4 [.ref 92, .int (lv (ab_at (ps t i) plt) k), .int (nI k), .null] [] T = if ab_at (ps t i) plt = some k then mm_ex (d + 1) 145 23 [.ref 92, .int (lv (ab_at (ps t i) plt) k), .int (nI k), .null] [] T else mm_ex (d + 1) 145 27 [.ref 92, .int (lv (ab_at (ps t i) plt) k), .int (nI k), .null] [] T := by
      rw [b145_4, if_neg (nI_ge (by omega) (by omega)), b145_10 (wx_k92 hw), s139 hT h hi, hp_bd, hp_ts, b145_14 (wx_o92 hw) (wx_s92_35 hw) (by rw [wx_g92_35 hw, wx_N115 hw]; exact hp_inb hk7 (by omega)) (by rw [wx_g92_35 hw]; exact wx_a115 hw), wx_g92_35 hw, nI_clamp (by omega), h115]
      simp only [sg_eq hT hp.1 hp.2, @at_iff plt k (ps t i) (by decide) hk7]
    have hih := ih (k + 1) (by omega)
    rw [lv_s] at hih
    rw [st]
    by_cases z : ab_at (ps t i) plt = some k
    · rw [if_pos z] at hih
      rw [if_pos z, b145_23, nI_add]
      exact hih
    · rw [if_neg z] at hih
      rw [if_neg z, b145_27, nI_add]
      exact hih
theorem s145 (h : rq S T W C i) (hT : rt S t) (hi : i ≤ 100) (hc : C.length < 119) : ∃ U, mm_cl (d + 3) 145 [.ref 92] T = some (some (.int (if (pte t i).2 = none then nI 0 else nI 1)), U) ∧ (∀ x, (pte t i).2 = some x → rq S U W (C ++ [x]) (pte t i).1) ∧ ((pte t i).2 = none → rq S U W C (pte t i).1) := by
  have hS := hT.1
  have hT1 := rq_t h hT
  have hw := hT1.1
  have h36 := h.2.2.1
  have l1 := s145_l (d := d + 2) hT1 h36 (by omega) 7 0 rfl
  rw [lv_z] at l1
  have st : mm_cl (d + 3) 145 [.ref 92] T = mm_ex (d + 3) 145 35 [.ref 92, .int (pmo (ab_at (ps t i) plt)), .int (nI 7), .null] [] T := by
    rw [e145, b145_0]
    exact l1
  unfold pte
  cases ha : ab_at (ps t i) plt with
  | none =>
    refine ⟨T, ?_, (fun x hx => by cases hx), fun _ => h⟩
    rw [st, ha, b145_35, if_pos (show pmo none = -1 from rfl), b145_40]
    rfl
  | some l =>
    have hl7 : l < 7 := at_ln ha
    simp only
    have w1 : mm_W (mm_uM T 92 36 (nI (i + 1))) := hw
    have r1 : r36 T (mm_uM T 92 36 (nI (i + 1))) (i + 1) := r_w
    have q1 := rq_36 h r1
    have T1 := rq_t q1 hT
    have pb : ∀ k, k < 3 → 0 < prl.getD k 0 ∧ prl.getD k 0 < 128 := by
      intro k hk
      rcases (by omega : k = 0 ∨ k = 1 ∨ k = 2) with rfl | rfl | rfl <;> decide
    have s1 := s139 (d := d + 2) T1 q1.2.2.1 (by omega)
    have eqs : ∀ k, k < 3 → (sg t (i + 1) = nI (prl.getD k 0)) = (ab_at (ps t (i + 1)) prl = some k) := fun k hk => (sg_eq hT (pb k hk).1 (pb k hk).2).trans (propext (at_iff (by decide) hk))
    have q60 : (sg t (i + 1) = nI 60) = (ab_at (ps t (i + 1)) prl = some 0) := eqs 0 (by decide)
    have q61 : (sg t (i + 1) = nI 61) = (ab_at (ps t (i + 1)) prl = some 1) := eqs 1 (by decide)
    have q62 : (sg t (i + 1) = nI 62) = (ab_at (ps t (i + 1)) prl = some 2) := eqs 2 (by decide)
    have st2 : mm_cl (d + 3) 145 [.ref 92] T = if pmo (ab_at (ps t (i + 1)) prl) = -1 then mm_ex (d + 3) 145 98 [.ref 92, .int (nI l), .int (pmo (ab_at (ps t (i + 1)) prl)), .null] [] (mm_uM T 92 36 (nI (i + 1))) else mm_ex (d + 3) 145 100 [.ref 92, .int (nI l), .int (pmo (ab_at (ps t (i + 1)) prl)), .null] [] (mm_uM T 92 36 (nI (i + 1))) := by
      rw [st, ha, b145_35, if_neg (show ¬ pmo (some l) = -1 from nI_m1 (by omega)), b145_42 (wx_o92 hw) (wx_k92 hw), h36, nI_add, s1, hp_bd, hp_ts, b145_56]
      simp only [q60]
      cases hr : ab_at (ps t (i + 1)) prl with
      | none =>
        rw [if_neg (by simp), b145_65 (wx_k92 w1), s1, hp_bd, hp_ts, b145_69]
        simp only [q61, hr]
        rw [if_neg (by simp), b145_78 (wx_k92 w1), s1, hp_bd, hp_ts, b145_82]
        simp only [q62, hr]
        rw [if_neg (by simp), b145_91]
        rfl
      | some r =>
        have hr3 : r < 3 := at_ln hr
        rcases (by omega : r = 0 ∨ r = 1 ∨ r = 2) with rfl | rfl | rfl
        · rw [if_pos rfl, b145_61]
          rfl
        · rw [if_neg (by simp), b145_65 (wx_k92 w1), s1, hp_bd, hp_ts, b145_69]
          simp only [q61, hr]
          rw [if_pos trivial, b145_74]
          rfl
        · rw [if_neg (by simp), b145_65 (wx_k92 w1), s1, hp_bd, hp_ts, b145_69]
          simp only [q61, hr]
          rw [if_neg (by simp), b145_78 (wx_k92 w1), s1, hp_bd, hp_ts, b145_82]
          simp only [q62, hr]
          rw [if_pos trivial, b145_87]
          rfl
    cases hr : ab_at (ps t (i + 1)) prl with
    | none =>
      refine ⟨mm_uM T 92 36 (nI (i + 1)), ?_, (fun x hx => by cases hx), fun _ => q1⟩
      rw [st2, hr, if_pos (show pmo none = -1 from rfl), b145_98]
      rfl
    | some r =>
      have hr3 : r < 3 := at_ln hr
      simp only
      have w2 : mm_W (mm_uM (mm_uM T 92 36 (nI (i + 1))) 92 36 (nI (i + 2))) := hw
      have q2 := rq_36 q1 (r_w (T := mm_uM T 92 36 (nI (i + 1))) (i := i + 2))
      have T2 := rq_t q2 hT
      obtain ⟨U, g1, g2⟩ := s142 (d := d) T2 q2.2.2.1 (by omega)
      have q3 := rq_36 q2 g2
      have wU := rq_W q3 hS
      have st3 : mm_cl (d + 3) 145 [.ref 92] T = if pmo (pnu t (i + 2)).2 = -1 then mm_ex (d + 3) 145 120 [.ref 92, .int (nI l), .int (nI r), .int (pmo (pnu t (i + 2)).2)] [] U else mm_ex (d + 3) 145 122 [.ref 92, .int (nI l), .int (nI r), .int (pmo (pnu t (i + 2)).2)] [] U := by
        rw [st2, hr, if_neg (show ¬ pmo (some r) = -1 from nI_m1 (by omega)), b145_100 (wx_o92 w1) (wx_k92 w1), q1.2.2.1, nI_add, g1, hp_bd, hp_ts, show pmo (some r) = nI r from rfl, b145_114]
      cases hn : (pnu t (i + 2)).2 with
      | none =>
        refine ⟨U, ?_, (fun x hx => by cases hx), fun _ => q3⟩
        rw [st3, hn, if_pos (show pmo none = -1 from rfl), b145_120]
        rfl
      | some n =>
        have hn1 := (pnu_n hn).1
        obtain ⟨V, g3, g4⟩ := s144 (d := d + 2) (e := Sum.inl (l, r, n)) q3 hS (by omega)
        refine ⟨V, ?_, fun x hx => by cases hx; exact g4, fun z => by cases z⟩
        have e : nI 1000 * (nI 1 + nI 3 * nI l + nI r) + nI n = md_en (Sum.inl (l, r, n)) := by
          rw [nI_mul, nI_add, nI_add, nI_mul, nI_add]
          rfl
        rw [st3, hn, if_neg (show ¬ pmo (some n) = -1 from nI_m1 (by omega)), show pmo (some n) = nI n from rfl, b145_122 (wx_k92 wU), e, g3, hp_bd, hp_tn, b145_139]
        rfl
/-- an operator: what binds as much goes, and it waits -/
theorem m149_op (h : rq S T (W ++ Q.reverse) C j) (hT : rt S t) (hs : s < 2) (hj : ps t j = pch s) (hW : ∀ p, p + 1 = W.length → W.getD p 0 < 2 - s) (hQ : ∀ q ∈ Q, 2 - s ≤ q ∧ q < 3) (hj2 : j ≤ 100) (hl : (W ++ Q.reverse).length + C.length ≤ 100) : ∃ U v2, mm_ex (d + 4) 149 12 [.ref 92, .int (nI 0), v] [] T = mm_ex (d + 4) 149 12 [.ref 92, .int (nI 1), v2] [] U ∧ rq S U (W ++ [2 - s]) (C ++ pcs Q) (j + 1) := by
  have hS := hT.1
  have hT1 := rq_t h hT
  have hw := hT1.1
  have hl2 : W.length + Q.length + C.length ≤ 100 := by rw [List.length_append, List.length_reverse] at hl; exact hl
  obtain ⟨U, g1, g2⟩ := s147 (d := d + 2) hS (m := 2 - s) (by omega) hW Q T C hQ h (by omega) (by omega)
  have wU := rq_W g2 hS
  have g1 : mm_cl (d + 3) 147 [.ref 92, .int (nI (2 - s))] T = some (none, U) := by rw [e147]; exact g1
  obtain ⟨u1, u2, u3, u4, u5, u6, u7, u8⟩ := g2
  have e38 := @sg_eq S t j 38 hT (by decide) (by decide)
  have e124 := @sg_eq S t j 124 hT (by decide) (by decide)
  have hb : mm_inb (nI W.length) 110 = true := hp_inb (by omega) (by omega)
  have w1 : mm_W (mm_uM U 116 W.length (nI (2 - s))) := wU
  have w2 : mm_W (mm_uM (mm_uM U 116 W.length (nI (2 - s))) 92 39 (nI (W.length + 1))) := wU
  have st0 : mm_ex (d + 4) 149 12 [.ref 92, .int (nI 0), v] [] T = mm_ex (d + 4) 149 71 [.ref 92, .int (nI 0), .int (sg t j)] [] T := by
    rw [b149_12 (wx_k92 hw), s139 hT1 h.2.2.1 (by omega), hp_bd, hp_ts, b149_16, if_pos rfl]
  have st : mm_ex (d + 4) 149 12 [.ref 92, .int (nI 0), v] [] T = mm_ex (d + 4) 149 120 [.ref 92, .int (nI 0), .int (sg t j)] [.ref 92, .ref 92] (mm_uM U 116 W.length (nI (2 - s))) := by
    rcases (by omega : s = 0 ∨ s = 1) with rfl | rfl
    · have hj' : ps t j = 38 := hj
      have p38 : sg t j = nI 38 := by rw [e38]; exact hj'
      rw [st0, b149_71, if_pos p38, b149_83, if_pos p38, b149_90 (wx_k92 hw), show nI 2 = nI (2 - 0) from rfl, g1, hp_bd, hp_tn, b149_98 (wx_o92 wU) (wx_s92_38 wU), if_pos p38, u6, wx_g92_38 wU, b149_112 (wx_a116 wU) (by rw [wx_N116 wU]; exact hb), nI_clamp (by omega)]
    · have hj' : ps t j = 124 := hj
      have p124 : sg t j = nI 124 := by rw [e124]; exact hj'
      have n38 : ¬ sg t j = nI 38 := by rw [e38]; omega
      rw [st0, b149_71, if_neg n38, b149_77, if_pos p124, b149_83, if_neg n38, b149_94 (wx_k92 hw), show nI 1 = nI (2 - 1) from rfl, g1, hp_bd, hp_tn, b149_98 (wx_o92 wU) (wx_s92_38 wU), if_neg n38, u6, wx_g92_38 wU, b149_116 (wx_a116 wU) (by rw [wx_N116 wU]; exact hb), nI_clamp (by omega)]
  refine ⟨mm_uM (mm_uM (mm_uM U 116 W.length (nI (2 - s))) 92 39 (nI (W.length + 1))) 92 36 (nI (j + 1)), .int (sg t j), ?_, wM_u (wM_u (wM_u u1)), fun c j hc => (rdn (fun z => hc (by unfold gp_x; omega))).trans ((rdn (fun z => hc (by unfold gp_x; omega))).trans ((rdn (fun z => hc (by unfold gp_x; omega))).trans (u2 c j hc))), rds, (rdn (by omega)).trans ((rdn (by omega)).trans ((rdn (by omega)).trans u4)), fun n hn => (rdn (by omega)).trans ((rdn (by omega)).trans ((rdn (by omega)).trans (u5 n hn))), ?_, ?_, fun p hp => ?_⟩
  · rw [st, b149_120 (wx_o92 w1) (wx_o92 w1), show mm_M (mm_uM U 116 W.length (nI (2 - s))) 92 39 = nI W.length from (rdn (by omega)).trans u6, nI_add, b149_130 (wx_o92 w2) (wx_o92 w2), show mm_M (mm_uM (mm_uM U 116 W.length (nI (2 - s))) 92 39 (nI (W.length + 1))) 92 36 = nI j from (rdn (by omega)).trans ((rdn (by omega)).trans u3), nI_add]
  · rw [la1]
    exact (rdn (by omega)).trans rds
  · rw [opn_1, if_neg (by omega)]
    exact (rdn (by omega)).trans ((rdn (by omega)).trans ((rdn (by omega)).trans u7))
  · rw [la1] at hp
    rw [rdn (by omega), rdn (by omega)]
    by_cases z2 : p = W.length
    · rw [z2, rds, ga_r]
    · rw [rdn (by omega), ga_l (by omega)]
      exact u8 p (by omega)
/-- no more of it -/
theorem m149_end (h : rq S T (W ++ Q.reverse) C j) (hT : rt S t) (h1 : ps t j ≠ 38) (h2 : ps t j ≠ 124) (h3 : ps t j ≠ 41 ∨ opn (W ++ Q.reverse) = 0) (hW : ∀ p, p + 1 = W.length → W.getD p 0 < 1) (hQ : ∀ q ∈ Q, 1 ≤ q ∧ q < 3) (hj2 : j ≤ 100) (hl : (W ++ Q.reverse).length + C.length ≤ 100) : ∃ U, mm_ex (d + 4) 149 12 [.ref 92, .int (nI 0), v] [] T = some (some (.int (if W.length = 0 then nI 1 else nI 0)), U) ∧ rq S U W (C ++ pcs Q) j := by
  have hS := hT.1
  have hT1 := rq_t h hT
  have hw := hT1.1
  have hl2 : W.length + Q.length + C.length ≤ 100 := by rw [List.length_append, List.length_reverse] at hl; exact hl
  obtain ⟨U, g1, g2⟩ := s147 (d := d + 2) hS (m := 1) (Or.inl rfl) hW Q T C hQ h (by omega) (by omega)
  have wU := rq_W g2 hS
  have g1 : mm_cl (d + 3) 147 [.ref 92, .int (nI 1)] T = some (none, U) := by rw [e147]; exact g1
  have u6 := g2.2.2.2.2.2.1
  have hol := @opn_le (W ++ Q.reverse)
  have n38 : ¬ sg t j = nI 38 := by rw [@sg_eq S t j 38 hT (by decide) (by decide)]; exact h1
  have n124 : ¬ sg t j = nI 124 := by rw [@sg_eq S t j 124 hT (by decide) (by decide)]; exact h2
  have e41 := @sg_eq S t j 41 hT (by decide) (by decide)
  have st0 : mm_ex (d + 4) 149 12 [.ref 92, .int (nI 0), v] [] T = mm_ex (d + 4) 149 198 [.ref 92, .int (nI 0), .int (sg t j)] [] T := by
    rw [b149_12 (wx_k92 hw), s139 hT1 h.2.2.1 (by omega), hp_bd, hp_ts, b149_16, if_pos rfl, b149_71, if_neg n38, b149_77, if_neg n124, b149_143]
    by_cases z : sg t j = nI 41
    · rw [if_pos z, b149_149 (wx_o92 hw), h.2.2.2.2.2.2.1]
      rw [e41] at z
      rw [if_pos (nI_le (by omega) (by omega))]
    · rw [if_neg z]
  refine ⟨U, ?_, g2⟩
  rw [st0, b149_198 (wx_k92 hw), g1, hp_bd, hp_tn, b149_203 (wx_o92 wU), u6]
  by_cases z : W.length = 0
  · rw [if_pos (by rw [z]), if_pos z, b149_210]
  · rw [if_neg (fun e => z ((nI_eq (by omega) (by omega)).mp e)), if_neg z, b149_214]
end MP3
