/-! ===== shop, in the reference ===== -/
section MP8
variable {S T U V : mm_S} {G G2 : gb_G} {t : List Nat} {d i j k n q s a e m w B K h : Nat} {x y z : Int32} {C C2 N : List ab_T} {v : Value} {o : Option (List ab_C)} {l l2 : List ab_C} {c : ab_C} {p : Option ab_C}
theorem s151_l (hT : rt S t) : ∀ (m : Nat) (l : List ab_C) (C : List ab_T) (i : Nat) (T : mm_S), rk S T l C i → m + l.length = 10 → C.length ≤ i → i ≤ t.length → PL t m l i j o → (o = none → ∃ U, mm_ex (d + 6) 151 18 [.ref 92] [] T = some (some (.int (nI j)), U) ∧ faK S U j) ∧ (∀ l2, o = some l2 → ∃ U C2, mm_ex (d + 6) 151 18 [.ref 92] [] T = some (some (.int (-1)), U) ∧ rk S U l2 C2 j ∧ C2.length ≤ 100 ∧ l2.length ≤ 10) := by
  have hS := hT.1
  have h100 := hT.2.2.2.1
  intro m
  induction m with
  | zero => intro l C i T _ _ _ _ p; exact p.elim
  | succ m ih =>
    intro l C i T h hm hCi hi p
    have w0 := (fk_t h.1 hT).1
    rcases p with ⟨p1, p2⟩ | ⟨k, c, p1, p2⟩
    · obtain ⟨U, g1, g2⟩ := (s150 (d := d) hT h (by omega) hCi hi p1).1 rfl
      have wU := fk_W g2 hS
      refine ⟨fun _ => ⟨U, ?_, g2⟩, fun l2 e => by rw [p2] at e; cases e⟩
      rw [b151_18 (wx_k92 w0), g1, hp_bd, hp_ts, b151_22, if_pos rfl, b151_25 (wx_o92 wU), g2.2.2]
    · obtain ⟨U, C2, g1, g2, g3, g4⟩ := (s150 (d := d) hT h (by omega) hCi hi p1).2 c rfl
      have TU := fk_t g2.1 hT
      have wU := TU.1
      have st : mm_ex (d + 6) 151 18 [.ref 92] [] T = if nI k = nI t.length then mm_ex (d + 6) 151 41 [.ref 92] [] U else mm_ex (d + 6) 151 43 [.ref 92] [] U := by
        rw [b151_18 (wx_k92 w0), g1, hp_bd, hp_ts, b151_22, if_neg i01, b151_30 (wx_o92 wU), g2.1.2.2, TU.2.1]
      have e10 : (nI (l ++ [c]).length = nI 10) = ((l ++ [c]).length = 10) := propext (nI_eq (by rw [la1]; omega) (by omega))
      have st2 : k < t.length → mm_ex (d + 6) 151 18 [.ref 92] [] T = if (l ++ [c]).length = 10 then mm_ex (d + 6) 151 64 [.ref 92] [] U else mm_ex (d + 6) 151 55 [.ref 92] [] U := by
        intro hk
        rw [st, if_neg (fun z => by have := (nI_eq (by omega) (by omega)).mp z; omega), b151_43 (wx_o92 wU) (wx_s92_19 wU) (by rw [wx_g92_19 wU, wx_N102 wU]; rfl) (by rw [wx_g92_19 wU]; exact wx_a102 wU), wx_g92_19 wU, show (nI 6).toNatClampNeg = 6 from rfl, g2.2.2.2.1]
        simp only [e10]
      have lc := @la1 _ l c
      rcases p2 with ⟨q1, q2, q3⟩ | ⟨q1, q2, q3, q4⟩ | ⟨q1, q2, q3, q4⟩
      · refine ⟨(fun e => by rw [q3] at e; cases e), fun l2 e => ?_⟩
        rw [q3] at e
        cases e
        subst q2
        refine ⟨U, C2, ?_, g2, by omega, by omega⟩
        rw [st, if_pos (by rw [show j = t.length by omega]), b151_41]
      · subst q3
        refine ⟨fun _ => ?_, (fun l2 e => by rw [q4] at e; cases e)⟩
        by_cases m0 : m = 0
        · refine ⟨U, ?_, g2.1⟩
          rw [st2 q1, if_pos (by omega), b151_64 (wx_o92 wU), g2.1.2.2]
        · have n59 := q2.resolve_left m0
          obtain ⟨V, f1, f2⟩ := s141 (d := d + 4) TU g2.1.2.2 (by omega) (c := 59) (by decide) (by decide)
          rw [if_neg n59] at f1 f2
          have qV := fk_tr g2.1 (fk_36 f2)
          have wV := fk_W qV hS
          refine ⟨V, ?_, qV⟩
          rw [st2 q1, if_neg (by omega), b151_55 (wx_k92 wU), f1, hp_bd, hp_ts, b151_61, if_pos rfl, b151_64 (wx_o92 wV), qV.2.2]
      · obtain ⟨V, f1, f2⟩ := s141 (d := d + 4) TU g2.1.2.2 (by omega) (c := 59) (by decide) (by decide)
        rw [if_pos q3] at f1 f2
        have st3 : mm_ex (d + 6) 151 18 [.ref 92] [] T = mm_ex (d + 6) 151 18 [.ref 92] [] V := by
          rw [st2 q1, if_neg (by omega), b151_55 (wx_k92 wU), f1, hp_bd, hp_ts, b151_61, if_neg i01]
        rw [st3]
        exact ih (l ++ [c]) C2 (k + 1) V (rk_36 g2 f2) (by omega) (by omega) (by omega) q4
theorem s151 (hT : rt S t) (p : PL t 10 [] 0 j o) : (o = none → ∃ U, mm_cl (d + 6) 151 [.ref 92] S = some (some (.int (nI j)), U) ∧ faK S U j) ∧ (∀ l2, o = some l2 → ∃ U C2, mm_cl (d + 6) 151 [.ref 92] S = some (some (.int (-1)), U) ∧ rk S U l2 C2 j ∧ C2.length ≤ 100 ∧ l2.length ≤ 10) := by
  have hw := hT.1
  have q1 : faK S (mm_uM S 92 36 (nI 0)) 0 := ⟨hp_uMw, fun c j hc => rdn (fun z => hc (by unfold gp_k gp_x; omega)), rds⟩
  have q2 : faK S (mm_uM (mm_uM S 92 36 (nI 0)) 92 37 (nI 0)) 0 := fk_tr q1 (fk_u q1.2.2 (by unfold gp_k gp_x; omega) (by omega))
  have q3 : faK S (mm_uM (mm_uM (mm_uM S 92 36 (nI 0)) 92 37 (nI 0)) 102 6 (nI 0)) 0 := fk_tr q2 (fk_u q2.2.2 (by unfold gp_k gp_x; omega) (by omega))
  have st : mm_cl (d + 6) 151 [.ref 92] S = mm_ex (d + 6) 151 18 [.ref 92] [] (mm_uM (mm_uM (mm_uM S 92 36 (nI 0)) 92 37 (nI 0)) 102 6 (nI 0)) := by
    rw [e151, b151_0 (wx_o92 hw) (wx_s92_19 hw) (by rw [wx_g92_19 hw]; exact wx_a102 hw) (by rw [wx_g92_19 hw, wx_N102 hw]; rfl), wx_g92_19 hw]
    rfl
  rw [st]
  exact s151_l hT 10 [] [] 0 _ ⟨q3, (rdn (by omega)).trans rds, fun n hn => absurd hn (Nat.not_lt_zero _), rds, trivial⟩ rfl (Nat.le_refl _) (Nat.zero_le _) p
/-- rows of clauses to their place -/
theorem m152_a (hh : h < 6) (hw : mm_W S) (h17 : mm_M S 92 17 = nI h) : ∀ (q k : Nat) (T : mm_S), k + q = 10 → T = mm_wM S (mm_M T) → (∀ c j, ¬ (103 ≤ c ∧ c ≤ 106 ∧ 10 * h ≤ j ∧ j < 10 * h + 10) → mm_M T c j = mm_M S c j) → (∀ i, i < k → mm_M T 103 (10 * h + i) = mm_M S 103 (60 + i) ∧ mm_M T 104 (10 * h + i) = mm_M S 104 (60 + i) ∧ mm_M T 105 (10 * h + i) = mm_M S 105 (60 + i) ∧ mm_M T 106 (10 * h + i) = mm_M S 106 (60 + i)) → ∃ U, mm_ex d 152 50 [.ref 92, .int x, .int (nI k)] [] T = mm_ex d 152 154 [.ref 92, .int x, .int (nI 10)] [] U ∧ U = mm_wM S (mm_M U) ∧ (∀ c j, ¬ (103 ≤ c ∧ c ≤ 106 ∧ 10 * h ≤ j ∧ j < 10 * h + 10) → mm_M U c j = mm_M S c j) ∧ (∀ i, i < 10 → mm_M U 103 (10 * h + i) = mm_M S 103 (60 + i) ∧ mm_M U 104 (10 * h + i) = mm_M S 104 (60 + i) ∧ mm_M U 105 (10 * h + i) = mm_M S 105 (60 + i) ∧ mm_M U 106 (10 * h + i) = mm_M S 106 (60 + i)) := by
  intro q
  induction q with
  | zero =>
    intro k T hk e hf hc
    have e2 : k = 10 := by omega
    subst e2
    exact ⟨T, by rw [b152_50, if_pos (by decide)], e, hf, hc⟩
  | succ q ih =>
    intro k T hk e hf hc
    have wT : mm_W T := by rw [e]; exact hw
    have t17 : mm_M T 92 17 = nI h := (hf _ _ (by omega)).trans h17
    have ck : (nI (60 + k)).toNatClampNeg = 60 + k := nI_clamp (by omega)
    have bk : mm_inb (nI (60 + k)) 70 = true := hp_inb (by omega) (by omega)
    have cv : (nI (10 * h + k)).toNatClampNeg = 10 * h + k := nI_clamp (by omega)
    have bv : mm_inb (nI (10 * h + k)) 70 = true := hp_inb (by omega) (by omega)
    have st : mm_ex d 152 50 [.ref 92, .int x, .int (nI k)] [] T = mm_ex d 152 50 [.ref 92, .int x, .int (nI (k + 1))] [] (mm_uM (mm_uM (mm_uM (mm_uM T 103 (10 * h + k) (mm_M T 103 (60 + k))) 104 (10 * h + k) (mm_M T 104 (60 + k))) 105 (10 * h + k) (mm_M T 105 (60 + k))) 106 (10 * h + k) (mm_M T 106 (60 + k))) := by
      rw [b152_50, if_neg (nI_ge (by omega) (by omega))]
      simp only [b152_56, b152_86, b152_109, b152_132, wx_o92 wT, wx_k92 wT, wx_q92 wT, wx_g92_1 wT, wx_s92_1 wT, wx_N93 wT, wx_a93 wT, wx_g92_2 wT, wx_s92_2 wT, wx_N94 wT, wx_a94 wT, wx_g92_3 wT, wx_s92_3 wT, wx_N95 wT, wx_a95 wT, wx_g92_4 wT, wx_s92_4 wT, wx_N96 wT, wx_a96 wT, wx_g92_5 wT, wx_s92_5 wT, wx_N97 wT, wx_a97 wT, wx_g92_6 wT, wx_s92_6 wT, wx_N98 wT, wx_a98 wT, wx_g92_7 wT, wx_s92_7 wT, wx_N99 wT, wx_a99 wT, wx_g92_9 wT, wx_s92_9 wT, wx_N100 wT, wx_a100 wT, wx_g92_16 wT, wx_s92_16 wT, wx_N101 wT, wx_a101 wT, wx_g92_19 wT, wx_s92_19 wT, wx_N102 wT, wx_a102 wT, wx_g92_20 wT, wx_s92_20 wT, wx_N103 wT, wx_a103 wT, wx_g92_21 wT, wx_s92_21 wT, wx_N104 wT, wx_a104 wT, wx_g92_22 wT, wx_s92_22 wT, wx_N105 wT, wx_a105 wT, wx_g92_23 wT, wx_s92_23 wT, wx_N106 wT, wx_a106 wT, wx_g92_24 wT, wx_s92_24 wT, wx_N107 wT, wx_a107 wT, wx_g92_25 wT, wx_s92_25 wT, wx_N108 wT, wx_a108 wT, wx_g92_29 wT, wx_s92_29 wT, wx_N109 wT, wx_a109 wT, wx_g92_30 wT, wx_s92_30 wT, wx_N110 wT, wx_a110 wT, wx_g92_31 wT, wx_s92_31 wT, wx_N111 wT, wx_a111 wT, wx_g92_32 wT, wx_s92_32 wT, wx_N112 wT, wx_a112 wT, wx_g92_33 wT, wx_s92_33 wT, wx_N113 wT, wx_a113 wT, wx_g92_34 wT, wx_s92_34 wT, wx_N114 wT, wx_a114 wT, wx_g92_35 wT, wx_s92_35 wT, wx_N115 wT, wx_a115 wT, wx_g92_38 wT, wx_s92_38 wT, wx_N116 wT, wx_a116 wT, wx_g92_41 wT, wx_s92_41 wT, wx_N117 wT, wx_a117 wT, wx_g92_44 wT, wx_s92_44 wT, wx_N118 wT, wx_a118 wT, wx_g92_45 wT, wx_s92_45 wT, wx_N119 wT, wx_a119 wT, wx_g92_46 wT, wx_s92_46 wT, wx_N120 wT, wx_a120 wT, wx_g92_52 wT, wx_s92_52 wT, wx_N121 wT, wx_a121 wT, wx_g92_55 wT, wx_s92_55 wT, wx_N122 wT, wx_a122 wT, wx_g92_56 wT, wx_s92_56 wT, wx_N123 wT, wx_a123 wT, wx_g92_57 wT, wx_s92_57 wT, wx_N124 wT, wx_a124 wT, wx_g92_58 wT, wx_s92_58 wT, wx_N125 wT, wx_a125 wT, wx_g92_64 wT, wx_s92_64 wT, wx_N126 wT, wx_a126 wT, wx_g92_65 wT, wx_s92_65 wT, wx_N127 wT, wx_a127 wT, wx_g92_66 wT, wx_s92_66 wT, wx_N128 wT, wx_a128 wT, wx_g92_67 wT, wx_s92_67 wT, wx_N129 wT, wx_a129 wT, wx_g92_68 wT, wx_s92_68 wT, wx_N130 wT, wx_a130 wT, wx_g92_69 wT, wx_s92_69 wT, wx_N131 wT, wx_a131 wT, wx_g92_70 wT, wx_s92_70 wT, wx_N132 wT, wx_a132 wT, wx_g92_71 wT, wx_s92_71 wT, wx_N133 wT, wx_a133 wT, wx_g92_72 wT, wx_s92_72 wT, wx_N134 wT, wx_a134 wT, wx_g92_73 wT, wx_s92_73 wT, wx_N135 wT, wx_a135 wT, wx_g92_75 wT, wx_s92_75 wT, wx_N136 wT, wx_a136 wT, List.not_mem_nil, false_implies, implies_true, nI_clamp, nI_add, Nat.reducePow, hp_bd, hp_bdi, hp_ts, hp_tn, hp_tsc, hp_tnc, Nat.reduceAdd, Nat.reduceSub, Nat.reduceMul, Nat.reduceLT, Nat.reduceLeDiff, Nat.reduceEqDiff, reduceIte, not_true_eq_false, not_false_eq_true, and_true, true_and, and_self, and_false, false_and, or_true, true_or, or_false, false_or, decide_true, decide_false, Bool.and_true, Bool.true_and, Bool.not_false, Bool.or_false, Bool.false_or, Bool.or_true, Bool.true_or, hp_MuM, hp_LuL, hp_RuR, hp_McpM, hp_LcpL, hp_LuM, hp_RuM, hp_KuM, hp_NuM, hp_nuM, hp_zuM, hp_ouM, hp_auM, hp_kuM, hp_guM, hp_MuL, hp_RuL, hp_KuL, hp_NuL, hp_nuL, hp_zuL, hp_ouL, hp_auL, hp_kuL, hp_guL, hp_MuR, hp_LuR, hp_KuR, hp_NuR, hp_nuR, hp_zuR, hp_ouR, hp_auR, hp_kuR, hp_LcpM, hp_RcpM, hp_KcpM, hp_NcpM, hp_ncpM, hp_zcpM, hp_ocpM, hp_acpM, hp_kcpM, hp_gcpM, hp_McpL, hp_RcpL, hp_KcpL, hp_NcpL, hp_ncpL, hp_zcpL, hp_ocpL, hp_acpL, hp_kcpL, hp_gcpL, hp_MwM, hp_LwM, hp_RwM, hp_KwM, hp_NwM, hp_nwM, hp_zwM, hp_owM, hp_awM, hp_kwM, hp_gwM, hp_MwR, hp_LwR, hp_RwR, hp_KwR, hp_NwR, hp_nwR, hp_zwR, hp_owR, hp_awR, hp_kwR, hp_MwL, hp_LwL, hp_RwL, hp_KwL, hp_NwL, hp_nwL, hp_zwL, hp_owL, hp_awL, hp_kwL, hp_gwL, hp_w2M, hp_w2R, hp_w2L, nI_mul, t17, ck, bk, cv, bv]
    have r : ∀ c j, ¬ (103 ≤ c ∧ c ≤ 106 ∧ j = 10 * h + k) → mm_M (mm_uM (mm_uM (mm_uM (mm_uM T 103 (10 * h + k) (mm_M T 103 (60 + k))) 104 (10 * h + k) (mm_M T 104 (60 + k))) 105 (10 * h + k) (mm_M T 105 (60 + k))) 106 (10 * h + k) (mm_M T 106 (60 + k))) c j = mm_M T c j := fun c j h => (rdn (by omega)).trans ((rdn (by omega)).trans ((rdn (by omega)).trans (rdn (by omega))))
    obtain ⟨U, g1, g2⟩ := ih (k + 1) _ (by omega) (wM_u (wM_u (wM_u (wM_u e)))) (fun c j h => (r c j (by omega)).trans (hf c j h)) (fun i hi => by
      by_cases h2 : i = k
      · subst h2
        exact ⟨(rdn (by omega)).trans ((rdn (by omega)).trans ((rdn (by omega)).trans (rds.trans (hf _ _ (by omega))))), (rdn (by omega)).trans ((rdn (by omega)).trans (rds.trans (hf _ _ (by omega)))), (rdn (by omega)).trans (rds.trans (hf _ _ (by omega))), rds.trans (hf _ _ (by omega))⟩
      · have := hc i (by omega)
        exact ⟨(r _ _ (by omega)).trans this.1, (r _ _ (by omega)).trans this.2.1, (r _ _ (by omega)).trans this.2.2.1, (r _ _ (by omega)).trans this.2.2.2⟩)
    exact ⟨U, st.trans g1, g2⟩
theorem m152_b (hh : h < 6) (hw : mm_W S) (h17 : mm_M S 92 17 = nI h) : ∀ (q k : Nat) (T : mm_S), k + q = 120 → T = mm_wM S (mm_M T) → (∀ c j, ¬ (c = 107 ∧ 120 * h ≤ j ∧ j < 120 * h + 120) → mm_M T c j = mm_M S c j) → (∀ i, i < k → mm_M T 107 (120 * h + i) = mm_M S 107 (720 + i)) → ∃ U, mm_ex d 152 156 [.ref 92, .int x, .int (nI k)] [] T = mm_ex d 152 192 [.ref 92, .int x, .int (nI 120)] [] U ∧ U = mm_wM S (mm_M U) ∧ (∀ c j, ¬ (c = 107 ∧ 120 * h ≤ j ∧ j < 120 * h + 120) → mm_M U c j = mm_M S c j) ∧ (∀ i, i < 120 → mm_M U 107 (120 * h + i) = mm_M S 107 (720 + i)) := by
  intro q
  induction q with
  | zero =>
    intro k T hk e hf hc
    have e2 : k = 120 := by omega
    subst e2
    exact ⟨T, by rw [b152_156, if_pos (by decide)], e, hf, hc⟩
  | succ q ih =>
    intro k T hk e hf hc
    have wT : mm_W T := by rw [e]; exact hw
    have t17 : mm_M T 92 17 = nI h := (hf _ _ (by omega)).trans h17
    have ck : (nI (720 + k)).toNatClampNeg = 720 + k := nI_clamp (by omega)
    have bk : mm_inb (nI (720 + k)) 840 = true := hp_inb (by omega) (by omega)
    have cv : (nI (120 * h + k)).toNatClampNeg = 120 * h + k := nI_clamp (by omega)
    have bv : mm_inb (nI (120 * h + k)) 840 = true := hp_inb (by omega) (by omega)
    have st : mm_ex d 152 156 [.ref 92, .int x, .int (nI k)] [] T = mm_ex d 152 156 [.ref 92, .int x, .int (nI (k + 1))] [] (mm_uM T 107 (120 * h + k) (mm_M T 107 (720 + k))) := by
      rw [b152_156, if_neg (nI_ge (by omega) (by omega))]
      simp only [b152_162, wx_o92 wT, wx_k92 wT, wx_q92 wT, wx_g92_1 wT, wx_s92_1 wT, wx_N93 wT, wx_a93 wT, wx_g92_2 wT, wx_s92_2 wT, wx_N94 wT, wx_a94 wT, wx_g92_3 wT, wx_s92_3 wT, wx_N95 wT, wx_a95 wT, wx_g92_4 wT, wx_s92_4 wT, wx_N96 wT, wx_a96 wT, wx_g92_5 wT, wx_s92_5 wT, wx_N97 wT, wx_a97 wT, wx_g92_6 wT, wx_s92_6 wT, wx_N98 wT, wx_a98 wT, wx_g92_7 wT, wx_s92_7 wT, wx_N99 wT, wx_a99 wT, wx_g92_9 wT, wx_s92_9 wT, wx_N100 wT, wx_a100 wT, wx_g92_16 wT, wx_s92_16 wT, wx_N101 wT, wx_a101 wT, wx_g92_19 wT, wx_s92_19 wT, wx_N102 wT, wx_a102 wT, wx_g92_20 wT, wx_s92_20 wT, wx_N103 wT, wx_a103 wT, wx_g92_21 wT, wx_s92_21 wT, wx_N104 wT, wx_a104 wT, wx_g92_22 wT, wx_s92_22 wT, wx_N105 wT, wx_a105 wT, wx_g92_23 wT, wx_s92_23 wT, wx_N106 wT, wx_a106 wT, wx_g92_24 wT, wx_s92_24 wT, wx_N107 wT, wx_a107 wT, wx_g92_25 wT, wx_s92_25 wT, wx_N108 wT, wx_a108 wT, wx_g92_29 wT, wx_s92_29 wT, wx_N109 wT, wx_a109 wT, wx_g92_30 wT, wx_s92_30 wT, wx_N110 wT, wx_a110 wT, wx_g92_31 wT, wx_s92_31 wT, wx_N111 wT, wx_a111 wT, wx_g92_32 wT, wx_s92_32 wT, wx_N112 wT, wx_a112 wT, wx_g92_33 wT, wx_s92_33 wT, wx_N113 wT, wx_a113 wT, wx_g92_34 wT, wx_s92_34 wT, wx_N114 wT, wx_a114 wT, wx_g92_35 wT, wx_s92_35 wT, wx_N115 wT, wx_a115 wT, wx_g92_38 wT, wx_s92_38 wT, wx_N116 wT, wx_a116 wT, wx_g92_41 wT, wx_s92_41 wT, wx_N117 wT, wx_a117 wT, wx_g92_44 wT, wx_s92_44 wT, wx_N118 wT, wx_a118 wT, wx_g92_45 wT, wx_s92_45 wT, wx_N119 wT, wx_a119 wT, wx_g92_46 wT, wx_s92_46 wT, wx_N120 wT, wx_a120 wT, wx_g92_52 wT, wx_s92_52 wT, wx_N121 wT, wx_a121 wT, wx_g92_55 wT, wx_s92_55 wT, wx_N122 wT, wx_a122 wT, wx_g92_56 wT, wx_s92_56 wT, wx_N123 wT, wx_a123 wT, wx_g92_57 wT, wx_s92_57 wT, wx_N124 wT, wx_a124 wT, wx_g92_58 wT, wx_s92_58 wT, wx_N125 wT, wx_a125 wT, wx_g92_64 wT, wx_s92_64 wT, wx_N126 wT, wx_a126 wT, wx_g92_65 wT, wx_s92_65 wT, wx_N127 wT, wx_a127 wT, wx_g92_66 wT, wx_s92_66 wT, wx_N128 wT, wx_a128 wT, wx_g92_67 wT, wx_s92_67 wT, wx_N129 wT, wx_a129 wT, wx_g92_68 wT, wx_s92_68 wT, wx_N130 wT, wx_a130 wT, wx_g92_69 wT, wx_s92_69 wT, wx_N131 wT, wx_a131 wT, wx_g92_70 wT, wx_s92_70 wT, wx_N132 wT, wx_a132 wT, wx_g92_71 wT, wx_s92_71 wT, wx_N133 wT, wx_a133 wT, wx_g92_72 wT, wx_s92_72 wT, wx_N134 wT, wx_a134 wT, wx_g92_73 wT, wx_s92_73 wT, wx_N135 wT, wx_a135 wT, wx_g92_75 wT, wx_s92_75 wT, wx_N136 wT, wx_a136 wT, List.not_mem_nil, false_implies, implies_true, nI_clamp, nI_add, Nat.reducePow, hp_bd, hp_bdi, hp_ts, hp_tn, hp_tsc, hp_tnc, Nat.reduceAdd, Nat.reduceSub, Nat.reduceMul, Nat.reduceLT, Nat.reduceLeDiff, Nat.reduceEqDiff, reduceIte, not_true_eq_false, not_false_eq_true, and_true, true_and, and_self, and_false, false_and, or_true, true_or, or_false, false_or, decide_true, decide_false, Bool.and_true, Bool.true_and, Bool.not_false, Bool.or_false, Bool.false_or, Bool.or_true, Bool.true_or, hp_MuM, hp_LuL, hp_RuR, hp_McpM, hp_LcpL, hp_LuM, hp_RuM, hp_KuM, hp_NuM, hp_nuM, hp_zuM, hp_ouM, hp_auM, hp_kuM, hp_guM, hp_MuL, hp_RuL, hp_KuL, hp_NuL, hp_nuL, hp_zuL, hp_ouL, hp_auL, hp_kuL, hp_guL, hp_MuR, hp_LuR, hp_KuR, hp_NuR, hp_nuR, hp_zuR, hp_ouR, hp_auR, hp_kuR, hp_LcpM, hp_RcpM, hp_KcpM, hp_NcpM, hp_ncpM, hp_zcpM, hp_ocpM, hp_acpM, hp_kcpM, hp_gcpM, hp_McpL, hp_RcpL, hp_KcpL, hp_NcpL, hp_ncpL, hp_zcpL, hp_ocpL, hp_acpL, hp_kcpL, hp_gcpL, hp_MwM, hp_LwM, hp_RwM, hp_KwM, hp_NwM, hp_nwM, hp_zwM, hp_owM, hp_awM, hp_kwM, hp_gwM, hp_MwR, hp_LwR, hp_RwR, hp_KwR, hp_NwR, hp_nwR, hp_zwR, hp_owR, hp_awR, hp_kwR, hp_MwL, hp_LwL, hp_RwL, hp_KwL, hp_NwL, hp_nwL, hp_zwL, hp_owL, hp_awL, hp_kwL, hp_gwL, hp_w2M, hp_w2R, hp_w2L, nI_mul, t17, ck, bk, cv, bv]
    have r : ∀ c j, ¬ (c = 107 ∧ j = 120 * h + k) → mm_M (mm_uM T 107 (120 * h + k) (mm_M T 107 (720 + k))) c j = mm_M T c j := fun c j h => rdn h
    obtain ⟨U, g1, g2⟩ := ih (k + 1) (mm_uM T 107 (120 * h + k) (mm_M T 107 (720 + k))) (by omega) (wM_u e) (fun c j h => (r c j (by omega)).trans (hf c j h)) (fun i hi => by
      by_cases h2 : i = k
      · subst h2
        exact rds.trans (hf 107 (720 + i) (by omega))
      · exact (r _ _ (by omega)).trans (hc i (by omega)))
    exact ⟨U, st.trans g1, g2⟩
theorem mcl_tr : ∀ {l : List ab_C} {k : Nat}, (∀ c j, 103 ≤ c → c ≤ 106 → 10 * h ≤ j → j < 10 * h + 10 → mm_M U c j = mm_M T c j) → (∀ n, n < 100 → mm_M U 107 (120 * h + n) = mm_M T 107 (120 * h + n)) → k + l.length ≤ 10 → md_cl T h l k → md_cl U h l k := by
  intro l
  induction l with
  | nil => intro k _ _ _ _; exact trivial
  | cons c l ih =>
    intro k g g2 hk hq
    rw [List.length_cons] at hk
    obtain ⟨q1, q2, q3, q4⟩ := hq
    refine ⟨(g _ _ (by omega) (by omega) (by omega) (by omega)).trans q1, (g _ _ (by omega) (by omega) (by omega) (by omega)).trans q2, fun hc => ?_, ih g g2 (by omega) q4⟩
    obtain ⟨f, f1, f2, f3, f4⟩ := q3 hc
    refine ⟨f, by omega, (g _ _ (by omega) (by omega) (by omega) (by omega)).trans f2, (g _ _ (by omega) (by omega) (by omega) (by omega)).trans f3, co_tr (fun n a b => ?_) f4⟩
    have := g2 (n - 120 * h) (by omega)
    rw [show 120 * h + (n - 120 * h) = n by omega] at this
    exact this
theorem co_mv : ∀ {c : List ab_T} {f : Nat}, (∀ n, n < 120 → mm_M U 107 (120 * h + n) = mm_M T 107 (720 + n)) → f + c.length ≤ 120 → md_co T c (720 + f) → md_co U c (120 * h + f) := by
  intro c
  induction c with
  | nil => intro f _ _ _; exact trivial
  | cons x c ih =>
    intro f g hf hc
    rw [List.length_cons] at hf
    exact ⟨(g f (by omega)).trans hc.1, ih (f := f + 1) g (by omega) hc.2⟩
theorem cq_mv : ∀ {l : List ab_C} {k : Nat}, (∀ i, i < 10 → mm_M U 103 (10 * h + i) = mm_M T 103 (60 + i) ∧ mm_M U 104 (10 * h + i) = mm_M T 104 (60 + i) ∧ mm_M U 105 (10 * h + i) = mm_M T 105 (60 + i) ∧ mm_M U 106 (10 * h + i) = mm_M T 106 (60 + i)) → (∀ n, n < 120 → mm_M U 107 (120 * h + n) = mm_M T 107 (720 + n)) → k + l.length ≤ 10 → B ≤ 100 → cq T l k B → md_cl U h l k := by
  intro l
  induction l with
  | nil => intro k _ _ _ _ _; exact trivial
  | cons c l ih =>
    intro k g g2 hk hB hq
    rw [List.length_cons] at hk
    obtain ⟨q1, q2, q3, q4⟩ := hq
    have gk := g k (by omega)
    refine ⟨gk.1.trans q1, gk.2.1.trans q2, fun hc => ?_, ih g g2 (by omega) hB q4⟩
    obtain ⟨f, f1, f2, f3, f4⟩ := q3 hc
    exact ⟨f, by omega, gk.2.2.1.trans f2, gk.2.2.2.trans f3, co_mv g2 (by omega) f4⟩
end MP8
