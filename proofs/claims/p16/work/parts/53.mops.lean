/-! ===== acts, in the reference ===== -/
def gm_rr (c j : Nat) : Prop := (c = 92 ∧ (j = 28 ∨ j = 74)) ∨ c = 109
def mLog (S T : mm_S) (l : List Nat) : Prop := sf_f (fun c j => (c = 92 ∧ j = 28) ∨ c = 109) S T ∧ mm_W T ∧ gm_r T l ∧ mm_n T = mm_n S ∧ mm_z T = mm_z S
def mAct (S : mm_S) (d y k : Nat) (x : Int32) (l : List Nat) (r : Int32 × List Nat) : Prop := ∃ T, mm_cl d y [.ref 92, .int (nI k), .int x] S = some (some (.int r.1), T) ∧ mLog S T (l ++ r.2)
/-- b, of kind k and with v, acts -/
def mA0 (S : mm_S) (b k v : Nat) : Prop := mm_M S 92 74 = nI b ∧ b < 6 ∧ mm_M S 93 b = nI k ∧ mm_M S 94 b = nI v
section MA
variable {S T U : mm_S} {d b e k v w : Nat} {x : Int32} {l m : List Nat}
theorem mg_tr (h : mLog S T l) (h2 : mLog T U m) : mLog S U m := ⟨sf_tr h.1 h2.1, h2.2.1, h2.2.2.1, h2.2.2.2.1.trans h.2.2.2.1, h2.2.2.2.2.trans h.2.2.2.2⟩
theorem mg_A (h : mLog S T l) (hy : mA0 S b k v) : mA0 T b k v := ⟨(h.1.1 92 74 (fun (q : (92 = 92 ∧ 74 = 28) ∨ 92 = 109) => by omega)).1.trans hy.1, hy.2.1, (h.1.1 93 b (fun (q : (93 = 92 ∧ b = 28) ∨ 93 = 109) => by omega)).1.trans hy.2.2.1, (h.1.1 94 b (fun (q : (94 = 92 ∧ b = 28) ∨ 94 = 109) => by omega)).1.trans hy.2.2.2⟩
theorem s198n (hw : mm_W S) (hr : gm_r S l) (hl : l.length < 20) {c : Nat} : ∃ T, mm_cl d 198 [.ref 92, .int (nI c)] S = some (none, T) ∧ mLog S T (l ++ [c]) := by
  obtain ⟨h0, h1⟩ := hr
  have i1 : mm_inb (nI l.length) 20 = true := hp_inb (by omega) (by omega)
  have c1 : (nI l.length).toNatClampNeg = l.length := nI_clamp (by omega)
  have l1 : (nI 20 ≤ nI l.length) = False := eq_false (nI_ge (by omega) (by decide))
  refine ⟨mm_uM (mm_uM S 109 l.length (nI c)) 92 28 (nI (l.length + 1)), ?_, sf_tr (sf_uM (Or.inr rfl)) (sf_uM (Or.inl ⟨rfl, rfl⟩)), hw, ⟨?_, fun i hi => ?_⟩, rfl, rfl⟩
  · simp only [b198_0, b198_9, b198_19, b198_21, e198, wx_o92 hw, wx_k92 hw, wx_q92 hw, wx_g92_1 hw, wx_s92_1 hw, wx_N93 hw, wx_a93 hw, wx_g92_2 hw, wx_s92_2 hw, wx_N94 hw, wx_a94 hw, wx_g92_3 hw, wx_s92_3 hw, wx_N95 hw, wx_a95 hw, wx_g92_4 hw, wx_s92_4 hw, wx_N96 hw, wx_a96 hw, wx_g92_5 hw, wx_s92_5 hw, wx_N97 hw, wx_a97 hw, wx_g92_6 hw, wx_s92_6 hw, wx_N98 hw, wx_a98 hw, wx_g92_7 hw, wx_s92_7 hw, wx_N99 hw, wx_a99 hw, wx_g92_9 hw, wx_s92_9 hw, wx_N100 hw, wx_a100 hw, wx_g92_16 hw, wx_s92_16 hw, wx_N101 hw, wx_a101 hw, wx_g92_19 hw, wx_s92_19 hw, wx_N102 hw, wx_a102 hw, wx_g92_20 hw, wx_s92_20 hw, wx_N103 hw, wx_a103 hw, wx_g92_21 hw, wx_s92_21 hw, wx_N104 hw, wx_a104 hw, wx_g92_22 hw, wx_s92_22 hw, wx_N105 hw, wx_a105 hw, wx_g92_23 hw, wx_s92_23 hw, wx_N106 hw, wx_a106 hw, wx_g92_24 hw, wx_s92_24 hw, wx_N107 hw, wx_a107 hw, wx_g92_25 hw, wx_s92_25 hw, wx_N108 hw, wx_a108 hw, wx_g92_29 hw, wx_s92_29 hw, wx_N109 hw, wx_a109 hw, wx_g92_30 hw, wx_s92_30 hw, wx_N110 hw, wx_a110 hw, wx_g92_31 hw, wx_s92_31 hw, wx_N111 hw, wx_a111 hw, wx_g92_32 hw, wx_s92_32 hw, wx_N112 hw, wx_a112 hw, wx_g92_33 hw, wx_s92_33 hw, wx_N113 hw, wx_a113 hw, wx_g92_34 hw, wx_s92_34 hw, wx_N114 hw, wx_a114 hw, wx_g92_35 hw, wx_s92_35 hw, wx_N115 hw, wx_a115 hw, wx_g92_38 hw, wx_s92_38 hw, wx_N116 hw, wx_a116 hw, wx_g92_41 hw, wx_s92_41 hw, wx_N117 hw, wx_a117 hw, wx_g92_44 hw, wx_s92_44 hw, wx_N118 hw, wx_a118 hw, wx_g92_45 hw, wx_s92_45 hw, wx_N119 hw, wx_a119 hw, wx_g92_46 hw, wx_s92_46 hw, wx_N120 hw, wx_a120 hw, wx_g92_52 hw, wx_s92_52 hw, wx_N121 hw, wx_a121 hw, wx_g92_55 hw, wx_s92_55 hw, wx_N122 hw, wx_a122 hw, wx_g92_56 hw, wx_s92_56 hw, wx_N123 hw, wx_a123 hw, wx_g92_57 hw, wx_s92_57 hw, wx_N124 hw, wx_a124 hw, wx_g92_58 hw, wx_s92_58 hw, wx_N125 hw, wx_a125 hw, wx_g92_64 hw, wx_s92_64 hw, wx_N126 hw, wx_a126 hw, wx_g92_65 hw, wx_s92_65 hw, wx_N127 hw, wx_a127 hw, wx_g92_66 hw, wx_s92_66 hw, wx_N128 hw, wx_a128 hw, wx_g92_67 hw, wx_s92_67 hw, wx_N129 hw, wx_a129 hw, wx_g92_68 hw, wx_s92_68 hw, wx_N130 hw, wx_a130 hw, wx_g92_69 hw, wx_s92_69 hw, wx_N131 hw, wx_a131 hw, wx_g92_70 hw, wx_s92_70 hw, wx_N132 hw, wx_a132 hw, wx_g92_71 hw, wx_s92_71 hw, wx_N133 hw, wx_a133 hw, wx_g92_72 hw, wx_s92_72 hw, wx_N134 hw, wx_a134 hw, wx_g92_73 hw, wx_s92_73 hw, wx_N135 hw, wx_a135 hw, wx_g92_75 hw, wx_s92_75 hw, wx_N136 hw, wx_a136 hw, List.not_mem_nil, false_implies, implies_true, nI_clamp, nI_add, Nat.reducePow, hp_bd, hp_bdi, hp_ts, hp_tn, hp_tsc, hp_tnc, Nat.reduceAdd, Nat.reduceSub, Nat.reduceMul, Nat.reduceLT, Nat.reduceLeDiff, Nat.reduceEqDiff, reduceIte, not_true_eq_false, not_false_eq_true, and_true, true_and, and_self, and_false, false_and, or_true, true_or, or_false, false_or, decide_true, decide_false, Bool.and_true, Bool.true_and, Bool.not_false, Bool.or_false, Bool.false_or, Bool.or_true, Bool.true_or, hp_MuM, hp_LuL, hp_RuR, hp_McpM, hp_LcpL, hp_LuM, hp_RuM, hp_KuM, hp_NuM, hp_nuM, hp_zuM, hp_ouM, hp_auM, hp_kuM, hp_guM, hp_MuL, hp_RuL, hp_KuL, hp_NuL, hp_nuL, hp_zuL, hp_ouL, hp_auL, hp_kuL, hp_guL, hp_MuR, hp_LuR, hp_KuR, hp_NuR, hp_nuR, hp_zuR, hp_ouR, hp_auR, hp_kuR, hp_LcpM, hp_RcpM, hp_KcpM, hp_NcpM, hp_ncpM, hp_zcpM, hp_ocpM, hp_acpM, hp_kcpM, hp_gcpM, hp_McpL, hp_RcpL, hp_KcpL, hp_NcpL, hp_ncpL, hp_zcpL, hp_ocpL, hp_acpL, hp_kcpL, hp_gcpL, hp_MwM, hp_LwM, hp_RwM, hp_KwM, hp_NwM, hp_nwM, hp_zwM, hp_owM, hp_awM, hp_kwM, hp_gwM, hp_MwR, hp_LwR, hp_RwR, hp_KwR, hp_NwR, hp_nwR, hp_zwR, hp_owR, hp_awR, hp_kwR, hp_MwL, hp_LwL, hp_RwL, hp_KwL, hp_NwL, hp_nwL, hp_zwL, hp_owL, hp_awL, hp_kwL, hp_gwL, hp_w2M, hp_w2R, hp_w2L, h0, i1, c1, l1]
  · rw [rds, List.length_append]; rfl
  · rw [List.length_append] at hi
    rw [rdn (by omega), rdk]
    by_cases e : i = l.length
    · rw [if_pos e, e, List.getD_eq_getElem?_getD, List.getElem?_append_right (Nat.le_refl _), Nat.sub_self]; rfl
    · have hi2 : i < l.length := by
        have : [c].length = 1 := rfl
        omega
      rw [if_neg e, List.getD_eq_getElem?_getD, List.getElem?_append_left hi2, ← List.getD_eq_getElem?_getD]
      exact h1 i hi2
theorem nkk {a c : Nat} (ha : a < 7) (hc : c < 7) (h : a ≠ c) : ¬ nI a = nI c := fun e => h ((nI_eq (by omega) (by omega)).mp e)
/-- bids at the level 0 -/
theorem b200z (hw : mm_W S) (hr : gm_r S l) (hl : l.length < 20) (hy : mA0 S b k v) : mAct S (d + 1) 200 0 x l (x + nI b, [10]) := by
  obtain ⟨T, g1, g2⟩ := s198n (d := d) (c := 10) hw hr hl
  have yT := mg_A g2 hy
  refine ⟨T, ?_, g2⟩
  rw [e200, b200_0, if_neg (nkk (by decide) (by decide) (by decide)), b200_23, if_neg (nkk (by decide) (by decide) (by decide)), b200_45, if_neg (nkk (by decide) (by decide) (by decide)), b200_77, if_pos (by decide), b200_91 (wx_k92 hw), g1, hp_bd, hp_tn, b200_97 (wx_o92 g2.2.1), yT.1]
theorem b200a (hw : mm_W S) (hr : gm_r S l) (hl : l.length < 20) (hk : k = 1 ∨ k = 3) (hy : mA0 S b e v) : mAct S (d + 2) 200 k x l (x + nI b, [10]) := by
  obtain ⟨T, g1, g2⟩ := b200z (d := d) (x := x) hw hr hl hy
  refine ⟨T, ?_, g2⟩
  have k199 := s199_a (d := d + 1) (S := S) (k := k) (by omega) (by omega)
  rw [e200, b200_0, if_neg (nkk (by omega) (by decide) (by omega)), b200_23, if_neg (nkk (by omega) (by decide) (by omega)), b200_45, if_neg (nkk (by omega) (by decide) (by omega)), b200_77, if_neg (nI_ge (by omega) (by omega)), b200_81, k199, hp_bd, hp_tsc, b200_86 (wx_k92 hw), g1, hp_bd, hp_ts, b200_90]
theorem b200c (hw : mm_W S) (hr : gm_r S l) (hl : l.length + 2 ≤ 20) (hy : mA0 S b e v) : mAct S (d + 2) 200 2 x l (x * nI 3 + nI b, [30, 10]) := by
  obtain ⟨T, g1, g2⟩ := s198n (d := d + 1) (c := 30) hw hr (by omega)
  have yT := mg_A g2 hy
  obtain ⟨U, g3, g4⟩ := b200z (d := d) (x := x * nI 3) g2.2.1 g2.2.2.1 (by rw [len1]; omega) yT
  rw [ll] at g4
  have k199 := s199_a (d := d + 1) (S := T) (k := 2) (by omega) (by omega)
  refine ⟨U, ?_, mg_tr g2 g4⟩
  rw [e200, b200_0, if_pos rfl, b200_5 (wx_k92 hw), g1, hp_bd, hp_tn, b200_11, k199, hp_bd, hp_tsc, b200_16 (wx_k92 g2.2.1), g3, hp_bd, hp_ts, b200_22]
theorem bid_m (hw : mm_W S) (hr : gm_r S l) (hl : l.length + 2 ≤ 20) (hk : k < 7) (hy : mA0 S b e v) : mAct S (d + 3) 200 k x l (ab_bid k (nI b) (nI v) x) := by
  rcases k7c hk with rfl | rfl | rfl | rfl | rfl | rfl | rfl
  · exact b200z hw hr (by omega) hy
  · exact b200a hw hr (by omega) (Or.inl rfl) hy
  · exact b200c hw hr hl hy
  · exact b200a hw hr (by omega) (Or.inr rfl) hy
  · obtain ⟨T, g1, g2⟩ := s198n (d := d + 2) (c := 50) hw hr (by omega)
    have yT := mg_A g2 hy
    obtain ⟨U, g3, g4⟩ := b200a (d := d) (k := 1) (x := x) g2.2.1 g2.2.2.1 (by rw [len1]; omega) (Or.inl rfl) yT
    rw [ll] at g4
    have k199 := s199_b (d := d + 2) (S := T) (k := 4) (by omega) (by omega)
    refine ⟨U, ?_, mg_tr g2 g4⟩
    rw [e200, b200_0, if_neg (nkk (by decide) (by decide) (by decide)), b200_23, if_pos rfl, b200_28 (wx_k92 hw), g1, hp_bd, hp_tn, b200_34, k199, hp_bd, hp_tsc, b200_39 (wx_k92 g2.2.1), g3, hp_bd, hp_ts, b200_43]
    rfl
  · obtain ⟨T, g1, g2⟩ := b200c (d := d) (x := x) hw hr hl hy
    have k199 := s199_b (d := d + 2) (S := S) (k := 5) (by omega) (by omega)
    refine ⟨T, ?_, g2⟩
    rw [e200, b200_0, if_neg (nkk (by decide) (by decide) (by decide)), b200_23, if_neg (nkk (by decide) (by decide) (by decide)), b200_45, if_neg (nkk (by decide) (by decide) (by decide)), b200_77, if_neg (by decide), b200_81, k199, hp_bd, hp_tsc, b200_86 (wx_k92 hw), g1, hp_bd, hp_ts, b200_90]
    rfl
  · obtain ⟨T, g1, g2⟩ := s198n (d := d + 2) (c := 71) hw hr (by omega)
    have yT := mg_A g2 hy
    obtain ⟨U, g3, g4⟩ := b200a (d := d) (k := 3) (x := x) g2.2.1 g2.2.2.1 (by rw [len1]; omega) (Or.inr rfl) yT
    have yU := mg_A g4 yT
    have wU := g4.2.1
    rw [ll] at g4
    have k199 := s199_b (d := d + 2) (S := T) (k := 6) (by omega) (by omega)
    refine ⟨U, ?_, mg_tr g2 g4⟩
    rw [e200, b200_0, if_neg (nkk (by decide) (by decide) (by decide)), b200_23, if_neg (nkk (by decide) (by decide) (by decide)), b200_45, if_pos rfl, b200_51 (wx_k92 hw), g1, hp_bd, hp_tn, b200_57, k199, hp_bd, hp_tsc, b200_62 (wx_k92 g2.2.1), g3, hp_bd, hp_ts, b200_66 (wx_o92 wU) (wx_s92_2 wU) (by rw [yU.1, wx_g92_2 wU, wx_N94 wU]; exact hp_inb hy.2.1 (by have := hy.2.1; omega)) (by rw [wx_g92_2 wU]; exact wx_a94 wU), wx_g92_2 wU, yU.1, nI_clamp (by have := hy.2.1; omega), yU.2.2.2]
    rfl
/-- waits at the level 0 -/
theorem b201z (hw : mm_W S) (hr : gm_r S l) (hl : l.length + 3 ≤ 20) (hk : k < 7) (hy : mA0 S b k v) : mAct S (d + 4) 201 0 x l (ab_w0 k (nI b) (nI v) x) := by
  obtain ⟨T, g1, g2⟩ := s198n (d := d + 3) (c := 11) hw hr (by omega)
  have yT := mg_A g2 hy
  have wT := g2.2.1
  obtain ⟨U, g3, g4⟩ := bid_m (d := d) (k := k) (x := x) g2.2.1 g2.2.2.1 (by rw [len1]; omega) hk yT
  have yU := mg_A g4 yT
  have wU := g4.2.1
  rw [ll] at g4
  have hb := hy.2.1
  refine ⟨U, ?_, mg_tr g2 g4⟩
  rw [e201, b201_0, if_neg (nkk (by decide) (by decide) (by decide)), b201_24, if_neg (nkk (by decide) (by decide) (by decide)), b201_47, if_neg (nkk (by decide) (by decide) (by decide)), b201_81, if_pos (by decide), b201_95 (wx_k92 hw), g1, hp_bd, hp_tn, b201_101 (wx_o92 wT) (wx_s92_1 wT) (by rw [yT.1, wx_g92_1 wT, wx_N93 wT]; exact hp_inb hb (by omega)) (by rw [wx_g92_1 wT]; exact wx_a93 wT) (wx_k92 wT), wx_g92_1 wT, yT.1, nI_clamp (by omega), yT.2.2.1, g3, hp_bd, hp_ts, b201_115 (wx_o92 wU) (wx_s92_2 wU) (by rw [yU.1, wx_g92_2 wU, wx_N94 wU]; exact hp_inb hb (by omega)) (by rw [wx_g92_2 wU]; exact wx_a94 wU), wx_g92_2 wU, yU.1, nI_clamp (by omega), yU.2.2.2]
  rfl
theorem b201a (hw : mm_W S) (hr : gm_r S l) (hl : l.length + 3 ≤ 20) (hk : k < 7) (hy : mA0 S b k v) (he : e = 2 ∨ e = 3) : mAct S (d + 5) 201 e x l (ab_w0 k (nI b) (nI v) x) := by
  obtain ⟨T, g1, g2⟩ := b201z (d := d) (x := x) hw hr hl hk hy
  have k199 := s199_a (d := d + 4) (S := S) (k := e) (by omega) (by omega)
  refine ⟨T, ?_, g2⟩
  rw [e201, b201_0, if_neg (nkk (by omega) (by decide) (by omega)), b201_24, if_neg (nkk (by omega) (by decide) (by omega)), b201_47, if_neg (nkk (by omega) (by decide) (by omega)), b201_81, if_neg (nI_ge (by omega) (by omega)), b201_85, k199, hp_bd, hp_tsc, b201_90 (wx_k92 hw), g1, hp_bd, hp_ts, b201_94]
theorem b201b (hw : mm_W S) (hr : gm_r S l) (hl : l.length + 4 ≤ 20) (hk : k < 7) (hy : mA0 S b k v) : mAct S (d + 5) 201 1 x l ((ab_w0 k (nI b) (nI v) x).1 ^^^ nI 6, 20 :: (ab_w0 k (nI b) (nI v) x).2) := by
  obtain ⟨T, g1, g2⟩ := s198n (d := d + 4) (c := 20) hw hr (by omega)
  have yT := mg_A g2 hy
  obtain ⟨U, g3, g4⟩ := b201z (d := d) (x := x) g2.2.1 g2.2.2.1 (by rw [len1]; omega) hk yT
  rw [ll] at g4
  have k199 := s199_a (d := d + 4) (S := T) (k := 1) (by omega) (by omega)
  refine ⟨U, ?_, mg_tr g2 g4⟩
  rw [e201, b201_0, if_pos rfl, b201_5 (wx_k92 hw), g1, hp_bd, hp_tn, b201_11, k199, hp_bd, hp_tsc, b201_16 (wx_k92 g2.2.1), g3, hp_bd, hp_ts, b201_20]
theorem wait_m (hw : mm_W S) (hr : gm_r S l) (hl : l.length + 5 ≤ 20) (hk : k < 7) (hy : mA0 S b k v) : mAct S (d + 6) 201 k x l (ab_wait k (nI b) (nI v) x) := by
  rcases k7c hk with rfl | rfl | rfl | rfl | rfl | rfl | rfl
  · exact b201z hw hr (by omega) hk hy
  · exact b201b hw hr (by omega) hk hy
  · exact b201a hw hr (by omega) hk hy (Or.inl rfl)
  · exact b201a hw hr (by omega) hk hy (Or.inr rfl)
  · obtain ⟨T, g1, g2⟩ := s198n (d := d + 5) (c := 51) hw hr (by omega)
    have yT := mg_A g2 hy
    obtain ⟨U, g3, g4⟩ := b201b (d := d) (x := x + nI 1) g2.2.1 g2.2.2.1 (by rw [len1]; omega) hk yT
    rw [ll] at g4
    have k199 := s199_b (d := d + 5) (S := T) (k := 4) (by omega) (by omega)
    refine ⟨U, ?_, mg_tr g2 g4⟩
    rw [e201, b201_0, if_neg (nkk (by decide) (by decide) (by decide)), b201_24, if_pos rfl, b201_29 (wx_k92 hw), g1, hp_bd, hp_tn, b201_35, k199, hp_bd, hp_tsc, b201_40 (wx_k92 g2.2.1), g3, hp_bd, hp_ts, b201_46]
    rfl
  · obtain ⟨T, g1, g2⟩ := b201a (d := d) (e := 2) (x := x) hw hr (by omega) hk hy (Or.inl rfl)
    have k199 := s199_b (d := d + 5) (S := S) (k := 5) (by omega) (by omega)
    refine ⟨T, ?_, g2⟩
    rw [e201, b201_0, if_neg (nkk (by decide) (by decide) (by decide)), b201_24, if_neg (nkk (by decide) (by decide) (by decide)), b201_47, if_neg (nkk (by decide) (by decide) (by decide)), b201_81, if_neg (by decide), b201_85, k199, hp_bd, hp_tsc, b201_90 (wx_k92 hw), g1, hp_bd, hp_ts, b201_94]
    rfl
  · obtain ⟨T, g1, g2⟩ := s198n (d := d + 5) (c := 70) hw hr (by omega)
    have yT := mg_A g2 hy
    obtain ⟨U, g3, g4⟩ := b201a (d := d) (e := 3) (x := x) g2.2.1 g2.2.2.1 (by rw [len1]; omega) hk yT (Or.inr rfl)
    have yU := mg_A g4 yT
    have wU := g4.2.1
    obtain ⟨V, g5, g6⟩ := b200a (d := d + 3) (k := 3) (x := nI 2) g4.2.1 g4.2.2.1 (by
      have h2 : (ab_w0 6 (nI b) (nI v) x).2.length = 3 := rfl
      rw [List.length_append, len1, h2]; omega) (Or.inr rfl) yU
    rw [ll] at g4
    have g6' : mLog U V (l ++ (70 :: (ab_w0 6 (nI b) (nI v) x).2 ++ [10])) := by
      have e : l ++ [70] ++ (ab_w0 6 (nI b) (nI v) x).2 ++ [10] = l ++ (70 :: (ab_w0 6 (nI b) (nI v) x).2 ++ [10]) := by rw [ll, List.append_assoc]
      rw [← e]; exact g6
    have k199 := s199_b (d := d + 5) (S := T) (k := 6) (by omega) (by omega)
    have k199U := s199_b (d := d + 5) (S := U) (k := 6) (by omega) (by omega)
    refine ⟨V, ?_, mg_tr g2 (mg_tr g4 g6')⟩
    rw [e201, b201_0, if_neg (nkk (by decide) (by decide) (by decide)), b201_24, if_neg (nkk (by decide) (by decide) (by decide)), b201_47, if_pos rfl, b201_53 (wx_k92 hw), g1, hp_bd, hp_tn, b201_59, k199, hp_bd, hp_tsc, b201_64 (wx_k92 g2.2.1), g3, hp_bd, hp_ts, b201_68, k199U, hp_bd, hp_tsc, b201_75 (wx_k92 wU), g5, hp_bd, hp_tsc, b201_79]
    rfl
/-- tells at the level 0 -/
theorem b202z (hw : mm_W S) (hr : gm_r S l) (hl : l.length + 6 ≤ 20) (hk : k < 7) (hy : mA0 S b k v) : mAct S (d + 7) 202 0 x l (ab_t0 k (nI b) (nI v) x) := by
  obtain ⟨T, g1, g2⟩ := s198n (d := d + 6) (c := 12) hw hr (by omega)
  have yT := mg_A g2 hy
  have wT := g2.2.1
  obtain ⟨U, g3, g4⟩ := wait_m (d := d) (k := k) (x := x) g2.2.1 g2.2.2.1 (by rw [len1]; omega) hk yT
  rw [ll] at g4
  have hb := hy.2.1
  refine ⟨U, ?_, mg_tr g2 g4⟩
  rw [e202, b202_0, if_neg (nkk (by decide) (by decide) (by decide)), b202_38, if_neg (nkk (by decide) (by decide) (by decide)), b202_64, if_pos (by decide), b202_78 (wx_k92 hw), g1, hp_bd, hp_tn, b202_84 (wx_o92 wT) (wx_s92_1 wT) (by rw [yT.1, wx_g92_1 wT, wx_N93 wT]; exact hp_inb hb (by omega)) (by rw [wx_g92_1 wT]; exact wx_a93 wT) (wx_k92 wT), wx_g92_1 wT, yT.1, nI_clamp (by omega), yT.2.2.1, g3, hp_bd, hp_ts, b202_98]
  rfl
theorem b202a (hw : mm_W S) (hr : gm_r S l) (hl : l.length + 6 ≤ 20) (hk : k < 7) (hy : mA0 S b k v) (he : e = 1 ∨ e = 2) : mAct S (d + 8) 202 e x l (ab_t0 k (nI b) (nI v) x) := by
  obtain ⟨T, g1, g2⟩ := b202z (d := d) (x := x) hw hr hl hk hy
  have k199 := s199_a (d := d + 7) (S := S) (k := e) (by omega) (by omega)
  refine ⟨T, ?_, g2⟩
  rw [e202, b202_0, if_neg (nkk (by omega) (by decide) (by omega)), b202_38, if_neg (nkk (by omega) (by decide) (by omega)), b202_64, if_neg (nI_ge (by omega) (by omega)), b202_68, k199, hp_bd, hp_tsc, b202_73 (wx_k92 hw), g1, hp_bd, hp_ts, b202_77]
theorem b202b (hw : mm_W S) (hr : gm_r S l) (hl : l.length + 12 ≤ 20) (hk : k < 7) (hy : mA0 S b k v) : mAct S (d + 8) 202 3 x l ((ab_t0 k (nI b) (nI v) x).1 + (ab_wait k (nI b) (nI v) (nI 1)).1, 40 :: (ab_t0 k (nI b) (nI v) x).2 ++ (ab_wait k (nI b) (nI v) (nI 1)).2) := by
  obtain ⟨T, g1, g2⟩ := s198n (d := d + 7) (c := 40) hw hr (by omega)
  have yT := mg_A g2 hy
  obtain ⟨U, g3, g4⟩ := b202z (d := d) (x := x) g2.2.1 g2.2.2.1 (by rw [len1]; omega) hk yT
  have yU := mg_A g4 yT
  have wU := g4.2.1
  have hb := hy.2.1
  have hl2 : (ab_t0 k (nI b) (nI v) x).2.length ≤ 6 := by
    have := @wait_len k x hk (nI b) (nI v)
    show (12 :: (ab_wait k (nI b) (nI v) x).2).length ≤ 6
    rw [List.length_cons]; omega
  obtain ⟨V, g5, g6⟩ := wait_m (d := d + 1) (x := nI 1) g4.2.1 g4.2.2.1 (by rw [List.length_append, len1]; omega) hk yU
  rw [ll] at g4
  have g6' : mLog U V (l ++ (40 :: (ab_t0 k (nI b) (nI v) x).2 ++ (ab_wait k (nI b) (nI v) (nI 1)).2)) := by
    have e : l ++ [40] ++ (ab_t0 k (nI b) (nI v) x).2 ++ (ab_wait k (nI b) (nI v) (nI 1)).2 = l ++ (40 :: (ab_t0 k (nI b) (nI v) x).2 ++ (ab_wait k (nI b) (nI v) (nI 1)).2) := by rw [ll, List.append_assoc]
    rw [← e]; exact g6
  have k199 := s199_a (d := d + 7) (S := T) (k := 3) (by omega) (by omega)
  refine ⟨V, ?_, mg_tr g2 (mg_tr g4 g6')⟩
  rw [e202, b202_0, if_pos rfl, b202_5 (wx_k92 hw), g1, hp_bd, hp_tn, b202_11, k199, hp_bd, hp_tsc, b202_16 (wx_k92 g2.2.1), g3, hp_bd, hp_ts, b202_20 (wx_o92 wU) (wx_s92_1 wU) (by rw [yU.1, wx_g92_1 wU, wx_N93 wU]; exact hp_inb hb (by omega)) (by rw [wx_g92_1 wU]; exact wx_a93 wU) (wx_k92 wU), wx_g92_1 wU, yU.1, nI_clamp (by omega), yU.2.2.1, g5, hp_bd, hp_tsc, b202_36]
theorem tell_m (hw : mm_W S) (hr : gm_r S l) (hl : l.length + 12 ≤ 20) (hk : k < 7) (hy : mA0 S b k v) : mAct S (d + 9) 202 k x l (ab_tell k (nI b) (nI v) x) := by
  rcases k7c hk with rfl | rfl | rfl | rfl | rfl | rfl | rfl
  · exact b202z hw hr (by omega) hk hy
  · exact b202a hw hr (by omega) hk hy (Or.inl rfl)
  · exact b202a hw hr (by omega) hk hy (Or.inr rfl)
  · exact b202b hw hr (by omega) hk hy
  · obtain ⟨T, g1, g2⟩ := b202a (d := d) (e := 1) (x := x) hw hr (by omega) hk hy (Or.inl rfl)
    have k199 := s199_b (d := d + 8) (S := S) (k := 4) (by omega) (by omega)
    refine ⟨T, ?_, g2⟩
    rw [e202, b202_0, if_neg (nkk (by decide) (by decide) (by decide)), b202_38, if_neg (nkk (by decide) (by decide) (by decide)), b202_64, if_neg (by decide), b202_68, k199, hp_bd, hp_tsc, b202_73 (wx_k92 hw), g1, hp_bd, hp_ts, b202_77]
    rfl
  · obtain ⟨T, g1, g2⟩ := s198n (d := d + 8) (c := 60) hw hr (by omega)
    have yT := mg_A g2 hy
    have wT := g2.2.1
    obtain ⟨U, g3, g4⟩ := b202a (d := d) (e := 2) (x := x - nI b) g2.2.1 g2.2.2.1 (by rw [len1]; omega) hk yT (Or.inr rfl)
    rw [ll] at g4
    have k199 := s199_b (d := d + 8) (S := T) (k := 5) (by omega) (by omega)
    refine ⟨U, ?_, mg_tr g2 g4⟩
    rw [e202, b202_0, if_neg (nkk (by decide) (by decide) (by decide)), b202_38, if_pos rfl, b202_43 (wx_k92 hw), g1, hp_bd, hp_tn, b202_49, k199, hp_bd, hp_tsc, b202_54 (wx_o92 wT) (wx_k92 wT), yT.1, g3, hp_bd, hp_ts, b202_63]
    rfl
  · obtain ⟨T, g1, g2⟩ := b202b (d := d) (x := x) hw hr hl hk hy
    have k199 := s199_b (d := d + 8) (S := S) (k := 6) (by omega) (by omega)
    refine ⟨T, ?_, g2⟩
    rw [e202, b202_0, if_neg (nkk (by decide) (by decide) (by decide)), b202_38, if_neg (nkk (by decide) (by decide) (by decide)), b202_64, if_neg (by decide), b202_68, k199, hp_bd, hp_tsc, b202_73 (wx_k92 hw), g1, hp_bd, hp_ts, b202_77]
    rfl
end MA
section MAD
variable {S T U : mm_S} {G : gb_G} {d b e k v w : Nat} {x a y : Int32} {l m : List Nat}
theorem RM_r (ok : gb_ok G) (h : sf_f gm_rr S T) (hw : mm_W T) (hR : RM S G) (ht : gm_r T l) : RM T (gS_r G l) := by
  obtain ⟨-, h1, h2, h3, h4, h5, h6, h7⟩ := hR
  have g : ∀ c j, ¬ ((c = 92 ∧ (j = 28 ∨ j = 74)) ∨ c = 109) → mm_M T c j = mm_M S c j := fun c j q => (h.1 c j q).1
  exact ⟨hw, mt_X ok.1.1.1 (row_le ok.1.1 ok.1.2.1) (fun c j q => g c j (by unfold nX at q; omega)) h1, mt_i (fun c j q => g c j (by omega)) h2, mt_s (fun c j q => g c j (by omega)) h3, mt_t (fun c j q => g c j (by omega)) h4, mt_p (fun c j q => g c j (by omega)) (fun j => (h.1 112 j (by unfold gm_rr; omega)).2.1) h5, ht, mt_c (fun c j q => g c j (by omega)) h7⟩
theorem mrr_0 (h : sf_f gm_rr S T) : sf_f gm_0 S T := sf_mo h (fun c j h => by unfold gm_rr at h; unfold gm_0; omega)
theorem m_27 (ok : gb_ok G) (hR : RM S G) : oM S (d + 10) 203 [.ref 92, .int x, .int a, .int y] (.int (op_27 G x a y).1) (op_27 G x a y).2 := by
  have hw := hR.1
  have hk : gK G ≤ 6 := ok.1.1.1
  have f0 : sf_f gm_rr S (mm_uM S 92 28 (nI 0)) := sf_uM (Or.inl ⟨rfl, Or.inl rfl⟩)
  have w0 : mm_W (mm_uM S 92 28 (nI 0)) := hw
  have r0 : gm_r (mm_uM S 92 28 (nI 0)) [] := ⟨rds, fun i hi => absurd hi (Nat.not_lt_zero i)⟩
  have R0 := RM_r ok f0 w0 hR r0
  have ok0 : gb_ok (gS_r G []) := ok_r ok (by decide) (fun b hb => by cases hb)
  have st : mm_cl (d + 10) 203 [.ref 92, .int x, .int a, .int y] S = mm_bd (mm_cl (d + 9) 129 [.ref 92, .int x] (mm_uM S 92 28 (nI 0))) (fun v S2 => mm_ex (d + 10) 203 10 [.ref 92, .int x, .int a, .int y] (v.toList ++ []) S2) := by
    rw [e203, b203_0 (wx_o92 hw) (wx_k92 hw)]
  rcases kw_c hk x with ⟨e, h⟩ | ⟨b, hb, e, rfl⟩
  · have k := m129n (G := gS_r G []) (d := d + 8) ok0 R0 e
    have eo : op_27 G x a y = (nI 0, gS_r G []) := by unfold op_27; simp only [e]
    rw [eo]
    refine ⟨_, ?_, R0, mrr_0 f0, rfl, rfl⟩
    rw [st, k, hp_bd, hp_ts, b203_10, if_pos rfl, b203_22]
  have k := m129s (G := gS_r G []) (d := d + 8) ok0 R0 hb
  have hk7 : ab_ki (gP G) b < 7 := (ok.1.1.2.2.2.1 b hb).1
  have hb6 : b < 6 := by omega
  have k128 : mm_cl (d + 9) 128 [.int a, .int (nI 0), .int (nI 2)] (mm_uM S 92 28 (nI 0)) = some (some (.int (if a < nI 0 ∨ nI 2 < a then nI 0 else nI 1)), mm_uM S 92 28 (nI 0)) := s128
  have st2 : mm_cl (d + 10) 203 [.ref 92, .int (nI b), .int a, .int y] S = mm_ex (d + 10) 203 19 [.ref 92, .int (nI b), .int a, .int y] [.int (if a < nI 0 ∨ nI 2 < a then nI 0 else nI 1)] (mm_uM S 92 28 (nI 0)) := by
    rw [st, k, hp_bd, hp_ts, b203_10, if_neg i01, b203_13, k128, hp_bd, hp_ts]
  have f1 : sf_f gm_rr S (mm_uM (mm_uM S 92 28 (nI 0)) 92 74 (nI b)) := sf_tr f0 (sf_uM (Or.inl ⟨rfl, Or.inr rfl⟩))
  have w1 : mm_W (mm_uM (mm_uM S 92 28 (nI 0)) 92 74 (nI b)) := hw
  have r1 : gm_r (mm_uM (mm_uM S 92 28 (nI 0)) 92 74 (nI b)) [] := ⟨(rdn (by omega)).trans rds, fun i hi => absurd hi (Nat.not_lt_zero i)⟩
  have p1 := hR.2.1.1.2.1 b hb
  have y1 : mA0 (mm_uM (mm_uM S 92 28 (nI 0)) 92 74 (nI b)) b (ab_ki (gP G) b) (ab_v (gP G) b) := ⟨rds, hb6, (rdn (by omega)).trans ((rdn (by omega)).trans p1.1), (rdn (by omega)).trans ((rdn (by omega)).trans p1.2.1)⟩
  have cl : (nI b).toNatClampNeg = b := nI_clamp (by omega)
  have hbi : mm_inb (nI b) 6 = true := hp_inb hb6 (by omega)
  have k93 : mm_M (mm_uM (mm_uM S 92 28 (nI 0)) 92 74 (nI b)) 93 b = nI (ab_ki (gP G) b) := y1.2.2.1
  have fin : ∀ {r : Int32 × List Nat} {U : mm_S}, mm_cl (d + 10) 203 [.ref 92, .int (nI b), .int a, .int y] S = some (some (.int r.1), U) → mLog (mm_uM (mm_uM S 92 28 (nI 0)) 92 74 (nI b)) U ([] ++ r.2) → oM S (d + 10) 203 [.ref 92, .int (nI b), .int a, .int y] (.int r.1) (gS_r G r.2) := by
    intro r U h1 h2
    have f := sf_tr f1 (sf_mo h2.1 (fun c j (h : (c = 92 ∧ j = 28) ∨ c = 109) => by unfold gm_rr; omega))
    exact ⟨U, h1, RM_r ok f h2.2.1 hR h2.2.2.1, mrr_0 f, h2.2.2.2.1, h2.2.2.2.2⟩
  generalize hV : mm_uM (mm_uM S 92 28 (nI 0)) 92 74 (nI b) = V at *
  by_cases a0 : a = nI 0
  · have eo : op_27 G (nI b) a y = ((ab_bid (ab_ki (gP G) b) (nI b) (nI (ab_v (gP G) b)) y).1, gS_r G (ab_bid (ab_ki (gP G) b) (nI b) (nI (ab_v (gP G) b)) y).2) := by unfold op_27; simp only [e, a0, if_true]
    obtain ⟨U, g1, g2⟩ := bid_m (d := d + 6) (x := y) w1 r1 (by decide) hk7 y1
    rw [eo]
    refine fin ?_ g2
    rw [st2, a0, if_neg (by decide), b203_19, if_neg i01, b203_24 (wx_o92 w0), if_pos rfl, hV, b203_33 (wx_o92 w1) (wx_s92_1 w1) (by rw [wx_g92_1 w1, wx_N93 w1]; exact hbi) (by rw [wx_g92_1 w1]; exact wx_a93 w1) (wx_k92 w1), wx_g92_1 w1, cl, k93, g1, hp_bd, hp_ts, b203_44]
  by_cases a1 : a = nI 1
  · have eo : op_27 G (nI b) a y = ((ab_wait (ab_ki (gP G) b) (nI b) (nI (ab_v (gP G) b)) y).1, gS_r G (ab_wait (ab_ki (gP G) b) (nI b) (nI (ab_v (gP G) b)) y).2) := by unfold op_27; simp only [e]; rw [if_neg a0, if_pos a1]
    obtain ⟨U, g1, g2⟩ := wait_m (d := d + 3) (x := y) w1 r1 (by decide) hk7 y1
    rw [eo]
    refine fin ?_ g2
    rw [st2, a1, if_neg (by decide), b203_19, if_neg i01, b203_24 (wx_o92 w0), if_neg (by decide), hV, b203_47, if_pos rfl, b203_52 (wx_o92 w1) (wx_s92_1 w1) (by rw [wx_g92_1 w1, wx_N93 w1]; exact hbi) (by rw [wx_g92_1 w1]; exact wx_a93 w1) (wx_k92 w1), wx_g92_1 w1, cl, k93, g1, hp_bd, hp_ts, b203_63]
  by_cases a2 : a = nI 2
  · have eo : op_27 G (nI b) a y = ((ab_tell (ab_ki (gP G) b) (nI b) (nI (ab_v (gP G) b)) y).1, gS_r G (ab_tell (ab_ki (gP G) b) (nI b) (nI (ab_v (gP G) b)) y).2) := by unfold op_27; simp only [e]; rw [if_neg a0, if_neg a1, if_pos a2]
    obtain ⟨U, g1, g2⟩ := tell_m (d := d) (x := y) w1 r1 (by decide) hk7 y1
    rw [eo]
    refine fin ?_ g2
    rw [st2, a2, if_neg (by decide), b203_19, if_neg i01, b203_24 (wx_o92 w0), if_neg (by decide), hV, b203_47, if_neg (by decide), b203_66 (wx_o92 w1) (wx_s92_1 w1) (by rw [wx_g92_1 w1, wx_N93 w1]; exact hbi) (by rw [wx_g92_1 w1]; exact wx_a93 w1) (wx_k92 w1), wx_g92_1 w1, cl, k93, g1, hp_bd, hp_ts, b203_77]
  have eo : op_27 G (nI b) a y = (nI 0, gS_r G []) := by unfold op_27; simp only [e]; rw [if_neg a0, if_neg a1, if_neg a2]
  have hor : a < nI 0 ∨ nI 2 < a := by
    rcases kw_d (n := 2) (m := 3) rfl (by decide) a with ⟨-, z, -⟩ | ⟨-, -, -, z, -⟩ | ⟨n, hn, -, z, -⟩
    · exact Or.inl (of_eq_true z)
    · exact Or.inr (of_eq_true z)
    · exfalso
      rcases (by omega : n = 0 ∨ n = 1 ∨ n = 2) with rfl | rfl | rfl
      · exact a0 z
      · exact a1 z
      · exact a2 z
  rw [eo]
  refine ⟨_, ?_, R0, mrr_0 f0, rfl, rfl⟩
  rw [st2, if_pos hor, b203_19, if_pos rfl, b203_22]
end MAD
