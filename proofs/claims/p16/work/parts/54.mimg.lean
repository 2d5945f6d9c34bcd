/-! ===== image, undo, buyer of the reference ===== -/
def mi_s (S : mm_S) (i : Nat) : mm_S := mm_wM S (fun c j => if j < i then (if c = 133 then mm_M S 100 j else if c = 131 then mm_M S 98 j else if c = 130 then mm_M S 97 j else if c = 129 then mm_M S 96 j else if c = 128 then mm_M S 95 j else if c = 127 then mm_M S 94 j else if c = 126 then mm_M S 93 j else mm_M S c j) else mm_M S c j)
def mu_s (S : mm_S) (i : Nat) : mm_S := mm_wM S (fun c j => if j < i then (if c = 100 then mm_M S 133 j else if c = 98 then mm_M S 131 j else if c = 97 then mm_M S 130 j else if c = 96 then mm_M S 129 j else if c = 95 then mm_M S 128 j else if c = 94 then mm_M S 127 j else if c = 93 then mm_M S 126 j else mm_M S c j) else mm_M S c j)
/-- one row copied, as far as place i -/
def mc_1 (S : mm_S) (a b i : Nat) : mm_S := mm_wM S (fun c j => if c = a ∧ j < i then mm_M S b j else mm_M S c j)
section IU
variable {S T : mm_S} {a b c d i j f k : Nat}
theorem mi_M : mm_M (mi_s S i) c j = if j < i then (if c = 133 then mm_M S 100 j else if c = 131 then mm_M S 98 j else if c = 130 then mm_M S 97 j else if c = 129 then mm_M S 96 j else if c = 128 then mm_M S 95 j else if c = 127 then mm_M S 94 j else if c = 126 then mm_M S 93 j else mm_M S c j) else mm_M S c j := id rfl
theorem mi_R : mm_R (mi_s S i) = mm_R S := id rfl
theorem mi_N : mm_N (mi_s S i) = mm_N S := id rfl
theorem mi_o : mm_obj (mi_s S i) c f = mm_obj S c f := id rfl
theorem mi_a : mm_arr (mi_s S i) c f = mm_arr S c f := id rfl
theorem mi_g : mm_rg (mi_s S i) c j = mm_rg S c j := id rfl
theorem mi_k : mm_rk (mi_s S i) c = mm_rk S c := id rfl
theorem mi_0 : mi_s S 0 = S := st_ext (fun c j => by rw [mi_M, if_neg (Nat.not_lt_zero j)]) (fun _ _ => rfl) (fun _ _ => rfl) (fun _ => rfl) (fun _ => rfl) rfl rfl
theorem mi_st : mm_uM (mm_uM (mm_uM (mm_uM (mm_uM (mm_uM (mm_uM (mi_s S i) 126 i (mm_M S 93 i)) 127 i (mm_M S 94 i)) 128 i (mm_M S 95 i)) 129 i (mm_M S 96 i)) 130 i (mm_M S 97 i)) 131 i (mm_M S 98 i)) 133 i (mm_M S 100 i) = mi_s S (i + 1) := by
  refine st_ext (fun c j => ?_) (fun _ _ => rfl) (fun _ _ => rfl) (fun _ => rfl) (fun _ => rfl) rfl rfl
  rw [hp_MuM, hp_MuM, hp_MuM, hp_MuM, hp_MuM, hp_MuM, hp_MuM, mi_M, mi_M]
  by_cases h : j = i
  · subst h
    rw [if_pos (Nat.lt_succ_self j), if_neg (Nat.lt_irrefl j)]
    simp only [and_true]
  · have e : (j < i + 1) = (j < i) := propext (by omega)
    simp only [h, and_false, if_false, e]
theorem mu_M : mm_M (mu_s S i) c j = if j < i then (if c = 100 then mm_M S 133 j else if c = 98 then mm_M S 131 j else if c = 97 then mm_M S 130 j else if c = 96 then mm_M S 129 j else if c = 95 then mm_M S 128 j else if c = 94 then mm_M S 127 j else if c = 93 then mm_M S 126 j else mm_M S c j) else mm_M S c j := id rfl
theorem mu_R : mm_R (mu_s S i) = mm_R S := id rfl
theorem mu_N : mm_N (mu_s S i) = mm_N S := id rfl
theorem mu_o : mm_obj (mu_s S i) c f = mm_obj S c f := id rfl
theorem mu_a : mm_arr (mu_s S i) c f = mm_arr S c f := id rfl
theorem mu_g : mm_rg (mu_s S i) c j = mm_rg S c j := id rfl
theorem mu_k : mm_rk (mu_s S i) c = mm_rk S c := id rfl
theorem mu_0 : mu_s S 0 = S := st_ext (fun c j => by rw [mu_M, if_neg (Nat.not_lt_zero j)]) (fun _ _ => rfl) (fun _ _ => rfl) (fun _ => rfl) (fun _ => rfl) rfl rfl
theorem mu_st : mm_uM (mm_uM (mm_uM (mm_uM (mm_uM (mm_uM (mm_uM (mu_s S i) 93 i (mm_M S 126 i)) 94 i (mm_M S 127 i)) 95 i (mm_M S 128 i)) 96 i (mm_M S 129 i)) 97 i (mm_M S 130 i)) 98 i (mm_M S 131 i)) 100 i (mm_M S 133 i) = mu_s S (i + 1) := by
  refine st_ext (fun c j => ?_) (fun _ _ => rfl) (fun _ _ => rfl) (fun _ => rfl) (fun _ => rfl) rfl rfl
  rw [hp_MuM, hp_MuM, hp_MuM, hp_MuM, hp_MuM, hp_MuM, hp_MuM, mu_M, mu_M]
  by_cases h : j = i
  · subst h
    rw [if_pos (Nat.lt_succ_self j), if_neg (Nat.lt_irrefl j)]
    simp only [and_true]
  · have e : (j < i + 1) = (j < i) := propext (by omega)
    simp only [h, and_false, if_false, e]
theorem mc_M : mm_M (mc_1 S a b i) c j = if c = a ∧ j < i then mm_M S b j else mm_M S c j := id rfl
theorem mc_0 : mc_1 S a b 0 = S := st_ext (fun c j => by rw [mc_M, if_neg (fun e => Nat.not_lt_zero j e.2)]) (fun _ _ => rfl) (fun _ _ => rfl) (fun _ => rfl) (fun _ => rfl) rfl rfl
theorem mc_st : mm_uM (mc_1 S a b i) a i (mm_M S b i) = mc_1 S a b (i + 1) := by
  refine st_ext (fun c j => ?_) (fun _ _ => rfl) (fun _ _ => rfl) (fun _ => rfl) (fun _ => rfl) rfl rfl
  rw [hp_MuM, mc_M, mc_M]
  by_cases h : c = a
  · by_cases h2 : j = i
    · rw [if_pos ⟨h, h2⟩, if_pos ⟨h, by omega⟩, h2]
    · rw [if_neg (fun e => h2 e.2)]
      by_cases h3 : j < i
      · rw [if_pos ⟨h, h3⟩, if_pos ⟨h, by omega⟩]
      · rw [if_neg (fun e => h3 e.2), if_neg (fun e => by omega)]
  · rw [if_neg (fun e => h e.1), if_neg (fun e => h e.1), if_neg (fun e => h e.1)]
theorem l196 (hw : mm_W S) : ∀ k i : Nat, i + k = 6 → mm_ex d 196 39 [.ref 92, .int (nI i)] [] (mi_s S i) = mm_ex d 196 135 [.ref 92, .int (nI 6)] [] (mi_s S 6) := by
  intro k
  induction k with
  | zero =>
    intro i hi
    have e : i = 6 := by omega
    subst e
    rw [b196_39, if_pos (by decide)]
  | succ k ih =>
    intro i hi
    have hi6 : i < 6 := by omega
    have hib := hp_inb hi6 (by omega)
    have hcl := nI_clamp (n := i) (by omega)
    rw [b196_39, if_neg (nI_ge hi6 (by decide)), ← ih (i + 1) (by omega), ← mi_st]
    simp +decide only [b196_45, b196_67, b196_79, b196_91, b196_103, b196_115, b196_127, hp_MuM, hp_LuL, hp_RuR, hp_McpM, hp_LcpL, hp_LuM, hp_RuM, hp_KuM, hp_NuM, hp_nuM, hp_zuM, hp_ouM, hp_auM, hp_kuM, hp_guM, hp_MuL, hp_RuL, hp_KuL, hp_NuL, hp_nuL, hp_zuL, hp_ouL, hp_auL, hp_kuL, hp_guL, hp_MuR, hp_LuR, hp_KuR, hp_NuR, hp_nuR, hp_zuR, hp_ouR, hp_auR, hp_kuR, hp_LcpM, hp_RcpM, hp_KcpM, hp_NcpM, hp_ncpM, hp_zcpM, hp_ocpM, hp_acpM, hp_kcpM, hp_gcpM, hp_McpL, hp_RcpL, hp_KcpL, hp_NcpL, hp_ncpL, hp_zcpL, hp_ocpL, hp_acpL, hp_kcpL, hp_gcpL, hp_MwM, hp_LwM, hp_RwM, hp_KwM, hp_NwM, hp_nwM, hp_zwM, hp_owM, hp_awM, hp_kwM, hp_gwM, hp_MwR, hp_LwR, hp_RwR, hp_KwR, hp_NwR, hp_nwR, hp_zwR, hp_owR, hp_awR, hp_kwR, hp_MwL, hp_LwL, hp_RwL, hp_KwL, hp_NwL, hp_nwL, hp_zwL, hp_owL, hp_awL, hp_kwL, hp_gwL, hp_w2M, hp_w2R, hp_w2L, wx_o92 hw, wx_k92 hw, wx_q92 hw, wx_g92_1 hw, wx_s92_1 hw, wx_N93 hw, wx_a93 hw, wx_g92_2 hw, wx_s92_2 hw, wx_N94 hw, wx_a94 hw, wx_g92_3 hw, wx_s92_3 hw, wx_N95 hw, wx_a95 hw, wx_g92_4 hw, wx_s92_4 hw, wx_N96 hw, wx_a96 hw, wx_g92_5 hw, wx_s92_5 hw, wx_N97 hw, wx_a97 hw, wx_g92_6 hw, wx_s92_6 hw, wx_N98 hw, wx_a98 hw, wx_g92_7 hw, wx_s92_7 hw, wx_N99 hw, wx_a99 hw, wx_g92_9 hw, wx_s92_9 hw, wx_N100 hw, wx_a100 hw, wx_g92_16 hw, wx_s92_16 hw, wx_N101 hw, wx_a101 hw, wx_g92_19 hw, wx_s92_19 hw, wx_N102 hw, wx_a102 hw, wx_g92_20 hw, wx_s92_20 hw, wx_N103 hw, wx_a103 hw, wx_g92_21 hw, wx_s92_21 hw, wx_N104 hw, wx_a104 hw, wx_g92_22 hw, wx_s92_22 hw, wx_N105 hw, wx_a105 hw, wx_g92_23 hw, wx_s92_23 hw, wx_N106 hw, wx_a106 hw, wx_g92_24 hw, wx_s92_24 hw, wx_N107 hw, wx_a107 hw, wx_g92_25 hw, wx_s92_25 hw, wx_N108 hw, wx_a108 hw, wx_g92_29 hw, wx_s92_29 hw, wx_N109 hw, wx_a109 hw, wx_g92_30 hw, wx_s92_30 hw, wx_N110 hw, wx_a110 hw, wx_g92_31 hw, wx_s92_31 hw, wx_N111 hw, wx_a111 hw, wx_g92_32 hw, wx_s92_32 hw, wx_N112 hw, wx_a112 hw, wx_g92_33 hw, wx_s92_33 hw, wx_N113 hw, wx_a113 hw, wx_g92_34 hw, wx_s92_34 hw, wx_N114 hw, wx_a114 hw, wx_g92_35 hw, wx_s92_35 hw, wx_N115 hw, wx_a115 hw, wx_g92_38 hw, wx_s92_38 hw, wx_N116 hw, wx_a116 hw, wx_g92_41 hw, wx_s92_41 hw, wx_N117 hw, wx_a117 hw, wx_g92_44 hw, wx_s92_44 hw, wx_N118 hw, wx_a118 hw, wx_g92_45 hw, wx_s92_45 hw, wx_N119 hw, wx_a119 hw, wx_g92_46 hw, wx_s92_46 hw, wx_N120 hw, wx_a120 hw, wx_g92_52 hw, wx_s92_52 hw, wx_N121 hw, wx_a121 hw, wx_g92_55 hw, wx_s92_55 hw, wx_N122 hw, wx_a122 hw, wx_g92_56 hw, wx_s92_56 hw, wx_N123 hw, wx_a123 hw, wx_g92_57 hw, wx_s92_57 hw, wx_N124 hw, wx_a124 hw, wx_g92_58 hw, wx_s92_58 hw, wx_N125 hw, wx_a125 hw, wx_g92_64 hw, wx_s92_64 hw, wx_N126 hw, wx_a126 hw, wx_g92_65 hw, wx_s92_65 hw, wx_N127 hw, wx_a127 hw, wx_g92_66 hw, wx_s92_66 hw, wx_N128 hw, wx_a128 hw, wx_g92_67 hw, wx_s92_67 hw, wx_N129 hw, wx_a129 hw, wx_g92_68 hw, wx_s92_68 hw, wx_N130 hw, wx_a130 hw, wx_g92_69 hw, wx_s92_69 hw, wx_N131 hw, wx_a131 hw, wx_g92_70 hw, wx_s92_70 hw, wx_N132 hw, wx_a132 hw, wx_g92_71 hw, wx_s92_71 hw, wx_N133 hw, wx_a133 hw, wx_g92_72 hw, wx_s92_72 hw, wx_N134 hw, wx_a134 hw, wx_g92_73 hw, wx_s92_73 hw, wx_N135 hw, wx_a135 hw, wx_g92_75 hw, wx_s92_75 hw, wx_N136 hw, wx_a136 hw, mi_M, mi_R, mi_N, mi_o, mi_a, mi_g, hib, hcl, List.not_mem_nil, false_implies, implies_true, nI_clamp, nI_add, Nat.reducePow, hp_bd, hp_bdi, hp_ts, hp_tn, hp_tsc, hp_tnc, Nat.reduceAdd, Nat.reduceSub, Nat.reduceMul, Nat.reduceLT, Nat.reduceLeDiff, Nat.reduceEqDiff, reduceIte, not_true_eq_false, not_false_eq_true, and_true, true_and, and_self, and_false, false_and, or_true, true_or, or_false, false_or, decide_true, decide_false, Bool.and_true, Bool.true_and, Bool.not_false, Bool.or_false, Bool.false_or, Bool.or_true, Bool.true_or, Nat.lt_irrefl, if_false]
theorem l197 (hw : mm_W S) : ∀ k i : Nat, i + k = 6 → mm_ex d 197 44 [.ref 92, .int (nI i)] [] (mu_s S i) = mm_ex d 197 140 [.ref 92, .int (nI 6)] [] (mu_s S 6) := by
  intro k
  induction k with
  | zero =>
    intro i hi
    have e : i = 6 := by omega
    subst e
    rw [b197_44, if_pos (by decide)]
  | succ k ih =>
    intro i hi
    have hi6 : i < 6 := by omega
    have hib := hp_inb hi6 (by omega)
    have hcl := nI_clamp (n := i) (by omega)
    rw [b197_44, if_neg (nI_ge hi6 (by decide)), ← ih (i + 1) (by omega), ← mu_st]
    simp +decide only [b197_50, b197_72, b197_84, b197_96, b197_108, b197_120, b197_132, hp_MuM, hp_LuL, hp_RuR, hp_McpM, hp_LcpL, hp_LuM, hp_RuM, hp_KuM, hp_NuM, hp_nuM, hp_zuM, hp_ouM, hp_auM, hp_kuM, hp_guM, hp_MuL, hp_RuL, hp_KuL, hp_NuL, hp_nuL, hp_zuL, hp_ouL, hp_auL, hp_kuL, hp_guL, hp_MuR, hp_LuR, hp_KuR, hp_NuR, hp_nuR, hp_zuR, hp_ouR, hp_auR, hp_kuR, hp_LcpM, hp_RcpM, hp_KcpM, hp_NcpM, hp_ncpM, hp_zcpM, hp_ocpM, hp_acpM, hp_kcpM, hp_gcpM, hp_McpL, hp_RcpL, hp_KcpL, hp_NcpL, hp_ncpL, hp_zcpL, hp_ocpL, hp_acpL, hp_kcpL, hp_gcpL, hp_MwM, hp_LwM, hp_RwM, hp_KwM, hp_NwM, hp_nwM, hp_zwM, hp_owM, hp_awM, hp_kwM, hp_gwM, hp_MwR, hp_LwR, hp_RwR, hp_KwR, hp_NwR, hp_nwR, hp_zwR, hp_owR, hp_awR, hp_kwR, hp_MwL, hp_LwL, hp_RwL, hp_KwL, hp_NwL, hp_nwL, hp_zwL, hp_owL, hp_awL, hp_kwL, hp_gwL, hp_w2M, hp_w2R, hp_w2L, wx_o92 hw, wx_k92 hw, wx_q92 hw, wx_g92_1 hw, wx_s92_1 hw, wx_N93 hw, wx_a93 hw, wx_g92_2 hw, wx_s92_2 hw, wx_N94 hw, wx_a94 hw, wx_g92_3 hw, wx_s92_3 hw, wx_N95 hw, wx_a95 hw, wx_g92_4 hw, wx_s92_4 hw, wx_N96 hw, wx_a96 hw, wx_g92_5 hw, wx_s92_5 hw, wx_N97 hw, wx_a97 hw, wx_g92_6 hw, wx_s92_6 hw, wx_N98 hw, wx_a98 hw, wx_g92_7 hw, wx_s92_7 hw, wx_N99 hw, wx_a99 hw, wx_g92_9 hw, wx_s92_9 hw, wx_N100 hw, wx_a100 hw, wx_g92_16 hw, wx_s92_16 hw, wx_N101 hw, wx_a101 hw, wx_g92_19 hw, wx_s92_19 hw, wx_N102 hw, wx_a102 hw, wx_g92_20 hw, wx_s92_20 hw, wx_N103 hw, wx_a103 hw, wx_g92_21 hw, wx_s92_21 hw, wx_N104 hw, wx_a104 hw, wx_g92_22 hw, wx_s92_22 hw, wx_N105 hw, wx_a105 hw, wx_g92_23 hw, wx_s92_23 hw, wx_N106 hw, wx_a106 hw, wx_g92_24 hw, wx_s92_24 hw, wx_N107 hw, wx_a107 hw, wx_g92_25 hw, wx_s92_25 hw, wx_N108 hw, wx_a108 hw, wx_g92_29 hw, wx_s92_29 hw, wx_N109 hw, wx_a109 hw, wx_g92_30 hw, wx_s92_30 hw, wx_N110 hw, wx_a110 hw, wx_g92_31 hw, wx_s92_31 hw, wx_N111 hw, wx_a111 hw, wx_g92_32 hw, wx_s92_32 hw, wx_N112 hw, wx_a112 hw, wx_g92_33 hw, wx_s92_33 hw, wx_N113 hw, wx_a113 hw, wx_g92_34 hw, wx_s92_34 hw, wx_N114 hw, wx_a114 hw, wx_g92_35 hw, wx_s92_35 hw, wx_N115 hw, wx_a115 hw, wx_g92_38 hw, wx_s92_38 hw, wx_N116 hw, wx_a116 hw, wx_g92_41 hw, wx_s92_41 hw, wx_N117 hw, wx_a117 hw, wx_g92_44 hw, wx_s92_44 hw, wx_N118 hw, wx_a118 hw, wx_g92_45 hw, wx_s92_45 hw, wx_N119 hw, wx_a119 hw, wx_g92_46 hw, wx_s92_46 hw, wx_N120 hw, wx_a120 hw, wx_g92_52 hw, wx_s92_52 hw, wx_N121 hw, wx_a121 hw, wx_g92_55 hw, wx_s92_55 hw, wx_N122 hw, wx_a122 hw, wx_g92_56 hw, wx_s92_56 hw, wx_N123 hw, wx_a123 hw, wx_g92_57 hw, wx_s92_57 hw, wx_N124 hw, wx_a124 hw, wx_g92_58 hw, wx_s92_58 hw, wx_N125 hw, wx_a125 hw, wx_g92_64 hw, wx_s92_64 hw, wx_N126 hw, wx_a126 hw, wx_g92_65 hw, wx_s92_65 hw, wx_N127 hw, wx_a127 hw, wx_g92_66 hw, wx_s92_66 hw, wx_N128 hw, wx_a128 hw, wx_g92_67 hw, wx_s92_67 hw, wx_N129 hw, wx_a129 hw, wx_g92_68 hw, wx_s92_68 hw, wx_N130 hw, wx_a130 hw, wx_g92_69 hw, wx_s92_69 hw, wx_N131 hw, wx_a131 hw, wx_g92_70 hw, wx_s92_70 hw, wx_N132 hw, wx_a132 hw, wx_g92_71 hw, wx_s92_71 hw, wx_N133 hw, wx_a133 hw, wx_g92_72 hw, wx_s92_72 hw, wx_N134 hw, wx_a134 hw, wx_g92_73 hw, wx_s92_73 hw, wx_N135 hw, wx_a135 hw, wx_g92_75 hw, wx_s92_75 hw, wx_N136 hw, wx_a136 hw, mu_M, mu_R, mu_N, mu_o, mu_a, mu_g, hib, hcl, List.not_mem_nil, false_implies, implies_true, nI_clamp, nI_add, Nat.reducePow, hp_bd, hp_bdi, hp_ts, hp_tn, hp_tsc, hp_tnc, Nat.reduceAdd, Nat.reduceSub, Nat.reduceMul, Nat.reduceLT, Nat.reduceLeDiff, Nat.reduceEqDiff, reduceIte, not_true_eq_false, not_false_eq_true, and_true, true_and, and_self, and_false, false_and, or_true, true_or, or_false, false_or, decide_true, decide_false, Bool.and_true, Bool.true_and, Bool.not_false, Bool.or_false, Bool.false_or, Bool.or_true, Bool.true_or, Nat.lt_irrefl, if_false]
theorem l196_137 (hw : mm_W S) : ∀ k i : Nat, i + k = 18 → mm_ex d 196 137 [.ref 92, .int (nI i)] [] (mc_1 S 132 99 i) = mm_ex d 196 161 [.ref 92, .int (nI 18)] [] (mc_1 S 132 99 18) := by
  intro k
  induction k with
  | zero =>
    intro i hi
    have e : i = 18 := by omega
    subst e
    rw [b196_137, if_pos (by decide)]
  | succ k ih =>
    intro i hi
    have hib : mm_inb (nI i) 18 = true := hp_inb (by omega) (by omega)
    have hcl := nI_clamp (n := i) (by omega)
    have w : mm_W (mc_1 S 132 99 i) := hw
    have e1 : mm_M (mc_1 S 132 99 i) 99 i = mm_M S 99 i := by rw [mc_M, if_neg (fun e => by omega)]
    rw [b196_137, if_neg (nI_ge (by omega) (by decide)), b196_143 (wx_o92 w) (wx_s92_70 w) (wx_s92_7 w) (by rw [wx_g92_7 w, wx_N99 w]; exact hib) (by rw [wx_g92_7 w]; exact wx_a99 w) (by rw [wx_g92_70 w]; exact wx_a132 w) (by rw [wx_g92_70 w, wx_N132 w]; exact hib), wx_g92_7 w, wx_g92_70 w, hcl, e1, nI_add, mc_st, ih (i + 1) (by omega)]
theorem l196_163 (hw : mm_W S) : ∀ k i : Nat, i + k = 12 → mm_ex d 196 163 [.ref 92, .int (nI i)] [] (mc_1 S 135 101 i) = mm_ex d 196 187 [.ref 92, .int (nI 12)] [] (mc_1 S 135 101 12) := by
  intro k
  induction k with
  | zero =>
    intro i hi
    have e : i = 12 := by omega
    subst e
    rw [b196_163, if_pos (by decide)]
  | succ k ih =>
    intro i hi
    have hib : mm_inb (nI i) 12 = true := hp_inb (by omega) (by omega)
    have hcl := nI_clamp (n := i) (by omega)
    have w : mm_W (mc_1 S 135 101 i) := hw
    have e1 : mm_M (mc_1 S 135 101 i) 101 i = mm_M S 101 i := by rw [mc_M, if_neg (fun e => by omega)]
    rw [b196_163, if_neg (nI_ge (by omega) (by decide)), b196_169 (wx_o92 w) (wx_s92_73 w) (wx_s92_16 w) (by rw [wx_g92_16 w, wx_N101 w]; exact hib) (by rw [wx_g92_16 w]; exact wx_a101 w) (by rw [wx_g92_73 w]; exact wx_a135 w) (by rw [wx_g92_73 w, wx_N135 w]; exact hib), wx_g92_16 w, wx_g92_73 w, hcl, e1, nI_add, mc_st, ih (i + 1) (by omega)]
theorem l197_142 (hw : mm_W S) : ∀ k i : Nat, i + k = 18 → mm_ex d 197 142 [.ref 92, .int (nI i)] [] (mc_1 S 99 132 i) = mm_ex d 197 166 [.ref 92, .int (nI 18)] [] (mc_1 S 99 132 18) := by
  intro k
  induction k with
  | zero =>
    intro i hi
    have e : i = 18 := by omega
    subst e
    rw [b197_142, if_pos (by decide)]
  | succ k ih =>
    intro i hi
    have hib : mm_inb (nI i) 18 = true := hp_inb (by omega) (by omega)
    have hcl := nI_clamp (n := i) (by omega)
    have w : mm_W (mc_1 S 99 132 i) := hw
    have e1 : mm_M (mc_1 S 99 132 i) 132 i = mm_M S 132 i := by rw [mc_M, if_neg (fun e => by omega)]
    rw [b197_142, if_neg (nI_ge (by omega) (by decide)), b197_148 (wx_o92 w) (wx_s92_7 w) (wx_s92_70 w) (by rw [wx_g92_70 w, wx_N132 w]; exact hib) (by rw [wx_g92_70 w]; exact wx_a132 w) (by rw [wx_g92_7 w]; exact wx_a99 w) (by rw [wx_g92_7 w, wx_N99 w]; exact hib), wx_g92_70 w, wx_g92_7 w, hcl, e1, nI_add, mc_st, ih (i + 1) (by omega)]
theorem l197_168 (hw : mm_W S) : ∀ k i : Nat, i + k = 12 → mm_ex d 197 168 [.ref 92, .int (nI i)] [] (mc_1 S 101 135 i) = mm_ex d 197 192 [.ref 92, .int (nI 12)] [] (mc_1 S 101 135 12) := by
  intro k
  induction k with
  | zero =>
    intro i hi
    have e : i = 12 := by omega
    subst e
    rw [b197_168, if_pos (by decide)]
  | succ k ih =>
    intro i hi
    have hib : mm_inb (nI i) 12 = true := hp_inb (by omega) (by omega)
    have hcl := nI_clamp (n := i) (by omega)
    have w : mm_W (mc_1 S 101 135 i) := hw
    have e1 : mm_M (mc_1 S 101 135 i) 135 i = mm_M S 135 i := by rw [mc_M, if_neg (fun e => by omega)]
    rw [b197_168, if_neg (nI_ge (by omega) (by decide)), b197_174 (wx_o92 w) (wx_s92_16 w) (wx_s92_73 w) (by rw [wx_g92_73 w, wx_N135 w]; exact hib) (by rw [wx_g92_73 w]; exact wx_a135 w) (by rw [wx_g92_16 w]; exact wx_a101 w) (by rw [wx_g92_16 w, wx_N101 w]; exact hib), wx_g92_73 w, wx_g92_16 w, hcl, e1, nI_add, mc_st, ih (i + 1) (by omega)]
end IU
