/-! ===== buyer of the reference; what an object is stays well ===== -/
section MB
variable {S T : mm_S} {G : gb_G} {d b n c j : Nat} {x y z : Int32}
def mB_t (S : mm_S) (kn st k v w : Nat) : mm_S := mm_uM (mm_uM (mm_uM (mm_uM (mm_uM (mm_uM (mm_uM (mm_uM (mm_uM (mm_uM (mm_uM (mm_uM S 93 kn (nI k)) 94 kn (nI v)) 95 kn (nI w)) 96 kn (-5)) 97 kn (nI 0)) 98 kn (nI 0)) 99 (3 * kn + 0) (nI 0)) 99 (3 * kn + 1) (nI 0)) 99 (3 * kn + 2) (nI 0)) 100 st (nI kn)) 92 8 (nI (st + 1))) 92 0 (nI (kn + 1))
theorem mB_M {kn st k v w : Nat} : mm_M (mB_t S kn st k v w) c j = if c = 92 ∧ j = 0 then nI (kn + 1) else if c = 92 ∧ j = 8 then nI (st + 1) else if c = 100 ∧ j = st then nI kn else if c = 99 ∧ j = 3 * kn + 2 then nI 0 else if c = 99 ∧ j = 3 * kn + 1 then nI 0 else if c = 99 ∧ j = 3 * kn + 0 then nI 0 else if c = 98 ∧ j = kn then nI 0 else if c = 97 ∧ j = kn then nI 0 else if c = 96 ∧ j = kn then -5 else if c = 95 ∧ j = kn then nI w else if c = 94 ∧ j = kn then nI v else if c = 93 ∧ j = kn then nI k else mm_M S c j := by
  unfold mB_t
  rw [hp_MuM, hp_MuM, hp_MuM, hp_MuM, hp_MuM, hp_MuM, hp_MuM, hp_MuM, hp_MuM, hp_MuM, hp_MuM, hp_MuM]
theorem m_0 (ok : gb_ok G) (hR : RM S G) : oM S (d + 1) 131 [.ref 92, .int x, .int y, .int z] (.int (op_0 G x y z).1) (op_0 G x y z).2 := by
  have hw := hR.1
  have hk : gK G ≤ 6 := ok.1.1.1
  have hkn : mm_M S 92 0 = nI (gK G) := hR.2.1.1.1
  by_cases ex : ab_kw 7 x = none
  · have kx := m128n (d := d) (S := S) (n := 6) rfl (by decide) ex
    have eo : op_0 G x y z = (-1, G) := by unfold op_0; simp only [ex]
    rw [eo]
    refine oM_id hR ?_
    simp only [b131_0, b131_7, b131_10, b131_12, b131_19, b131_22, b131_29, b131_32, b131_35, b131_44, b131_47, b131_62, b131_72, b131_82, b131_93, b131_103, b131_138, b131_153, b131_163, b131_172, e131, wx_o92 hw, wx_k92 hw, wx_q92 hw, wx_g92_1 hw, wx_s92_1 hw, wx_N93 hw, wx_a93 hw, wx_g92_2 hw, wx_s92_2 hw, wx_N94 hw, wx_a94 hw, wx_g92_3 hw, wx_s92_3 hw, wx_N95 hw, wx_a95 hw, wx_g92_4 hw, wx_s92_4 hw, wx_N96 hw, wx_a96 hw, wx_g92_5 hw, wx_s92_5 hw, wx_N97 hw, wx_a97 hw, wx_g92_6 hw, wx_s92_6 hw, wx_N98 hw, wx_a98 hw, wx_g92_7 hw, wx_s92_7 hw, wx_N99 hw, wx_a99 hw, wx_g92_9 hw, wx_s92_9 hw, wx_N100 hw, wx_a100 hw, wx_g92_16 hw, wx_s92_16 hw, wx_N101 hw, wx_a101 hw, wx_g92_19 hw, wx_s92_19 hw, wx_N102 hw, wx_a102 hw, wx_g92_20 hw, wx_s92_20 hw, wx_N103 hw, wx_a103 hw, wx_g92_21 hw, wx_s92_21 hw, wx_N104 hw, wx_a104 hw, wx_g92_22 hw, wx_s92_22 hw, wx_N105 hw, wx_a105 hw, wx_g92_23 hw, wx_s92_23 hw, wx_N106 hw, wx_a106 hw, wx_g92_24 hw, wx_s92_24 hw, wx_N107 hw, wx_a107 hw, wx_g92_25 hw, wx_s92_25 hw, wx_N108 hw, wx_a108 hw, wx_g92_29 hw, wx_s92_29 hw, wx_N109 hw, wx_a109 hw, wx_g92_30 hw, wx_s92_30 hw, wx_N110 hw, wx_a110 hw, wx_g92_31 hw, wx_s92_31 hw, wx_N111 hw, wx_a111 hw, wx_g92_32 hw, wx_s92_32 hw, wx_N112 hw, wx_a112 hw, wx_g92_33 hw, wx_s92_33 hw, wx_N113 hw, wx_a113 hw, wx_g92_34 hw, wx_s92_34 hw, wx_N114 hw, wx_a114 hw, wx_g92_35 hw, wx_s92_35 hw, wx_N115 hw, wx_a115 hw, wx_g92_38 hw, wx_s92_38 hw, wx_N116 hw, wx_a116 hw, wx_g92_41 hw, wx_s92_41 hw, wx_N117 hw, wx_a117 hw, wx_g92_44 hw, wx_s92_44 hw, wx_N118 hw, wx_a118 hw, wx_g92_45 hw, wx_s92_45 hw, wx_N119 hw, wx_a119 hw, wx_g92_46 hw, wx_s92_46 hw, wx_N120 hw, wx_a120 hw, wx_g92_52 hw, wx_s92_52 hw, wx_N121 hw, wx_a121 hw, wx_g92_55 hw, wx_s92_55 hw, wx_N122 hw, wx_a122 hw, wx_g92_56 hw, wx_s92_56 hw, wx_N123 hw, wx_a123 hw, wx_g92_57 hw, wx_s92_57 hw, wx_N124 hw, wx_a124 hw, wx_g92_58 hw, wx_s92_58 hw, wx_N125 hw, wx_a125 hw, wx_g92_64 hw, wx_s92_64 hw, wx_N126 hw, wx_a126 hw, wx_g92_65 hw, wx_s92_65 hw, wx_N127 hw, wx_a127 hw, wx_g92_66 hw, wx_s92_66 hw, wx_N128 hw, wx_a128 hw, wx_g92_67 hw, wx_s92_67 hw, wx_N129 hw, wx_a129 hw, wx_g92_68 hw, wx_s92_68 hw, wx_N130 hw, wx_a130 hw, wx_g92_69 hw, wx_s92_69 hw, wx_N131 hw, wx_a131 hw, wx_g92_70 hw, wx_s92_70 hw, wx_N132 hw, wx_a132 hw, wx_g92_71 hw, wx_s92_71 hw, wx_N133 hw, wx_a133 hw, wx_g92_72 hw, wx_s92_72 hw, wx_N134 hw, wx_a134 hw, wx_g92_73 hw, wx_s92_73 hw, wx_N135 hw, wx_a135 hw, wx_g92_75 hw, wx_s92_75 hw, wx_N136 hw, wx_a136 hw, List.not_mem_nil, false_implies, implies_true, nI_clamp, nI_add, Nat.reducePow, hp_bd, hp_bdi, hp_ts, hp_tn, hp_tsc, hp_tnc, Nat.reduceAdd, Nat.reduceSub, Nat.reduceMul, Nat.reduceLT, Nat.reduceLeDiff, Nat.reduceEqDiff, reduceIte, not_true_eq_false, not_false_eq_true, and_true, true_and, and_self, and_false, false_and, or_true, true_or, or_false, false_or, decide_true, decide_false, Bool.and_true, Bool.true_and, Bool.not_false, Bool.or_false, Bool.false_or, Bool.or_true, Bool.true_or, i01, kx]
  rcases kw_d (n := 6) (m := 7) rfl (by decide) x with ⟨z, -⟩ | ⟨z, -⟩ | ⟨k, hk7, ex, rfl, -⟩
  · exact absurd z ex
  · exact absurd z ex
  have kx := m128s (d := d) (S := S) (n := 6) rfl (by decide) hk7
  by_cases ey : ab_kw 10 y = none
  · have ky := m128n (d := d) (S := S) (n := 9) rfl (by decide) ey
    have eo : op_0 G (nI k) y z = (-2, G) := by unfold op_0; simp only [ex, ey]
    rw [eo]
    refine oM_id hR ?_
    simp only [b131_0, b131_7, b131_10, b131_12, b131_19, b131_22, b131_29, b131_32, b131_35, b131_44, b131_47, b131_62, b131_72, b131_82, b131_93, b131_103, b131_138, b131_153, b131_163, b131_172, e131, wx_o92 hw, wx_k92 hw, wx_q92 hw, wx_g92_1 hw, wx_s92_1 hw, wx_N93 hw, wx_a93 hw, wx_g92_2 hw, wx_s92_2 hw, wx_N94 hw, wx_a94 hw, wx_g92_3 hw, wx_s92_3 hw, wx_N95 hw, wx_a95 hw, wx_g92_4 hw, wx_s92_4 hw, wx_N96 hw, wx_a96 hw, wx_g92_5 hw, wx_s92_5 hw, wx_N97 hw, wx_a97 hw, wx_g92_6 hw, wx_s92_6 hw, wx_N98 hw, wx_a98 hw, wx_g92_7 hw, wx_s92_7 hw, wx_N99 hw, wx_a99 hw, wx_g92_9 hw, wx_s92_9 hw, wx_N100 hw, wx_a100 hw, wx_g92_16 hw, wx_s92_16 hw, wx_N101 hw, wx_a101 hw, wx_g92_19 hw, wx_s92_19 hw, wx_N102 hw, wx_a102 hw, wx_g92_20 hw, wx_s92_20 hw, wx_N103 hw, wx_a103 hw, wx_g92_21 hw, wx_s92_21 hw, wx_N104 hw, wx_a104 hw, wx_g92_22 hw, wx_s92_22 hw, wx_N105 hw, wx_a105 hw, wx_g92_23 hw, wx_s92_23 hw, wx_N106 hw, wx_a106 hw, wx_g92_24 hw, wx_s92_24 hw, wx_N107 hw, wx_a107 hw, wx_g92_25 hw, wx_s92_25 hw, wx_N108 hw, wx_a108 hw, wx_g92_29 hw, wx_s92_29 hw, wx_N109 hw, wx_a109 hw, wx_g92_30 hw, wx_s92_30 hw, wx_N110 hw, wx_a110 hw, wx_g92_31 hw, wx_s92_31 hw, wx_N111 hw, wx_a111 hw, wx_g92_32 hw, wx_s92_32 hw, wx_N112 hw, wx_a112 hw, wx_g92_33 hw, wx_s92_33 hw, wx_N113 hw, wx_a113 hw, wx_g92_34 hw, wx_s92_34 hw, wx_N114 hw, wx_a114 hw, wx_g92_35 hw, wx_s92_35 hw, wx_N115 hw, wx_a115 hw, wx_g92_38 hw, wx_s92_38 hw, wx_N116 hw, wx_a116 hw, wx_g92_41 hw, wx_s92_41 hw, wx_N117 hw, wx_a117 hw, wx_g92_44 hw, wx_s92_44 hw, wx_N118 hw, wx_a118 hw, wx_g92_45 hw, wx_s92_45 hw, wx_N119 hw, wx_a119 hw, wx_g92_46 hw, wx_s92_46 hw, wx_N120 hw, wx_a120 hw, wx_g92_52 hw, wx_s92_52 hw, wx_N121 hw, wx_a121 hw, wx_g92_55 hw, wx_s92_55 hw, wx_N122 hw, wx_a122 hw, wx_g92_56 hw, wx_s92_56 hw, wx_N123 hw, wx_a123 hw, wx_g92_57 hw, wx_s92_57 hw, wx_N124 hw, wx_a124 hw, wx_g92_58 hw, wx_s92_58 hw, wx_N125 hw, wx_a125 hw, wx_g92_64 hw, wx_s92_64 hw, wx_N126 hw, wx_a126 hw, wx_g92_65 hw, wx_s92_65 hw, wx_N127 hw, wx_a127 hw, wx_g92_66 hw, wx_s92_66 hw, wx_N128 hw, wx_a128 hw, wx_g92_67 hw, wx_s92_67 hw, wx_N129 hw, wx_a129 hw, wx_g92_68 hw, wx_s92_68 hw, wx_N130 hw, wx_a130 hw, wx_g92_69 hw, wx_s92_69 hw, wx_N131 hw, wx_a131 hw, wx_g92_70 hw, wx_s92_70 hw, wx_N132 hw, wx_a132 hw, wx_g92_71 hw, wx_s92_71 hw, wx_N133 hw, wx_a133 hw, wx_g92_72 hw, wx_s92_72 hw, wx_N134 hw, wx_a134 hw, wx_g92_73 hw, wx_s92_73 hw, wx_N135 hw, wx_a135 hw, wx_g92_75 hw, wx_s92_75 hw, wx_N136 hw, wx_a136 hw, List.not_mem_nil, false_implies, implies_true, nI_clamp, nI_add, Nat.reducePow, hp_bd, hp_bdi, hp_ts, hp_tn, hp_tsc, hp_tnc, Nat.reduceAdd, Nat.reduceSub, Nat.reduceMul, Nat.reduceLT, Nat.reduceLeDiff, Nat.reduceEqDiff, reduceIte, not_true_eq_false, not_false_eq_true, and_true, true_and, and_self, and_false, false_and, or_true, true_or, or_false, false_or, decide_true, decide_false, Bool.and_true, Bool.true_and, Bool.not_false, Bool.or_false, Bool.false_or, Bool.or_true, Bool.true_or, i01, kx, ky]
  rcases kw_d (n := 9) (m := 10) rfl (by decide) y with ⟨z, -⟩ | ⟨z, -⟩ | ⟨v, hv, ey, rfl, -⟩
  · exact absurd z ey
  · exact absurd z ey
  have ky := m128s (d := d) (S := S) (n := 9) rfl (by decide) hv
  by_cases ez : ab_kw 100 z = none
  · have kz := m128n (d := d) (S := S) (n := 99) rfl (by decide) ez
    have eo : op_0 G (nI k) (nI v) z = (-2, G) := by unfold op_0; simp only [ex, ey, ez]
    rw [eo]
    refine oM_id hR ?_
    simp only [b131_0, b131_7, b131_10, b131_12, b131_19, b131_22, b131_29, b131_32, b131_35, b131_44, b131_47, b131_62, b131_72, b131_82, b131_93, b131_103, b131_138, b131_153, b131_163, b131_172, e131, wx_o92 hw, wx_k92 hw, wx_q92 hw, wx_g92_1 hw, wx_s92_1 hw, wx_N93 hw, wx_a93 hw, wx_g92_2 hw, wx_s92_2 hw, wx_N94 hw, wx_a94 hw, wx_g92_3 hw, wx_s92_3 hw, wx_N95 hw, wx_a95 hw, wx_g92_4 hw, wx_s92_4 hw, wx_N96 hw, wx_a96 hw, wx_g92_5 hw, wx_s92_5 hw, wx_N97 hw, wx_a97 hw, wx_g92_6 hw, wx_s92_6 hw, wx_N98 hw, wx_a98 hw, wx_g92_7 hw, wx_s92_7 hw, wx_N99 hw, wx_a99 hw, wx_g92_9 hw, wx_s92_9 hw, wx_N100 hw, wx_a100 hw, wx_g92_16 hw, wx_s92_16 hw, wx_N101 hw, wx_a101 hw, wx_g92_19 hw, wx_s92_19 hw, wx_N102 hw, wx_a102 hw, wx_g92_20 hw, wx_s92_20 hw, wx_N103 hw, wx_a103 hw, wx_g92_21 hw, wx_s92_21 hw, wx_N104 hw, wx_a104 hw, wx_g92_22 hw, wx_s92_22 hw, wx_N105 hw, wx_a105 hw, wx_g92_23 hw, wx_s92_23 hw, wx_N106 hw, wx_a106 hw, wx_g92_24 hw, wx_s92_24 hw, wx_N107 hw, wx_a107 hw, wx_g92_25 hw, wx_s92_25 hw, wx_N108 hw, wx_a108 hw, wx_g92_29 hw, wx_s92_29 hw, wx_N109 hw, wx_a109 hw, wx_g92_30 hw, wx_s92_30 hw, wx_N110 hw, wx_a110 hw, wx_g92_31 hw, wx_s92_31 hw, wx_N111 hw, wx_a111 hw, wx_g92_32 hw, wx_s92_32 hw, wx_N112 hw, wx_a112 hw, wx_g92_33 hw, wx_s92_33 hw, wx_N113 hw, wx_a113 hw, wx_g92_34 hw, wx_s92_34 hw, wx_N114 hw, wx_a114 hw, wx_g92_35 hw, wx_s92_35 hw, wx_N115 hw, wx_a115 hw, wx_g92_38 hw, wx_s92_38 hw, wx_N116 hw, wx_a116 hw, wx_g92_41 hw, wx_s92_41 hw, wx_N117 hw, wx_a117 hw, wx_g92_44 hw, wx_s92_44 hw, wx_N118 hw, wx_a118 hw, wx_g92_45 hw, wx_s92_45 hw, wx_N119 hw, wx_a119 hw, wx_g92_46 hw, wx_s92_46 hw, wx_N120 hw, wx_a120 hw, wx_g92_52 hw, wx_s92_52 hw, wx_N121 hw, wx_a121 hw, wx_g92_55 hw, wx_s92_55 hw, wx_N122 hw, wx_a122 hw, wx_g92_56 hw, wx_s92_56 hw, wx_N123 hw, wx_a123 hw, wx_g92_57 hw, wx_s92_57 hw, wx_N124 hw, wx_a124 hw, wx_g92_58 hw, wx_s92_58 hw, wx_N125 hw, wx_a125 hw, wx_g92_64 hw, wx_s92_64 hw, wx_N126 hw, wx_a126 hw, wx_g92_65 hw, wx_s92_65 hw, wx_N127 hw, wx_a127 hw, wx_g92_66 hw, wx_s92_66 hw, wx_N128 hw, wx_a128 hw, wx_g92_67 hw, wx_s92_67 hw, wx_N129 hw, wx_a129 hw, wx_g92_68 hw, wx_s92_68 hw, wx_N130 hw, wx_a130 hw, wx_g92_69 hw, wx_s92_69 hw, wx_N131 hw, wx_a131 hw, wx_g92_70 hw, wx_s92_70 hw, wx_N132 hw, wx_a132 hw, wx_g92_71 hw, wx_s92_71 hw, wx_N133 hw, wx_a133 hw, wx_g92_72 hw, wx_s92_72 hw, wx_N134 hw, wx_a134 hw, wx_g92_73 hw, wx_s92_73 hw, wx_N135 hw, wx_a135 hw, wx_g92_75 hw, wx_s92_75 hw, wx_N136 hw, wx_a136 hw, List.not_mem_nil, false_implies, implies_true, nI_clamp, nI_add, Nat.reducePow, hp_bd, hp_bdi, hp_ts, hp_tn, hp_tsc, hp_tnc, Nat.reduceAdd, Nat.reduceSub, Nat.reduceMul, Nat.reduceLT, Nat.reduceLeDiff, Nat.reduceEqDiff, reduceIte, not_true_eq_false, not_false_eq_true, and_true, true_and, and_self, and_false, false_and, or_true, true_or, or_false, false_or, decide_true, decide_false, Bool.and_true, Bool.true_and, Bool.not_false, Bool.or_false, Bool.false_or, Bool.or_true, Bool.true_or, i01, kx, ky, kz]
  rcases kw_d (n := 99) (m := 100) rfl (by decide) z with ⟨z, -⟩ | ⟨z, -⟩ | ⟨w, hw9, ez, rfl, -⟩
  · exact absurd z ez
  · exact absurd z ez
  have kz := m128s (d := d) (S := S) (n := 99) rfl (by decide) hw9
  have e6 : (nI (gK G) = nI 6) = (gK G = 6) := propext (nI_eq (by omega) (by decide))
  by_cases h6 : gK G = 6
  · have eo : op_0 G (nI k) (nI v) (nI w) = (-4, G) := by unfold op_0; simp only [ex, ey, ez, h6, if_true]
    rw [eo]
    refine oM_id hR ?_
    simp only [b131_0, b131_7, b131_10, b131_12, b131_19, b131_22, b131_29, b131_32, b131_35, b131_44, b131_47, b131_62, b131_72, b131_82, b131_93, b131_103, b131_138, b131_153, b131_163, b131_172, e131, wx_o92 hw, wx_k92 hw, wx_q92 hw, wx_g92_1 hw, wx_s92_1 hw, wx_N93 hw, wx_a93 hw, wx_g92_2 hw, wx_s92_2 hw, wx_N94 hw, wx_a94 hw, wx_g92_3 hw, wx_s92_3 hw, wx_N95 hw, wx_a95 hw, wx_g92_4 hw, wx_s92_4 hw, wx_N96 hw, wx_a96 hw, wx_g92_5 hw, wx_s92_5 hw, wx_N97 hw, wx_a97 hw, wx_g92_6 hw, wx_s92_6 hw, wx_N98 hw, wx_a98 hw, wx_g92_7 hw, wx_s92_7 hw, wx_N99 hw, wx_a99 hw, wx_g92_9 hw, wx_s92_9 hw, wx_N100 hw, wx_a100 hw, wx_g92_16 hw, wx_s92_16 hw, wx_N101 hw, wx_a101 hw, wx_g92_19 hw, wx_s92_19 hw, wx_N102 hw, wx_a102 hw, wx_g92_20 hw, wx_s92_20 hw, wx_N103 hw, wx_a103 hw, wx_g92_21 hw, wx_s92_21 hw, wx_N104 hw, wx_a104 hw, wx_g92_22 hw, wx_s92_22 hw, wx_N105 hw, wx_a105 hw, wx_g92_23 hw, wx_s92_23 hw, wx_N106 hw, wx_a106 hw, wx_g92_24 hw, wx_s92_24 hw, wx_N107 hw, wx_a107 hw, wx_g92_25 hw, wx_s92_25 hw, wx_N108 hw, wx_a108 hw, wx_g92_29 hw, wx_s92_29 hw, wx_N109 hw, wx_a109 hw, wx_g92_30 hw, wx_s92_30 hw, wx_N110 hw, wx_a110 hw, wx_g92_31 hw, wx_s92_31 hw, wx_N111 hw, wx_a111 hw, wx_g92_32 hw, wx_s92_32 hw, wx_N112 hw, wx_a112 hw, wx_g92_33 hw, wx_s92_33 hw, wx_N113 hw, wx_a113 hw, wx_g92_34 hw, wx_s92_34 hw, wx_N114 hw, wx_a114 hw, wx_g92_35 hw, wx_s92_35 hw, wx_N115 hw, wx_a115 hw, wx_g92_38 hw, wx_s92_38 hw, wx_N116 hw, wx_a116 hw, wx_g92_41 hw, wx_s92_41 hw, wx_N117 hw, wx_a117 hw, wx_g92_44 hw, wx_s92_44 hw, wx_N118 hw, wx_a118 hw, wx_g92_45 hw, wx_s92_45 hw, wx_N119 hw, wx_a119 hw, wx_g92_46 hw, wx_s92_46 hw, wx_N120 hw, wx_a120 hw, wx_g92_52 hw, wx_s92_52 hw, wx_N121 hw, wx_a121 hw, wx_g92_55 hw, wx_s92_55 hw, wx_N122 hw, wx_a122 hw, wx_g92_56 hw, wx_s92_56 hw, wx_N123 hw, wx_a123 hw, wx_g92_57 hw, wx_s92_57 hw, wx_N124 hw, wx_a124 hw, wx_g92_58 hw, wx_s92_58 hw, wx_N125 hw, wx_a125 hw, wx_g92_64 hw, wx_s92_64 hw, wx_N126 hw, wx_a126 hw, wx_g92_65 hw, wx_s92_65 hw, wx_N127 hw, wx_a127 hw, wx_g92_66 hw, wx_s92_66 hw, wx_N128 hw, wx_a128 hw, wx_g92_67 hw, wx_s92_67 hw, wx_N129 hw, wx_a129 hw, wx_g92_68 hw, wx_s92_68 hw, wx_N130 hw, wx_a130 hw, wx_g92_69 hw, wx_s92_69 hw, wx_N131 hw, wx_a131 hw, wx_g92_70 hw, wx_s92_70 hw, wx_N132 hw, wx_a132 hw, wx_g92_71 hw, wx_s92_71 hw, wx_N133 hw, wx_a133 hw, wx_g92_72 hw, wx_s92_72 hw, wx_N134 hw, wx_a134 hw, wx_g92_73 hw, wx_s92_73 hw, wx_N135 hw, wx_a135 hw, wx_g92_75 hw, wx_s92_75 hw, wx_N136 hw, wx_a136 hw, List.not_mem_nil, false_implies, implies_true, nI_clamp, nI_add, Nat.reducePow, hp_bd, hp_bdi, hp_ts, hp_tn, hp_tsc, hp_tnc, Nat.reduceAdd, Nat.reduceSub, Nat.reduceMul, Nat.reduceLT, Nat.reduceLeDiff, Nat.reduceEqDiff, reduceIte, not_true_eq_false, not_false_eq_true, and_true, true_and, and_self, and_false, false_and, or_true, true_or, or_false, false_or, decide_true, decide_false, Bool.and_true, Bool.true_and, Bool.not_false, Bool.or_false, Bool.false_or, Bool.or_true, Bool.true_or, i01, kx, ky, kz, hkn, e6, h6]
  have eo : op_0 G (nI k) (nI v) (nI w) = (nI (gK G), gX_new G.1 k v w, G.2) := by unfold op_0; simp only [ex, ey, ez, h6, if_false]
  have hl := new_len ok h6
  have h8 : mm_M S 92 8 = nI (ab_row (gD G)).length := hR.2.1.2.1.1
  have ck : (nI (gK G)).toNatClampNeg = gK G := nI_clamp (by omega)
  have ik : mm_inb (nI (gK G)) 6 = true := hp_inb (by omega) (by omega)
  have cl : (nI (ab_row (gD G)).length).toNatClampNeg = (ab_row (gD G)).length := nI_clamp (by omega)
  have il : mm_inb (nI (ab_row (gD G)).length) 6 = true := hp_inb (by omega) (by omega)
  have ct : ∀ i, i < 3 → (nI (3 * gK G + i)).toNatClampNeg = 3 * gK G + i := fun i hi => nI_clamp (by omega)
  have it : ∀ i, i < 3 → mm_inb (nI (3 * gK G + i)) 18 = true := fun i hi => hp_inb (by omega) (by omega)
  have ct0 := ct 0 (by decide)
  have ct1 := ct 1 (by decide)
  have ct2 := ct 2 (by decide)
  have it0 := it 0 (by decide)
  have it1 := it 1 (by decide)
  have it2 := it 2 (by decide)
  have u0 : ¬ nI 3 ≤ nI 0 := by decide
  have u1 : ¬ nI 3 ≤ nI 1 := by decide
  have u2 : ¬ nI 3 ≤ nI 2 := by decide
  have u3 : nI 3 ≤ nI 3 := by decide
  have sb : nI (gK G + 1) - nI 1 = nI (gK G) := by rw [pk_sub (by omega), Nat.add_sub_cancel]
  have run : mm_cl (d + 1) 131 [.ref 92, .int (nI k), .int (nI v), .int (nI w)] S = some (some (.int (nI (gK G))), mB_t S (gK G) (ab_row (gD G)).length k v w) := by
    unfold mB_t
    simp only [b131_0, b131_7, b131_10, b131_12, b131_19, b131_22, b131_29, b131_32, b131_35, b131_44, b131_47, b131_62, b131_72, b131_82, b131_93, b131_103, b131_111, b131_117, b131_138, b131_153, b131_163, b131_172, e131, wx_o92 hw, wx_k92 hw, wx_q92 hw, wx_g92_1 hw, wx_s92_1 hw, wx_N93 hw, wx_a93 hw, wx_g92_2 hw, wx_s92_2 hw, wx_N94 hw, wx_a94 hw, wx_g92_3 hw, wx_s92_3 hw, wx_N95 hw, wx_a95 hw, wx_g92_4 hw, wx_s92_4 hw, wx_N96 hw, wx_a96 hw, wx_g92_5 hw, wx_s92_5 hw, wx_N97 hw, wx_a97 hw, wx_g92_6 hw, wx_s92_6 hw, wx_N98 hw, wx_a98 hw, wx_g92_7 hw, wx_s92_7 hw, wx_N99 hw, wx_a99 hw, wx_g92_9 hw, wx_s92_9 hw, wx_N100 hw, wx_a100 hw, wx_g92_16 hw, wx_s92_16 hw, wx_N101 hw, wx_a101 hw, wx_g92_19 hw, wx_s92_19 hw, wx_N102 hw, wx_a102 hw, wx_g92_20 hw, wx_s92_20 hw, wx_N103 hw, wx_a103 hw, wx_g92_21 hw, wx_s92_21 hw, wx_N104 hw, wx_a104 hw, wx_g92_22 hw, wx_s92_22 hw, wx_N105 hw, wx_a105 hw, wx_g92_23 hw, wx_s92_23 hw, wx_N106 hw, wx_a106 hw, wx_g92_24 hw, wx_s92_24 hw, wx_N107 hw, wx_a107 hw, wx_g92_25 hw, wx_s92_25 hw, wx_N108 hw, wx_a108 hw, wx_g92_29 hw, wx_s92_29 hw, wx_N109 hw, wx_a109 hw, wx_g92_30 hw, wx_s92_30 hw, wx_N110 hw, wx_a110 hw, wx_g92_31 hw, wx_s92_31 hw, wx_N111 hw, wx_a111 hw, wx_g92_32 hw, wx_s92_32 hw, wx_N112 hw, wx_a112 hw, wx_g92_33 hw, wx_s92_33 hw, wx_N113 hw, wx_a113 hw, wx_g92_34 hw, wx_s92_34 hw, wx_N114 hw, wx_a114 hw, wx_g92_35 hw, wx_s92_35 hw, wx_N115 hw, wx_a115 hw, wx_g92_38 hw, wx_s92_38 hw, wx_N116 hw, wx_a116 hw, wx_g92_41 hw, wx_s92_41 hw, wx_N117 hw, wx_a117 hw, wx_g92_44 hw, wx_s92_44 hw, wx_N118 hw, wx_a118 hw, wx_g92_45 hw, wx_s92_45 hw, wx_N119 hw, wx_a119 hw, wx_g92_46 hw, wx_s92_46 hw, wx_N120 hw, wx_a120 hw, wx_g92_52 hw, wx_s92_52 hw, wx_N121 hw, wx_a121 hw, wx_g92_55 hw, wx_s92_55 hw, wx_N122 hw, wx_a122 hw, wx_g92_56 hw, wx_s92_56 hw, wx_N123 hw, wx_a123 hw, wx_g92_57 hw, wx_s92_57 hw, wx_N124 hw, wx_a124 hw, wx_g92_58 hw, wx_s92_58 hw, wx_N125 hw, wx_a125 hw, wx_g92_64 hw, wx_s92_64 hw, wx_N126 hw, wx_a126 hw, wx_g92_65 hw, wx_s92_65 hw, wx_N127 hw, wx_a127 hw, wx_g92_66 hw, wx_s92_66 hw, wx_N128 hw, wx_a128 hw, wx_g92_67 hw, wx_s92_67 hw, wx_N129 hw, wx_a129 hw, wx_g92_68 hw, wx_s92_68 hw, wx_N130 hw, wx_a130 hw, wx_g92_69 hw, wx_s92_69 hw, wx_N131 hw, wx_a131 hw, wx_g92_70 hw, wx_s92_70 hw, wx_N132 hw, wx_a132 hw, wx_g92_71 hw, wx_s92_71 hw, wx_N133 hw, wx_a133 hw, wx_g92_72 hw, wx_s92_72 hw, wx_N134 hw, wx_a134 hw, wx_g92_73 hw, wx_s92_73 hw, wx_N135 hw, wx_a135 hw, wx_g92_75 hw, wx_s92_75 hw, wx_N136 hw, wx_a136 hw, List.not_mem_nil, false_implies, implies_true, nI_clamp, nI_add, Nat.reducePow, hp_bd, hp_bdi, hp_ts, hp_tn, hp_tsc, hp_tnc, Nat.reduceAdd, Nat.reduceSub, Nat.reduceMul, Nat.reduceLT, Nat.reduceLeDiff, Nat.reduceEqDiff, reduceIte, not_true_eq_false, not_false_eq_true, and_true, true_and, and_self, and_false, false_and, or_true, true_or, or_false, false_or, decide_true, decide_false, Bool.and_true, Bool.true_and, Bool.not_false, Bool.or_false, Bool.false_or, Bool.or_true, Bool.true_or, hp_MuM, hp_LuL, hp_RuR, hp_McpM, hp_LcpL, hp_LuM, hp_RuM, hp_KuM, hp_NuM, hp_nuM, hp_zuM, hp_ouM, hp_auM, hp_kuM, hp_guM, hp_MuL, hp_RuL, hp_KuL, hp_NuL, hp_nuL, hp_zuL, hp_ouL, hp_auL, hp_kuL, hp_guL, hp_MuR, hp_LuR, hp_KuR, hp_NuR, hp_nuR, hp_zuR, hp_ouR, hp_auR, hp_kuR, hp_LcpM, hp_RcpM, hp_KcpM, hp_NcpM, hp_ncpM, hp_zcpM, hp_ocpM, hp_acpM, hp_kcpM, hp_gcpM, hp_McpL, hp_RcpL, hp_KcpL, hp_NcpL, hp_ncpL, hp_zcpL, hp_ocpL, hp_acpL, hp_kcpL, hp_gcpL, hp_MwM, hp_LwM, hp_RwM, hp_KwM, hp_NwM, hp_nwM, hp_zwM, hp_owM, hp_awM, hp_kwM, hp_gwM, hp_MwR, hp_LwR, hp_RwR, hp_KwR, hp_NwR, hp_nwR, hp_zwR, hp_owR, hp_awR, hp_kwR, hp_MwL, hp_LwL, hp_RwL, hp_KwL, hp_NwL, hp_nwL, hp_zwL, hp_owL, hp_awL, hp_kwL, hp_gwL, hp_w2M, hp_w2R, hp_w2L, i01, kx, ky, kz, hkn, e6, h6, h8, nI_mul, ck, ik, cl, il, ct0, ct1, ct2, it0, it1, it2, u0, u1, u2, u3, sb]
  have f : sf_f gm_now S (mB_t S (gK G) (ab_row (gD G)).length k v w) := by
    refine ⟨fun c j hc => ⟨?_, rfl, rfl⟩, fun _ _ => ⟨rfl, rfl⟩, Nat.le_refl _⟩
    unfold gm_now at hc
    rw [mB_M, if_neg (by omega), if_neg (by omega), if_neg (by omega), if_neg (by omega), if_neg (by omega), if_neg (by omega), if_neg (by omega), if_neg (by omega), if_neg (by omega), if_neg (by omega), if_neg (by omega), if_neg (by omega)]
  have fr : ∀ c j, ¬ ((c = 92 ∧ (j = 0 ∨ j = 8)) ∨ (93 ≤ c ∧ c ≤ 100)) → mm_M (mB_t S (gK G) (ab_row (gD G)).length k v w) c j = mm_M S c j := by
    intro c j hc
    rw [mB_M, if_neg (by omega), if_neg (by omega), if_neg (by omega), if_neg (by omega), if_neg (by omega), if_neg (by omega), if_neg (by omega), if_neg (by omega), if_neg (by omega), if_neg (by omega), if_neg (by omega), if_neg (by omega)]
  rw [eo]
  obtain ⟨⟨p1, p2, p3, ⟨o, p4⟩, p5⟩, ⟨d1, d2, d3, d4, d5, d6, d7, d8⟩, q1, q2, q3, q4, q5⟩ := hR.2.1
  refine oM_X hR run f hw ⟨⟨?_, fun i hi => ⟨?_, ?_, ?_, ?_⟩, fun i hi => ?_, ⟨o, mf_sh (fun c i a b => fr c i (by omega)) (fr 92 18 (by omega)) p4⟩, ?_⟩, ⟨?_, fun i hi => ?_, fun i hi => ?_, fun i hi => ?_, (fr _ _ (by omega)).trans d5, (fr _ _ (by omega)).trans d6, (fr _ _ (by omega)).trans d7, (fr _ _ (by omega)).trans d8⟩, (fr _ _ (by omega)).trans q1, (fr _ _ (by omega)).trans q2, fun i hi => (fr _ _ (by omega)).trans (q3 i hi), (fr _ _ (by omega)).trans q4, (fr _ _ (by omega)).trans q5⟩ rfl rfl
  · rw [mB_M, if_pos ⟨rfl, rfl⟩]; rfl
  · show _ = nI (ab_up1 (ab_ki (gP G)) (gK G) k i)
    have hi : i < gK G + 1 := hi
    rw [mB_M]
    unfold ab_up1
    by_cases h : i = gK G
    · simp +decide only [h, if_true, if_false, and_true, and_false, false_and]
    · simp +decide only [h, if_false, and_false, false_and]
      exact (p2 i (by have : i < gK G := (by omega); exact this)).1
  · show _ = nI (ab_up1 (ab_v (gP G)) (gK G) v i)
    have hi : i < gK G + 1 := hi
    rw [mB_M]
    unfold ab_up1
    by_cases h : i = gK G
    · simp +decide only [h, if_true, if_false, and_true, and_false, false_and]
    · simp +decide only [h, if_false, and_false, false_and]
      exact (p2 i (by have : i < gK G := (by omega); exact this)).2.1
  · show _ = nI (ab_up1 (ab_wo (gP G)) (gK G) w i)
    have hi : i < gK G + 1 := hi
    rw [mB_M]
    unfold ab_up1
    by_cases h : i = gK G
    · simp +decide only [h, if_true, if_false, and_true, and_false, false_and]
    · simp +decide only [h, if_false, and_false, false_and]
      exact (p2 i (by have : i < gK G := (by omega); exact this)).2.2.1
  · show _ = md_fo (ab_up1 (ab_fr (gP G)) (gK G) none i)
    have hi : i < gK G + 1 := hi
    rw [mB_M]
    unfold ab_up1
    by_cases h : i = gK G
    · simp +decide only [h, if_true, if_false, and_true, and_false, false_and]
    · simp +decide only [h, if_false, and_false, false_and]
      exact (p2 i (by have : i < gK G := (by omega); exact this)).2.2.2
  · show _ = nI (ab_up1 (ab_up1 (ab_up1 (ab_te (gP G)) (3 * gK G) 0) (3 * gK G + 1) 0) (3 * gK G + 2) 0 i)
    have hi : i < 3 * (gK G + 1) := hi
    rw [mB_M]
    unfold ab_up1
    by_cases h2 : i = 3 * gK G + 2
    · simp +decide only [h2, if_true, if_false, and_true, and_false, false_and]
    by_cases h1 : i = 3 * gK G + 1
    · have n2 : ¬ 3 * gK G + 1 = 3 * gK G + 2 := by omega
      simp +decide only [h1, n2, if_true, if_false, and_true, and_false, false_and]
    by_cases h0 : i = 3 * gK G
    · have n2 : ¬ 3 * gK G = 3 * gK G + 2 := by omega
      have n1 : ¬ 3 * gK G = 3 * gK G + 1 := by omega
      simp +decide only [h0, n1, n2, Nat.add_zero, if_true, if_false, and_true, true_and, and_false, false_and]
    · have n0 : ¬ i = 3 * gK G + 0 := h0
      simp +decide only [h0, n0, h1, h2, if_false, and_false, false_and]
      exact p3 i (by have : i < 3 * gK G := (by omega); exact this)
  · rw [fr 92 27 (by omega)]; exact p5
  · rw [mB_M, if_neg (by omega), if_pos ⟨rfl, rfl⟩]
    show _ = nI (ab_row (gD G) ++ [gK G]).length
    rw [List.length_append]; rfl
  · have hi : i < (ab_row (gD G) ++ [gK G]).length := hi
    rw [List.length_append] at hi
    show _ = nI ((ab_row (gD G) ++ [gK G]).getD i 0)
    rw [mB_M]
    by_cases e : i = (ab_row (gD G)).length
    · rw [e, List.getD_eq_getElem?_getD, List.getElem?_append_right (Nat.le_refl _), Nat.sub_self]
      simp +decide only [if_true, if_false, and_true, and_false, false_and]
      rfl
    · have hi2 : i < (ab_row (gD G)).length := by
        have : [gK G].length = 1 := rfl
        omega
      simp +decide only [e, if_false, and_false, false_and]
      rw [List.getD_eq_getElem?_getD, List.getElem?_append_left hi2, ← List.getD_eq_getElem?_getD]
      exact d2 i hi2
  · show _ = nI (ab_up1 (ab_aw (gD G)) (gK G) 0 i)
    have hi : i < gK G + 1 := hi
    rw [mB_M]
    unfold ab_up1
    by_cases h : i = gK G
    · simp +decide only [h, if_true, if_false, and_true, and_false, false_and]
    · simp +decide only [h, if_false, and_false, false_and]
      exact d3 i (by have : i < gK G := (by omega); exact this)
  · show _ = ab_up1 (ab_ga (gD G)) (gK G) (nI 0) i
    have hi : i < gK G + 1 := hi
    rw [mB_M]
    unfold ab_up1
    by_cases h : i = gK G
    · simp +decide only [h, if_true, if_false, and_true, and_false, false_and]
    · simp +decide only [h, if_false, and_false, false_and]
      exact d4 i (by have : i < gK G := (by omega); exact this)
end MB
/-! ===== what is well stays well ===== -/
section OK
variable {G : gb_G} {x y z p w t i o j s : Int32} {v : Int64}
theorem kw_lt {n b : Nat} (hn : n < 2 ^ 30) (e : ab_kw n x = some b) : b < n := by
  cases n with
  | zero =>
    unfold ab_kw at e
    by_cases q : x < nI 0 ∨ nI 0 ≤ x
    · rw [if_pos q] at e; cases e
    · exfalso
      refine q ?_
      by_cases h : x < nI 0
      · exact Or.inl h
      · refine Or.inr ?_
        rw [Int32.le_iff_toInt_le]
        rw [Int32.lt_iff_toInt_lt] at h
        omega
  | succ n =>
    rcases kw_d (n := n) rfl (by omega) x with ⟨z, -⟩ | ⟨z, -⟩ | ⟨j, hj, z, -⟩
    · rw [z] at e; cases e
    · rw [z] at e; cases e
    · rw [z] at e; cases e; exact hj
theorem ok_0 (ok : gb_ok G) : gb_ok (op_0 G x y z).2 := by
  unfold op_0
  cases ex : ab_kw 7 x with
  | none => exact ok
  | some k =>
    cases ey : ab_kw 10 y with
    | none => exact ok
    | some v =>
      cases ez : ab_kw 100 z with
      | none => exact ok
      | some w =>
        have hk := kw_lt (by decide) ex
        have hv := kw_lt (by decide) ey
        have hw := kw_lt (by decide) ez
        show gb_ok (if gK G = 6 then (-4, G) else (nI (gK G), gX_new G.1 k v w, G.2)).2
        by_cases h6 : gK G = 6
        · rw [if_pos h6]; exact ok
        · rw [if_neg h6]
          have k6 : gK G ≤ 6 := ok.1.1.1
          obtain ⟨⟨⟨a1, a2, a3, a4, a5, a6⟩, ⟨b1, b2, b3, b4, b5⟩, c3⟩, rest⟩ := ok
          refine ⟨⟨⟨?_, a2, a3, fun b hb => ?_, fun b f hb hf => ?_, fun i hi => ?_⟩, ⟨?_, fun b hb => ?_, fun b hb => ?_, b4, b5⟩, c3⟩, rest⟩
          · show gK G + 1 ≤ 6; omega
          · have hb : b < gK G + 1 := hb
            show ab_up1 (ab_ki (gP G)) (gK G) k b < 7 ∧ ab_up1 (ab_v (gP G)) (gK G) v b < 10 ∧ ab_up1 (ab_wo (gP G)) (gK G) w b < 100
            unfold ab_up1
            by_cases h : b = gK G
            · rw [if_pos h, if_pos h, if_pos h]; exact ⟨hk, hv, hw⟩
            · rw [if_neg h, if_neg h, if_neg h]; exact a4 b (by have : b < gK G := (by omega); exact this)
          · have hb : b < gK G + 1 := hb
            have hf : ab_up1 (ab_fr (gP G)) (gK G) none b = some f := hf
            show f < gK G + 1 ∧ f ≠ b
            unfold ab_up1 at hf
            by_cases h : b = gK G
            · rw [if_pos h] at hf; cases hf
            · rw [if_neg h] at hf
              have := a5 b f (by have : b < gK G := (by omega); exact this) hf
              have h1 : f < gK G := this.1
              exact ⟨by omega, this.2⟩
          · have hi : i < 3 * (gK G + 1) := hi
            show ab_up1 (ab_up1 (ab_up1 (ab_te (gP G)) (3 * gK G) 0) (3 * gK G + 1) 0) (3 * gK G + 2) 0 i < 4
            unfold ab_up1
            by_cases h2 : i = 3 * gK G + 2
            · rw [if_pos h2]; decide
            rw [if_neg h2]
            by_cases h1 : i = 3 * gK G + 1
            · rw [if_pos h1]; decide
            rw [if_neg h1]
            by_cases h0 : i = 3 * gK G
            · rw [if_pos h0]; decide
            rw [if_neg h0]
            exact a6 i (by have : i < 3 * gK G := (by omega); exact this)
          · show (ab_row (gD G) ++ [gK G]).Nodup
            rw [List.nodup_append]
            refine ⟨b1, by simp, ?_⟩
            intro x hx y hy e
            have : y = gK G := by simpa using hy
            have h2 : x < gK G := b2 x hx
            omega
          · have hb : b ∈ ab_row (gD G) ++ [gK G] := hb
            show b < gK G + 1
            rcases List.mem_append.mp hb with h | h
            · have : b < gK G := b2 b h
              omega
            · have : b = gK G := by simpa using h
              omega
          · have hb : b < gK G + 1 := hb
            show ab_up1 (ab_aw (gD G)) (gK G) 0 b ≤ 9
            unfold ab_up1
            by_cases h : b = gK G
            · rw [if_pos h]; decide
            · rw [if_neg h]; exact b3 b (by have : b < gK G := (by omega); exact this)
theorem ok_3 (ok : gb_ok G) : gb_ok (op_3 G x y).2 := by
  unfold op_3
  have k6 : gK G ≤ 6 := ok.1.1.1
  have up : ∀ b o, b < gK G → (∀ f, o = some f → f < gK G ∧ f ≠ b) → gb_ok (gX_P G.1 (gP_fr (gP G) b o), G.2) := by
    intro b o hb ho
    obtain ⟨⟨⟨a1, a2, a3, a4, a5, a6⟩, hD, c3⟩, rest⟩ := ok
    refine ⟨⟨⟨a1, a2, a3, a4, fun c f hc hf => ?_, a6⟩, hD, c3⟩, rest⟩
    have hf : ab_up1 (ab_fr (gP G)) b o c = some f := hf
    unfold ab_up1 at hf
    by_cases h : c = b
    · rw [if_pos h] at hf; rw [h]; exact ho f hf
    · rw [if_neg h] at hf; exact a5 c f hc hf
  cases ex : ab_kw (gK G) x with
  | none => exact ok
  | some b =>
    have hb := kw_lt (by omega) ex
    show gb_ok (if y = -1 then (md_fo (ab_fr (gP G) b), gX_P G.1 (gP_fr (gP G) b none), G.2) else _).2
    by_cases hy : y = -1
    · rw [if_pos hy]; exact up b none hb (fun f h => by cases h)
    · rw [if_neg hy]
      cases ey : ab_kw (gK G) y with
      | none => exact ok
      | some q =>
        have hq := kw_lt (by omega) ey
        show gb_ok (if q = b then (-2, G) else (md_fo (ab_fr (gP G) b), gX_P G.1 (gP_fr (gP G) b (some q)), G.2)).2
        by_cases h : q = b
        · rw [if_pos h]; exact ok
        · rw [if_neg h]; exact up b (some q) hb (fun f e => by cases e; exact ⟨hq, h⟩)
theorem ok_4 (ok : gb_ok G) : gb_ok (op_4 G x p w).2 := by
  unfold op_4
  have k6 : gK G ≤ 6 := ok.1.1.1
  cases ex : ab_kw (gK G) x with
  | none => cases ab_kw 3 p <;> exact ok
  | some b =>
    cases ep : ab_kw 3 p with
    | none => exact ok
    | some p =>
      cases ew : ab_kw 4 w with
      | none => exact ok
      | some n =>
        show gb_ok (if ab_ki (gP G) b = 6 then (nI (ab_te (gP G) (3 * b + p)), gX_P G.1 (gP_te (gP G) (3 * b + p) n), G.2) else (-3, G)).2
        by_cases h : ab_ki (gP G) b = 6
        · rw [if_pos h]
          have hn := kw_lt (by decide) ew
          obtain ⟨⟨⟨a1, a2, a3, a4, a5, a6⟩, hD, c3⟩, rest⟩ := ok
          refine ⟨⟨⟨a1, a2, a3, a4, a5, fun i hi => ?_⟩, hD, c3⟩, rest⟩
          show ab_up1 (ab_te (gP G)) (3 * b + p) n i < 4
          unfold ab_up1
          by_cases h : i = 3 * b + p
          · rw [if_pos h]; exact hn
          · rw [if_neg h]; exact a6 i hi
        · rw [if_neg h]; exact ok
theorem ok_5 (ok : gb_ok G) : gb_ok (op_5 G x).2 := by
  unfold op_5
  have k6 : gK G ≤ 6 := ok.1.1.1
  cases ex : ab_kw (gK G) x with
  | none => exact ok
  | some b =>
    have hb := kw_lt (by omega) ex
    show gb_ok (if b ∈ ab_row (gD G) then (-3, G) else _).2
    by_cases h : b ∈ ab_row (gD G)
    · rw [if_pos h]; exact ok
    · rw [if_neg h]; exact ok_D ok (okD_back ok hb h)
theorem ok_6 (ok : gb_ok G) : gb_ok (op_6 G x y).2 := by
  unfold op_6
  obtain ⟨d1, d2, d3, d4, d5⟩ := ok.1.2.1
  by_cases h0 : x = nI 0
  · rw [if_pos h0]
    cases ey : ab_kw 1000 y with
    | none => exact ok
    | some n =>
      have hn := kw_lt (by decide) ey
      exact ok_D ok ⟨d1, d2, d3, by show n ≤ 999; omega, d5⟩
  rw [if_neg h0]
  by_cases h1 : x = nI 1
  · rw [if_pos h1]
    cases ey : ab_kw 10 y with
    | none => exact ok
    | some n =>
      have hn := kw_lt (by decide) ey
      exact ok_D ok ⟨d1, d2, d3, d4, by show n ≤ 9; omega⟩
  rw [if_neg h1]
  exact ok
theorem ok_7 (ok : gb_ok G) : gb_ok (op_7 G x).2 := by
  unfold op_7
  cases ex : ab_kw 128 x with
  | none => exact ok
  | some c =>
    have hc := kw_lt (by decide) ex
    show gb_ok (if (gb_t G).length = 100 then (-4, G) else _).2
    by_cases h : (gb_t G).length = 100
    · rw [if_pos h]; exact ok
    · rw [if_neg h]
      have hl := ok.2.2.2.2.1
      refine ⟨ok.1, ok.2.1, ok.2.2.1, ok.2.2.2.1, ?_, ?_, ok.2.2.2.2.2.2⟩
      · show (gb_t G ++ [c]).length ≤ 100
        rw [len1]; omega
      · intro b hb
        have hb : b ∈ gb_t G ++ [c] := hb
        rcases List.mem_append.mp hb with h | h
        · exact ok.2.2.2.2.2.1 b h
        · have : b = c := by simpa using h
          omega
theorem ok_11 (ok : gb_ok G) : gb_ok (op_11 G).2 := by
  unfold op_11
  by_cases h : ab_com (gD G) = true
  · rw [if_pos h]; exact ok_D ok (ab_turn_ok ok.1.1 ok.1.2.1 h).1
  · rw [if_neg h]; exact ok
theorem ok_20 (ok : gb_ok G) : gb_ok (op_20 G x).2 := by
  unfold op_20
  cases ex : ab_kw 11 x with
  | none => exact ok
  | some n =>
    have hn := kw_lt (by decide) ex
    exact ⟨⟨ok.1.1, ok.1.2.1, by show n ≤ 10; omega, ok.1.2.2.2⟩, ok.2⟩
theorem ok_22 (ok : gb_ok G) : gb_ok (op_22 G x).2 := by
  unfold op_22
  by_cases hx : x = -1
  · rw [if_pos hx]
    exact ⟨⟨ok.1.1, ok.1.2.1, ok.1.2.2.1, Nat.zero_le _, (fun f h => by cases h), ok.1.2.2.2.2.2⟩, ok.2⟩
  rw [if_neg hx]
  cases ex : ab_kw 4 x with
  | none => exact ok
  | some n =>
    have hn := kw_lt (by decide) ex
    show gb_ok (if n = 0 then (-1, G) else if (gx_f G.1).length = 12 then (-4, G) else _).2
    by_cases h0 : n = 0
    · rw [if_pos h0]; exact ok
    rw [if_neg h0]
    by_cases h : (gx_f G.1).length = 12
    · rw [if_pos h]; exact ok
    rw [if_neg h]
    have hl : (gx_f G.1).length ≤ 12 := ok.1.2.2.2.1
    refine ⟨⟨ok.1.1, ok.1.2.1, ok.1.2.2.1, ?_, fun f hf => ?_, ok.1.2.2.2.2.2⟩, ok.2⟩
    · show (gx_f G.1 ++ [n]).length ≤ 12
      rw [len1]; omega
    · have hf : f ∈ gx_f G.1 ++ [n] := hf
      rcases List.mem_append.mp hf with h | h
      · exact ok.1.2.2.2.2.1 f h
      · have : f = n := by simpa using h
        omega
theorem ok_25 (ok : gb_ok G) : gb_ok (op_25 G).2 := ⟨ok.1, fun Y e => by cases e; exact ok.1, ok.2.2⟩
theorem ok_26 (ok : gb_ok G) : gb_ok (op_26 G).2 := by
  unfold op_26
  cases e : gb_i G with
  | none => exact ok
  | some Y => exact ⟨ok.2.1 Y e, ok.2⟩
theorem ok_27 (ok : gb_ok G) : gb_ok (op_27 G x y z).2 := by
  unfold op_27
  have k6 : gK G ≤ 6 := ok.1.1.1
  have ok0 : gb_ok (gS_r G []) := ok_r ok (by decide) (fun b hb => by cases hb)
  cases ex : ab_kw (gK G) x with
  | none => exact ok0
  | some b =>
    have hb := kw_lt (by omega) ex
    have hk7 : ab_ki (gP G) b < 7 := (ok.1.1.2.2.2.1 b hb).1
    have hl := @ab_lens (ab_ki (gP G) b) z hk7 (nI b) (nI (ab_v (gP G) b))
    show gb_ok (if y = nI 0 then _ else if y = nI 1 then _ else if y = nI 2 then _ else _ : Int32 × gb_G).2
    by_cases h0 : y = nI 0
    · rw [if_pos h0]; exact ok_r ok hl.1 hl.2.2.2.1
    rw [if_neg h0]
    by_cases h1 : y = nI 1
    · rw [if_pos h1]; exact ok_r ok hl.2.1 hl.2.2.2.2.1
    rw [if_neg h1]
    by_cases h2 : y = nI 2
    · rw [if_pos h2]; exact ok_r ok hl.2.2.1 hl.2.2.2.2.2
    rw [if_neg h2]
    exact ok0
theorem ok_p {f : Nat → Int32 × Nat × (Nat → Int64)} (ok : gb_ok G) (h : ∀ t, t < 6 → gt_ok (f t)) : gb_ok (gS_p G f) := ⟨ok.1, ok.2.1, ok.2.2.1, ok.2.2.2.1, ok.2.2.2.2.1, ok.2.2.2.2.2.1, h, ok.2.2.2.2.2.2.2⟩
theorem ok_up {f : Nat → Int32 × Nat × (Nat → Int64)} {t : Nat} {g : Int32 × Nat × (Nat → Int64)} (h : ∀ t, t < 6 → gt_ok (f t)) (hg : gt_ok g) : ∀ u, u < 6 → gt_ok (ab_up1 f t g u) := by
  intro u hu
  unfold ab_up1
  by_cases e : u = t
  · rw [if_pos e]; exact hg
  · rw [if_neg e]; exact h u hu
theorem ok_31 (ok : gb_ok G) : gb_ok (op_31 G t s y).2 := by
  unfold op_31
  have hp := ok.2.2.2.2.2.2.1
  cases ex : ab_kw 6 t with
  | none => exact ok
  | some t =>
    show gb_ok (if s = -1 then _ else _ : Int32 × gb_G).2
    by_cases hs : s = -1
    · rw [if_pos hs]; exact ok_p ok (ok_up hp (Or.inl ⟨rfl, rfl⟩))
    rw [if_neg hs]
    cases es : ab_kw 5 s with
    | none => exact ok
    | some k =>
      have hk := kw_lt (by decide) es
      show gb_ok (if nI 60 < y then _ else if y < nI 0 then _ else _ : Int32 × gb_G).2
      by_cases h1 : nI 60 < y
      · rw [if_pos h1]; exact ok
      rw [if_neg h1]
      by_cases h2 : y < nI 0
      · rw [if_pos h2]; exact ok
      rw [if_neg h2]
      refine ok_p ok (ok_up hp (Or.inr ⟨⟨k, hk, rfl⟩, ?_⟩))
      rcases kw_d (n := 60) (m := 61) rfl (by decide) y with ⟨-, z, -⟩ | ⟨-, -, -, z, -⟩ | ⟨j, hj, -, rfl, -⟩
      · exact absurd (of_eq_true z) h2
      · exact absurd (of_eq_true z) h1
      · show (nI j).toNatClampNeg ≤ 60
        rw [nI_clamp (by omega)]; omega
theorem ok_32 (ok : gb_ok G) : gb_ok (op_32 G t i v).2 := by
  unfold op_32
  have hp := ok.2.2.2.2.2.2.1
  cases ex : ab_kw 6 t with
  | none => exact ok
  | some t =>
    have ht := kw_lt (by decide) ex
    show gb_ok (if (gb_p G t).1 = -1 then _ else _ : Int32 × gb_G).2
    by_cases h : (gb_p G t).1 = -1
    · rw [if_pos h]; exact ok
    rw [if_neg h]
    cases ei : ab_kw (gb_p G t).2.1 i with
    | none => exact ok
    | some i => exact ok_p ok (ok_up hp (hp t ht))
theorem ok_34 (ok : gb_ok G) : gb_ok (op_34 G t i o j y).2 := by
  unfold op_34
  have hp := ok.2.2.2.2.2.2.1
  cases ex : ab_kw 6 t with
  | none => cases ab_kw 6 o <;> exact ok
  | some t =>
    cases eo : ab_kw 6 o with
    | none => exact ok
    | some u =>
      have hu := kw_lt (by decide) eo
      show gb_ok (if (gb_p G t).1 = -1 ∨ (gb_p G u).1 = -1 then _ else if (gb_p G t).1 ≠ (gb_p G u).1 then _ else _ : Int32 × gb_G).2
      by_cases h : (gb_p G t).1 = -1 ∨ (gb_p G u).1 = -1
      · rw [if_pos h]; exact ok
      rw [if_neg h]
      by_cases h2 : (gb_p G t).1 ≠ (gb_p G u).1
      · rw [if_pos h2]; exact ok
      rw [if_neg h2]
      cases ab_kw 61 y with
      | none => exact ok
      | some n =>
        cases ab_kw 61 i with
        | none => exact ok
        | some i =>
          cases ab_kw 61 j with
          | none => exact ok
          | some j =>
            show gb_ok (if i + n ≤ (gb_p G t).2.1 ∧ j + n ≤ (gb_p G u).2.1 then _ else _ : Int32 × gb_G).2
            by_cases h : i + n ≤ (gb_p G t).2.1 ∧ j + n ≤ (gb_p G u).2.1
            · rw [if_pos h]; exact ok_p ok (ok_up hp (hp u hu))
            · rw [if_neg h]; exact ok
end OK
