/-! ===== questions of the reference: let by ===== -/
section QM3
variable {S T U : mm_S} {G : gb_G} {P : ab_P} {D E : ab_D} {b c d n k i j p : Nat} {x w y : Int32} {r l : List Nat}
theorem i_le1 {n k : Nat} (hn : n < 2 ^ 30) (hk : k < 2 ^ 30) : (nI n - nI 1 ≤ nI k) = (n ≤ k + 1) := by
  rw [Int32.le_iff_toInt_le, nI_toInt (by omega), pk_sub_toInt (by omega) (by omega)]
  exact propext (by omega)
theorem m180_it (ok : gb_ok G) (hR : RM S G) (hp : p + 1 < (ab_row (gD G)).length) {s : Nat × Option Nat} (hs : s.1 ≤ 6) {v5 v6 v7 v8 v9 v10 : Value} : ∃ W u5 u6 u7 u8 u9 u10, mm_ex (d + 10) 180 19 [.ref 92, .int x, .int (nI s.1), .int (md_fo s.2), .int (nI p), v5, v6, v7, v8, v9, v10] [] S = mm_ex (d + 10) 180 19 [.ref 92, .int x, .int (nI (ab_l1 ab_l2 (gP G) (gD G) s p).1), .int (md_fo (ab_l1 ab_l2 (gP G) (gD G) s p).2), .int (nI (p + 1)), u5, u6, u7, u8, u9, u10] [] W ∧ QM S W G := by
  have hw := hR.1
  have wk : mm_W (mm_kp S) := hw
  have hl6 : (ab_row (gD G)).length ≤ 6 := row_le ok.1.1 ok.1.2.1
  have hk6 : gK G ≤ 6 := ok.1.1.1
  have u0 := row_i ok (show p < (ab_row (gD G)).length by omega)
  have u1 := row_i ok hp
  have r0 : mm_M S 100 p = nI ((ab_row (gD G)).getD p 0) := hR.2.1.2.1.2.1 p (by have : p < (ab_row (gD G)).length := (by omega); exact this)
  have r1 : mm_M S 100 (p + 1) = nI ((ab_row (gD G)).getD (p + 1) 0) := hR.2.1.2.1.2.1 (p + 1) hp
  have h8 : mm_M S 92 8 = nI (ab_row (gD G)).length := hR.2.1.2.1.1
  have els : ab_ls ab_l2 (gP G) (gD G) p = ab_l2 (ab_ga (ab_fin (gP G) (gD_row (gD G) (ab_sw (ab_row (gD G)) p))) ((ab_row (gD G)).getD p 0) - ab_ga (ab_fin (gP G) (gD G)) ((ab_row (gD G)).getD p 0)) (ab_ga (ab_fin (gP G) (gD_row (gD G) (ab_sw (ab_row (gD G)) p))) ((ab_row (gD G)).getD (p + 1) 0) - ab_ga (ab_fin (gP G) (gD G)) ((ab_row (gD G)).getD (p + 1) 0)) := rfl
  have swg := fun {q : Nat} (hq : q < (ab_row (gD G)).length) => sw_get (q := q) hp hq
  obtain ⟨T1, g1, q1, A1, -⟩ := m173q (d := d) ok hR
  have w1 := A1.1
  have wl1 : mm_W (mm_ly T1) := w1
  have Q1 := QM_ly ok hR q1
  have A2 := RM_A ok Q1.1
  have R1 := Q1.1.2.1.2.1.2.1
  have hga : ∀ {z : Nat}, z < gK G → mm_M T1 98 z = ab_ga (ab_fin (gP G) (gD G)) z := fun {z} hz => A1.2.2.1.2.2.2.1 z hz
  unfold ab_l1
  rw [els]
  generalize hA0 : (ab_row (gD G)).getD p 0 = a0 at *
  generalize hB0 : (ab_row (gD G)).getD (p + 1) 0 = b0 at *
  have wV : mm_W (mm_uM (mm_uM (mm_ly T1) 100 p (nI b0)) 100 (p + 1) (nI a0)) := wl1
  have AV : md_A (mm_uM (mm_uM (mm_ly T1) 100 p (nI b0)) 100 (p + 1) (nI a0)) (gP G) (gD_row (gD G) (ab_sw (ab_row (gD G)) p)) := by
    refine A_rowM A2 wV (fun c j hc => (rdn (by omega)).trans (rdn (by omega))) ((sw_perm hp).nodup_iff.mpr ok.1.2.1.1) (fun z hz => ok.1.2.1.2.1 z ((sw_perm hp).mem_iff.mp hz)) ((rdn (by omega)).trans ((rdn (by omega)).trans (by rw [sw_len]; exact A2.2.2.1.1))) (fun q hq => ?_)
    rw [sw_len] at hq
    rw [sw_get hp hq, hA0, hB0]
    by_cases z1 : q = p + 1
    · rw [if_pos z1, z1, rds]
    · rw [if_neg z1, rdn (by omega)]
      by_cases z0 : q = p
      · rw [if_pos z0, z0, rds]
      · rw [if_neg z0, rdn (by omega)]
        exact R1 q hq
  have wkV : mm_W (mm_kp (mm_uM (mm_uM (mm_ly T1) 100 p (nI b0)) 100 (p + 1) (nI a0))) := wl1
  obtain ⟨T2, g2, g3, A3, -⟩ := s173 (d := d) (kpA AV)
  have w2 := A3.1
  have wl2 : mm_W (mm_ly T2) := w2
  have q2 : QK (mm_uM (mm_uM (mm_ly T1) 100 p (nI b0)) 100 (p + 1) (nI a0)) T2 := QK_md QK_kp g3
  obtain ⟨l1, l2, l3⟩ := QK_ly q2
  have hga2 : ∀ {z : Nat}, z < gK G → mm_M T2 98 z = ab_ga (ab_fin (gP G) (gD_row (gD G) (ab_sw (ab_row (gD G)) p))) z := fun {z} hz => A3.2.2.1.2.2.2.1 z hz
  have R1p : mm_M (mm_ly T1) 100 p = nI a0 := by rw [← hA0]; exact R1 p (by have : p < (ab_row (gD G)).length := (by omega); exact this)
  have R1q : mm_M (mm_ly T1) 100 (p + 1) = nI b0 := by rw [← hB0]; exact R1 (p + 1) hp
  have fin : QM S (mm_uM (mm_uM (mm_ly T2) 100 p (nI a0)) 100 (p + 1) (nI b0)) G := by
    refine QM_tr Q1 (QM_f ok Q1.1 ⟨fun c j hc => ⟨?_, (l1.1 c j hc).2.1, (l1.1 c j hc).2.2⟩, l1.2.1, l1.2.2⟩ wl2 l2 l3)
    by_cases z1 : c = 100 ∧ j = p + 1
    · rw [z1.1, z1.2, rds, R1q]
    by_cases z0 : c = 100 ∧ j = p
    · rw [rdn z1, z0.1, z0.2, rds, R1p]
    · rw [rdn z1, rdn z0, (l1.1 c j hc).1, rdn z1, rdn z0]
  have c0 : (nI p).toNatClampNeg = p := nI_clamp (by omega)
  have c1 : (nI (p + 1)).toNatClampNeg = p + 1 := nI_clamp (by omega)
  have ca : (nI a0).toNatClampNeg = a0 := nI_clamp (by omega)
  have cb : (nI b0).toNatClampNeg = b0 := nI_clamp (by omega)
  have i0 : mm_inb (nI p) 6 = true := hp_inb (by omega) (by omega)
  have i1 : mm_inb (nI (p + 1)) 6 = true := hp_inb (by omega) (by omega)
  have ia : mm_inb (nI a0) 6 = true := hp_inb (by omega) (by omega)
  have ib : mm_inb (nI b0) 6 = true := hp_inb (by omega) (by omega)
  have e8 : (nI (ab_row (gD G)).length - nI 1 ≤ nI p) = False := by
    rw [i_le1 (by omega) (by omega)]
    exact eq_false (by omega)
  have k1 : mm_cl (d + 9) 171 [.ref 92] S = some (none, mm_kp S) := s171 hw
  have k2 : mm_cl (d + 9) 172 [.ref 92] T1 = some (none, mm_ly T1) := s172 w1
  have k3 : mm_cl (d + 9) 171 [.ref 92] (mm_uM (mm_uM (mm_ly T1) 100 p (nI b0)) 100 (p + 1) (nI a0)) = some (none, mm_kp (mm_uM (mm_uM (mm_ly T1) 100 p (nI b0)) 100 (p + 1) (nI a0))) := s171 wV
  have k4 : mm_cl (d + 9) 172 [.ref 92] T2 = some (none, mm_ly T2) := s172 w2
  generalize hV : mm_uM (mm_uM (mm_ly T1) 100 p (nI b0)) 100 (p + 1) (nI a0) = V at *
  have g1a := hga (z := a0) u0
  have g1b := hga (z := b0) u1
  have g2a := hga2 (z := a0) u0
  have g2b := hga2 (z := b0) u1
  generalize ab_ga (ab_fin (gP G) (gD G)) a0 = x7 at *
  generalize ab_ga (ab_fin (gP G) (gD G)) b0 = x8 at *
  generalize ab_ga (ab_fin (gP G) (gD_row (gD G) (ab_sw (ab_row (gD G)) p))) a0 = y7 at *
  generalize ab_ga (ab_fin (gP G) (gD_row (gD G) (ab_sw (ab_row (gD G)) p))) b0 = y8 at *
  have st : mm_ex (d + 10) 180 19 [.ref 92, .int x, .int (nI s.1), .int (md_fo s.2), .int (nI p), v5, v6, v7, v8, v9, v10] [] S = if y7 - x7 < nI 0 then mm_ex (d + 10) 180 188 [.ref 92, .int x, .int (nI s.1), .int (md_fo s.2), .int (nI p), .int (nI a0), .int (nI b0), .int x7, .int x8, .int (y7 - x7), .int (y8 - x8)] [] (mm_uM (mm_uM (mm_ly T2) 100 p (nI a0)) 100 (p + 1) (nI b0)) else mm_ex (d + 10) 180 161 [.ref 92, .int x, .int (nI s.1), .int (md_fo s.2), .int (nI p), .int (nI a0), .int (nI b0), .int x7, .int x8, .int (y7 - x7), .int (y8 - x8)] [] (mm_uM (mm_uM (mm_ly T2) 100 p (nI a0)) 100 (p + 1) (nI b0)) := by
    simp only [b180_19, b180_30, b180_54, b180_58, b180_80, b180_104, b180_108, b180_136, wx_o92 hw, wx_k92 hw, wx_q92 hw, wx_g92_1 hw, wx_s92_1 hw, wx_N93 hw, wx_a93 hw, wx_g92_2 hw, wx_s92_2 hw, wx_N94 hw, wx_a94 hw, wx_g92_3 hw, wx_s92_3 hw, wx_N95 hw, wx_a95 hw, wx_g92_4 hw, wx_s92_4 hw, wx_N96 hw, wx_a96 hw, wx_g92_5 hw, wx_s92_5 hw, wx_N97 hw, wx_a97 hw, wx_g92_6 hw, wx_s92_6 hw, wx_N98 hw, wx_a98 hw, wx_g92_7 hw, wx_s92_7 hw, wx_N99 hw, wx_a99 hw, wx_g92_9 hw, wx_s92_9 hw, wx_N100 hw, wx_a100 hw, wx_g92_16 hw, wx_s92_16 hw, wx_N101 hw, wx_a101 hw, wx_g92_19 hw, wx_s92_19 hw, wx_N102 hw, wx_a102 hw, wx_g92_20 hw, wx_s92_20 hw, wx_N103 hw, wx_a103 hw, wx_g92_21 hw, wx_s92_21 hw, wx_N104 hw, wx_a104 hw, wx_g92_22 hw, wx_s92_22 hw, wx_N105 hw, wx_a105 hw, wx_g92_23 hw, wx_s92_23 hw, wx_N106 hw, wx_a106 hw, wx_g92_24 hw, wx_s92_24 hw, wx_N107 hw, wx_a107 hw, wx_g92_25 hw, wx_s92_25 hw, wx_N108 hw, wx_a108 hw, wx_g92_29 hw, wx_s92_29 hw, wx_N109 hw, wx_a109 hw, wx_g92_30 hw, wx_s92_30 hw, wx_N110 hw, wx_a110 hw, wx_g92_31 hw, wx_s92_31 hw, wx_N111 hw, wx_a111 hw, wx_g92_32 hw, wx_s92_32 hw, wx_N112 hw, wx_a112 hw, wx_g92_33 hw, wx_s92_33 hw, wx_N113 hw, wx_a113 hw, wx_g92_34 hw, wx_s92_34 hw, wx_N114 hw, wx_a114 hw, wx_g92_35 hw, wx_s92_35 hw, wx_N115 hw, wx_a115 hw, wx_g92_38 hw, wx_s92_38 hw, wx_N116 hw, wx_a116 hw, wx_g92_41 hw, wx_s92_41 hw, wx_N117 hw, wx_a117 hw, wx_g92_44 hw, wx_s92_44 hw, wx_N118 hw, wx_a118 hw, wx_g92_45 hw, wx_s92_45 hw, wx_N119 hw, wx_a119 hw, wx_g92_46 hw, wx_s92_46 hw, wx_N120 hw, wx_a120 hw, wx_g92_52 hw, wx_s92_52 hw, wx_N121 hw, wx_a121 hw, wx_g92_55 hw, wx_s92_55 hw, wx_N122 hw, wx_a122 hw, wx_g92_56 hw, wx_s92_56 hw, wx_N123 hw, wx_a123 hw, wx_g92_57 hw, wx_s92_57 hw, wx_N124 hw, wx_a124 hw, wx_g92_58 hw, wx_s92_58 hw, wx_N125 hw, wx_a125 hw, wx_g92_64 hw, wx_s92_64 hw, wx_N126 hw, wx_a126 hw, wx_g92_65 hw, wx_s92_65 hw, wx_N127 hw, wx_a127 hw, wx_g92_66 hw, wx_s92_66 hw, wx_N128 hw, wx_a128 hw, wx_g92_67 hw, wx_s92_67 hw, wx_N129 hw, wx_a129 hw, wx_g92_68 hw, wx_s92_68 hw, wx_N130 hw, wx_a130 hw, wx_g92_69 hw, wx_s92_69 hw, wx_N131 hw, wx_a131 hw, wx_g92_70 hw, wx_s92_70 hw, wx_N132 hw, wx_a132 hw, wx_g92_71 hw, wx_s92_71 hw, wx_N133 hw, wx_a133 hw, wx_g92_72 hw, wx_s92_72 hw, wx_N134 hw, wx_a134 hw, wx_g92_73 hw, wx_s92_73 hw, wx_N135 hw, wx_a135 hw, wx_g92_75 hw, wx_s92_75 hw, wx_N136 hw, wx_a136 hw, wx_o92 w1, wx_k92 w1, wx_q92 w1, wx_g92_1 w1, wx_s92_1 w1, wx_N93 w1, wx_a93 w1, wx_g92_2 w1, wx_s92_2 w1, wx_N94 w1, wx_a94 w1, wx_g92_3 w1, wx_s92_3 w1, wx_N95 w1, wx_a95 w1, wx_g92_4 w1, wx_s92_4 w1, wx_N96 w1, wx_a96 w1, wx_g92_5 w1, wx_s92_5 w1, wx_N97 w1, wx_a97 w1, wx_g92_6 w1, wx_s92_6 w1, wx_N98 w1, wx_a98 w1, wx_g92_7 w1, wx_s92_7 w1, wx_N99 w1, wx_a99 w1, wx_g92_9 w1, wx_s92_9 w1, wx_N100 w1, wx_a100 w1, wx_g92_16 w1, wx_s92_16 w1, wx_N101 w1, wx_a101 w1, wx_g92_19 w1, wx_s92_19 w1, wx_N102 w1, wx_a102 w1, wx_g92_20 w1, wx_s92_20 w1, wx_N103 w1, wx_a103 w1, wx_g92_21 w1, wx_s92_21 w1, wx_N104 w1, wx_a104 w1, wx_g92_22 w1, wx_s92_22 w1, wx_N105 w1, wx_a105 w1, wx_g92_23 w1, wx_s92_23 w1, wx_N106 w1, wx_a106 w1, wx_g92_24 w1, wx_s92_24 w1, wx_N107 w1, wx_a107 w1, wx_g92_25 w1, wx_s92_25 w1, wx_N108 w1, wx_a108 w1, wx_g92_29 w1, wx_s92_29 w1, wx_N109 w1, wx_a109 w1, wx_g92_30 w1, wx_s92_30 w1, wx_N110 w1, wx_a110 w1, wx_g92_31 w1, wx_s92_31 w1, wx_N111 w1, wx_a111 w1, wx_g92_32 w1, wx_s92_32 w1, wx_N112 w1, wx_a112 w1, wx_g92_33 w1, wx_s92_33 w1, wx_N113 w1, wx_a113 w1, wx_g92_34 w1, wx_s92_34 w1, wx_N114 w1, wx_a114 w1, wx_g92_35 w1, wx_s92_35 w1, wx_N115 w1, wx_a115 w1, wx_g92_38 w1, wx_s92_38 w1, wx_N116 w1, wx_a116 w1, wx_g92_41 w1, wx_s92_41 w1, wx_N117 w1, wx_a117 w1, wx_g92_44 w1, wx_s92_44 w1, wx_N118 w1, wx_a118 w1, wx_g92_45 w1, wx_s92_45 w1, wx_N119 w1, wx_a119 w1, wx_g92_46 w1, wx_s92_46 w1, wx_N120 w1, wx_a120 w1, wx_g92_52 w1, wx_s92_52 w1, wx_N121 w1, wx_a121 w1, wx_g92_55 w1, wx_s92_55 w1, wx_N122 w1, wx_a122 w1, wx_g92_56 w1, wx_s92_56 w1, wx_N123 w1, wx_a123 w1, wx_g92_57 w1, wx_s92_57 w1, wx_N124 w1, wx_a124 w1, wx_g92_58 w1, wx_s92_58 w1, wx_N125 w1, wx_a125 w1, wx_g92_64 w1, wx_s92_64 w1, wx_N126 w1, wx_a126 w1, wx_g92_65 w1, wx_s92_65 w1, wx_N127 w1, wx_a127 w1, wx_g92_66 w1, wx_s92_66 w1, wx_N128 w1, wx_a128 w1, wx_g92_67 w1, wx_s92_67 w1, wx_N129 w1, wx_a129 w1, wx_g92_68 w1, wx_s92_68 w1, wx_N130 w1, wx_a130 w1, wx_g92_69 w1, wx_s92_69 w1, wx_N131 w1, wx_a131 w1, wx_g92_70 w1, wx_s92_70 w1, wx_N132 w1, wx_a132 w1, wx_g92_71 w1, wx_s92_71 w1, wx_N133 w1, wx_a133 w1, wx_g92_72 w1, wx_s92_72 w1, wx_N134 w1, wx_a134 w1, wx_g92_73 w1, wx_s92_73 w1, wx_N135 w1, wx_a135 w1, wx_g92_75 w1, wx_s92_75 w1, wx_N136 w1, wx_a136 w1, wx_o92 wl1, wx_k92 wl1, wx_q92 wl1, wx_g92_1 wl1, wx_s92_1 wl1, wx_N93 wl1, wx_a93 wl1, wx_g92_2 wl1, wx_s92_2 wl1, wx_N94 wl1, wx_a94 wl1, wx_g92_3 wl1, wx_s92_3 wl1, wx_N95 wl1, wx_a95 wl1, wx_g92_4 wl1, wx_s92_4 wl1, wx_N96 wl1, wx_a96 wl1, wx_g92_5 wl1, wx_s92_5 wl1, wx_N97 wl1, wx_a97 wl1, wx_g92_6 wl1, wx_s92_6 wl1, wx_N98 wl1, wx_a98 wl1, wx_g92_7 wl1, wx_s92_7 wl1, wx_N99 wl1, wx_a99 wl1, wx_g92_9 wl1, wx_s92_9 wl1, wx_N100 wl1, wx_a100 wl1, wx_g92_16 wl1, wx_s92_16 wl1, wx_N101 wl1, wx_a101 wl1, wx_g92_19 wl1, wx_s92_19 wl1, wx_N102 wl1, wx_a102 wl1, wx_g92_20 wl1, wx_s92_20 wl1, wx_N103 wl1, wx_a103 wl1, wx_g92_21 wl1, wx_s92_21 wl1, wx_N104 wl1, wx_a104 wl1, wx_g92_22 wl1, wx_s92_22 wl1, wx_N105 wl1, wx_a105 wl1, wx_g92_23 wl1, wx_s92_23 wl1, wx_N106 wl1, wx_a106 wl1, wx_g92_24 wl1, wx_s92_24 wl1, wx_N107 wl1, wx_a107 wl1, wx_g92_25 wl1, wx_s92_25 wl1, wx_N108 wl1, wx_a108 wl1, wx_g92_29 wl1, wx_s92_29 wl1, wx_N109 wl1, wx_a109 wl1, wx_g92_30 wl1, wx_s92_30 wl1, wx_N110 wl1, wx_a110 wl1, wx_g92_31 wl1, wx_s92_31 wl1, wx_N111 wl1, wx_a111 wl1, wx_g92_32 wl1, wx_s92_32 wl1, wx_N112 wl1, wx_a112 wl1, wx_g92_33 wl1, wx_s92_33 wl1, wx_N113 wl1, wx_a113 wl1, wx_g92_34 wl1, wx_s92_34 wl1, wx_N114 wl1, wx_a114 wl1, wx_g92_35 wl1, wx_s92_35 wl1, wx_N115 wl1, wx_a115 wl1, wx_g92_38 wl1, wx_s92_38 wl1, wx_N116 wl1, wx_a116 wl1, wx_g92_41 wl1, wx_s92_41 wl1, wx_N117 wl1, wx_a117 wl1, wx_g92_44 wl1, wx_s92_44 wl1, wx_N118 wl1, wx_a118 wl1, wx_g92_45 wl1, wx_s92_45 wl1, wx_N119 wl1, wx_a119 wl1, wx_g92_46 wl1, wx_s92_46 wl1, wx_N120 wl1, wx_a120 wl1, wx_g92_52 wl1, wx_s92_52 wl1, wx_N121 wl1, wx_a121 wl1, wx_g92_55 wl1, wx_s92_55 wl1, wx_N122 wl1, wx_a122 wl1, wx_g92_56 wl1, wx_s92_56 wl1, wx_N123 wl1, wx_a123 wl1, wx_g92_57 wl1, wx_s92_57 wl1, wx_N124 wl1, wx_a124 wl1, wx_g92_58 wl1, wx_s92_58 wl1, wx_N125 wl1, wx_a125 wl1, wx_g92_64 wl1, wx_s92_64 wl1, wx_N126 wl1, wx_a126 wl1, wx_g92_65 wl1, wx_s92_65 wl1, wx_N127 wl1, wx_a127 wl1, wx_g92_66 wl1, wx_s92_66 wl1, wx_N128 wl1, wx_a128 wl1, wx_g92_67 wl1, wx_s92_67 wl1, wx_N129 wl1, wx_a129 wl1, wx_g92_68 wl1, wx_s92_68 wl1, wx_N130 wl1, wx_a130 wl1, wx_g92_69 wl1, wx_s92_69 wl1, wx_N131 wl1, wx_a131 wl1, wx_g92_70 wl1, wx_s92_70 wl1, wx_N132 wl1, wx_a132 wl1, wx_g92_71 wl1, wx_s92_71 wl1, wx_N133 wl1, wx_a133 wl1, wx_g92_72 wl1, wx_s92_72 wl1, wx_N134 wl1, wx_a134 wl1, wx_g92_73 wl1, wx_s92_73 wl1, wx_N135 wl1, wx_a135 wl1, wx_g92_75 wl1, wx_s92_75 wl1, wx_N136 wl1, wx_a136 wl1, wx_o92 wk, wx_k92 wk, wx_q92 wk, wx_g92_1 wk, wx_s92_1 wk, wx_N93 wk, wx_a93 wk, wx_g92_2 wk, wx_s92_2 wk, wx_N94 wk, wx_a94 wk, wx_g92_3 wk, wx_s92_3 wk, wx_N95 wk, wx_a95 wk, wx_g92_4 wk, wx_s92_4 wk, wx_N96 wk, wx_a96 wk, wx_g92_5 wk, wx_s92_5 wk, wx_N97 wk, wx_a97 wk, wx_g92_6 wk, wx_s92_6 wk, wx_N98 wk, wx_a98 wk, wx_g92_7 wk, wx_s92_7 wk, wx_N99 wk, wx_a99 wk, wx_g92_9 wk, wx_s92_9 wk, wx_N100 wk, wx_a100 wk, wx_g92_16 wk, wx_s92_16 wk, wx_N101 wk, wx_a101 wk, wx_g92_19 wk, wx_s92_19 wk, wx_N102 wk, wx_a102 wk, wx_g92_20 wk, wx_s92_20 wk, wx_N103 wk, wx_a103 wk, wx_g92_21 wk, wx_s92_21 wk, wx_N104 wk, wx_a104 wk, wx_g92_22 wk, wx_s92_22 wk, wx_N105 wk, wx_a105 wk, wx_g92_23 wk, wx_s92_23 wk, wx_N106 wk, wx_a106 wk, wx_g92_24 wk, wx_s92_24 wk, wx_N107 wk, wx_a107 wk, wx_g92_25 wk, wx_s92_25 wk, wx_N108 wk, wx_a108 wk, wx_g92_29 wk, wx_s92_29 wk, wx_N109 wk, wx_a109 wk, wx_g92_30 wk, wx_s92_30 wk, wx_N110 wk, wx_a110 wk, wx_g92_31 wk, wx_s92_31 wk, wx_N111 wk, wx_a111 wk, wx_g92_32 wk, wx_s92_32 wk, wx_N112 wk, wx_a112 wk, wx_g92_33 wk, wx_s92_33 wk, wx_N113 wk, wx_a113 wk, wx_g92_34 wk, wx_s92_34 wk, wx_N114 wk, wx_a114 wk, wx_g92_35 wk, wx_s92_35 wk, wx_N115 wk, wx_a115 wk, wx_g92_38 wk, wx_s92_38 wk, wx_N116 wk, wx_a116 wk, wx_g92_41 wk, wx_s92_41 wk, wx_N117 wk, wx_a117 wk, wx_g92_44 wk, wx_s92_44 wk, wx_N118 wk, wx_a118 wk, wx_g92_45 wk, wx_s92_45 wk, wx_N119 wk, wx_a119 wk, wx_g92_46 wk, wx_s92_46 wk, wx_N120 wk, wx_a120 wk, wx_g92_52 wk, wx_s92_52 wk, wx_N121 wk, wx_a121 wk, wx_g92_55 wk, wx_s92_55 wk, wx_N122 wk, wx_a122 wk, wx_g92_56 wk, wx_s92_56 wk, wx_N123 wk, wx_a123 wk, wx_g92_57 wk, wx_s92_57 wk, wx_N124 wk, wx_a124 wk, wx_g92_58 wk, wx_s92_58 wk, wx_N125 wk, wx_a125 wk, wx_g92_64 wk, wx_s92_64 wk, wx_N126 wk, wx_a126 wk, wx_g92_65 wk, wx_s92_65 wk, wx_N127 wk, wx_a127 wk, wx_g92_66 wk, wx_s92_66 wk, wx_N128 wk, wx_a128 wk, wx_g92_67 wk, wx_s92_67 wk, wx_N129 wk, wx_a129 wk, wx_g92_68 wk, wx_s92_68 wk, wx_N130 wk, wx_a130 wk, wx_g92_69 wk, wx_s92_69 wk, wx_N131 wk, wx_a131 wk, wx_g92_70 wk, wx_s92_70 wk, wx_N132 wk, wx_a132 wk, wx_g92_71 wk, wx_s92_71 wk, wx_N133 wk, wx_a133 wk, wx_g92_72 wk, wx_s92_72 wk, wx_N134 wk, wx_a134 wk, wx_g92_73 wk, wx_s92_73 wk, wx_N135 wk, wx_a135 wk, wx_g92_75 wk, wx_s92_75 wk, wx_N136 wk, wx_a136 wk, wx_o92 wV, wx_k92 wV, wx_q92 wV, wx_g92_1 wV, wx_s92_1 wV, wx_N93 wV, wx_a93 wV, wx_g92_2 wV, wx_s92_2 wV, wx_N94 wV, wx_a94 wV, wx_g92_3 wV, wx_s92_3 wV, wx_N95 wV, wx_a95 wV, wx_g92_4 wV, wx_s92_4 wV, wx_N96 wV, wx_a96 wV, wx_g92_5 wV, wx_s92_5 wV, wx_N97 wV, wx_a97 wV, wx_g92_6 wV, wx_s92_6 wV, wx_N98 wV, wx_a98 wV, wx_g92_7 wV, wx_s92_7 wV, wx_N99 wV, wx_a99 wV, wx_g92_9 wV, wx_s92_9 wV, wx_N100 wV, wx_a100 wV, wx_g92_16 wV, wx_s92_16 wV, wx_N101 wV, wx_a101 wV, wx_g92_19 wV, wx_s92_19 wV, wx_N102 wV, wx_a102 wV, wx_g92_20 wV, wx_s92_20 wV, wx_N103 wV, wx_a103 wV, wx_g92_21 wV, wx_s92_21 wV, wx_N104 wV, wx_a104 wV, wx_g92_22 wV, wx_s92_22 wV, wx_N105 wV, wx_a105 wV, wx_g92_23 wV, wx_s92_23 wV, wx_N106 wV, wx_a106 wV, wx_g92_24 wV, wx_s92_24 wV, wx_N107 wV, wx_a107 wV, wx_g92_25 wV, wx_s92_25 wV, wx_N108 wV, wx_a108 wV, wx_g92_29 wV, wx_s92_29 wV, wx_N109 wV, wx_a109 wV, wx_g92_30 wV, wx_s92_30 wV, wx_N110 wV, wx_a110 wV, wx_g92_31 wV, wx_s92_31 wV, wx_N111 wV, wx_a111 wV, wx_g92_32 wV, wx_s92_32 wV, wx_N112 wV, wx_a112 wV, wx_g92_33 wV, wx_s92_33 wV, wx_N113 wV, wx_a113 wV, wx_g92_34 wV, wx_s92_34 wV, wx_N114 wV, wx_a114 wV, wx_g92_35 wV, wx_s92_35 wV, wx_N115 wV, wx_a115 wV, wx_g92_38 wV, wx_s92_38 wV, wx_N116 wV, wx_a116 wV, wx_g92_41 wV, wx_s92_41 wV, wx_N117 wV, wx_a117 wV, wx_g92_44 wV, wx_s92_44 wV, wx_N118 wV, wx_a118 wV, wx_g92_45 wV, wx_s92_45 wV, wx_N119 wV, wx_a119 wV, wx_g92_46 wV, wx_s92_46 wV, wx_N120 wV, wx_a120 wV, wx_g92_52 wV, wx_s92_52 wV, wx_N121 wV, wx_a121 wV, wx_g92_55 wV, wx_s92_55 wV, wx_N122 wV, wx_a122 wV, wx_g92_56 wV, wx_s92_56 wV, wx_N123 wV, wx_a123 wV, wx_g92_57 wV, wx_s92_57 wV, wx_N124 wV, wx_a124 wV, wx_g92_58 wV, wx_s92_58 wV, wx_N125 wV, wx_a125 wV, wx_g92_64 wV, wx_s92_64 wV, wx_N126 wV, wx_a126 wV, wx_g92_65 wV, wx_s92_65 wV, wx_N127 wV, wx_a127 wV, wx_g92_66 wV, wx_s92_66 wV, wx_N128 wV, wx_a128 wV, wx_g92_67 wV, wx_s92_67 wV, wx_N129 wV, wx_a129 wV, wx_g92_68 wV, wx_s92_68 wV, wx_N130 wV, wx_a130 wV, wx_g92_69 wV, wx_s92_69 wV, wx_N131 wV, wx_a131 wV, wx_g92_70 wV, wx_s92_70 wV, wx_N132 wV, wx_a132 wV, wx_g92_71 wV, wx_s92_71 wV, wx_N133 wV, wx_a133 wV, wx_g92_72 wV, wx_s92_72 wV, wx_N134 wV, wx_a134 wV, wx_g92_73 wV, wx_s92_73 wV, wx_N135 wV, wx_a135 wV, wx_g92_75 wV, wx_s92_75 wV, wx_N136 wV, wx_a136 wV, wx_o92 wkV, wx_k92 wkV, wx_q92 wkV, wx_g92_1 wkV, wx_s92_1 wkV, wx_N93 wkV, wx_a93 wkV, wx_g92_2 wkV, wx_s92_2 wkV, wx_N94 wkV, wx_a94 wkV, wx_g92_3 wkV, wx_s92_3 wkV, wx_N95 wkV, wx_a95 wkV, wx_g92_4 wkV, wx_s92_4 wkV, wx_N96 wkV, wx_a96 wkV, wx_g92_5 wkV, wx_s92_5 wkV, wx_N97 wkV, wx_a97 wkV, wx_g92_6 wkV, wx_s92_6 wkV, wx_N98 wkV, wx_a98 wkV, wx_g92_7 wkV, wx_s92_7 wkV, wx_N99 wkV, wx_a99 wkV, wx_g92_9 wkV, wx_s92_9 wkV, wx_N100 wkV, wx_a100 wkV, wx_g92_16 wkV, wx_s92_16 wkV, wx_N101 wkV, wx_a101 wkV, wx_g92_19 wkV, wx_s92_19 wkV, wx_N102 wkV, wx_a102 wkV, wx_g92_20 wkV, wx_s92_20 wkV, wx_N103 wkV, wx_a103 wkV, wx_g92_21 wkV, wx_s92_21 wkV, wx_N104 wkV, wx_a104 wkV, wx_g92_22 wkV, wx_s92_22 wkV, wx_N105 wkV, wx_a105 wkV, wx_g92_23 wkV, wx_s92_23 wkV, wx_N106 wkV, wx_a106 wkV, wx_g92_24 wkV, wx_s92_24 wkV, wx_N107 wkV, wx_a107 wkV, wx_g92_25 wkV, wx_s92_25 wkV, wx_N108 wkV, wx_a108 wkV, wx_g92_29 wkV, wx_s92_29 wkV, wx_N109 wkV, wx_a109 wkV, wx_g92_30 wkV, wx_s92_30 wkV, wx_N110 wkV, wx_a110 wkV, wx_g92_31 wkV, wx_s92_31 wkV, wx_N111 wkV, wx_a111 wkV, wx_g92_32 wkV, wx_s92_32 wkV, wx_N112 wkV, wx_a112 wkV, wx_g92_33 wkV, wx_s92_33 wkV, wx_N113 wkV, wx_a113 wkV, wx_g92_34 wkV, wx_s92_34 wkV, wx_N114 wkV, wx_a114 wkV, wx_g92_35 wkV, wx_s92_35 wkV, wx_N115 wkV, wx_a115 wkV, wx_g92_38 wkV, wx_s92_38 wkV, wx_N116 wkV, wx_a116 wkV, wx_g92_41 wkV, wx_s92_41 wkV, wx_N117 wkV, wx_a117 wkV, wx_g92_44 wkV, wx_s92_44 wkV, wx_N118 wkV, wx_a118 wkV, wx_g92_45 wkV, wx_s92_45 wkV, wx_N119 wkV, wx_a119 wkV, wx_g92_46 wkV, wx_s92_46 wkV, wx_N120 wkV, wx_a120 wkV, wx_g92_52 wkV, wx_s92_52 wkV, wx_N121 wkV, wx_a121 wkV, wx_g92_55 wkV, wx_s92_55 wkV, wx_N122 wkV, wx_a122 wkV, wx_g92_56 wkV, wx_s92_56 wkV, wx_N123 wkV, wx_a123 wkV, wx_g92_57 wkV, wx_s92_57 wkV, wx_N124 wkV, wx_a124 wkV, wx_g92_58 wkV, wx_s92_58 wkV, wx_N125 wkV, wx_a125 wkV, wx_g92_64 wkV, wx_s92_64 wkV, wx_N126 wkV, wx_a126 wkV, wx_g92_65 wkV, wx_s92_65 wkV, wx_N127 wkV, wx_a127 wkV, wx_g92_66 wkV, wx_s92_66 wkV, wx_N128 wkV, wx_a128 wkV, wx_g92_67 wkV, wx_s92_67 wkV, wx_N129 wkV, wx_a129 wkV, wx_g92_68 wkV, wx_s92_68 wkV, wx_N130 wkV, wx_a130 wkV, wx_g92_69 wkV, wx_s92_69 wkV, wx_N131 wkV, wx_a131 wkV, wx_g92_70 wkV, wx_s92_70 wkV, wx_N132 wkV, wx_a132 wkV, wx_g92_71 wkV, wx_s92_71 wkV, wx_N133 wkV, wx_a133 wkV, wx_g92_72 wkV, wx_s92_72 wkV, wx_N134 wkV, wx_a134 wkV, wx_g92_73 wkV, wx_s92_73 wkV, wx_N135 wkV, wx_a135 wkV, wx_g92_75 wkV, wx_s92_75 wkV, wx_N136 wkV, wx_a136 wkV, wx_o92 w2, wx_k92 w2, wx_q92 w2, wx_g92_1 w2, wx_s92_1 w2, wx_N93 w2, wx_a93 w2, wx_g92_2 w2, wx_s92_2 w2, wx_N94 w2, wx_a94 w2, wx_g92_3 w2, wx_s92_3 w2, wx_N95 w2, wx_a95 w2, wx_g92_4 w2, wx_s92_4 w2, wx_N96 w2, wx_a96 w2, wx_g92_5 w2, wx_s92_5 w2, wx_N97 w2, wx_a97 w2, wx_g92_6 w2, wx_s92_6 w2, wx_N98 w2, wx_a98 w2, wx_g92_7 w2, wx_s92_7 w2, wx_N99 w2, wx_a99 w2, wx_g92_9 w2, wx_s92_9 w2, wx_N100 w2, wx_a100 w2, wx_g92_16 w2, wx_s92_16 w2, wx_N101 w2, wx_a101 w2, wx_g92_19 w2, wx_s92_19 w2, wx_N102 w2, wx_a102 w2, wx_g92_20 w2, wx_s92_20 w2, wx_N103 w2, wx_a103 w2, wx_g92_21 w2, wx_s92_21 w2, wx_N104 w2, wx_a104 w2, wx_g92_22 w2, wx_s92_22 w2, wx_N105 w2, wx_a105 w2, wx_g92_23 w2, wx_s92_23 w2, wx_N106 w2, wx_a106 w2, wx_g92_24 w2, wx_s92_24 w2, wx_N107 w2, wx_a107 w2, wx_g92_25 w2, wx_s92_25 w2, wx_N108 w2, wx_a108 w2, wx_g92_29 w2, wx_s92_29 w2, wx_N109 w2, wx_a109 w2, wx_g92_30 w2, wx_s92_30 w2, wx_N110 w2, wx_a110 w2, wx_g92_31 w2, wx_s92_31 w2, wx_N111 w2, wx_a111 w2, wx_g92_32 w2, wx_s92_32 w2, wx_N112 w2, wx_a112 w2, wx_g92_33 w2, wx_s92_33 w2, wx_N113 w2, wx_a113 w2, wx_g92_34 w2, wx_s92_34 w2, wx_N114 w2, wx_a114 w2, wx_g92_35 w2, wx_s92_35 w2, wx_N115 w2, wx_a115 w2, wx_g92_38 w2, wx_s92_38 w2, wx_N116 w2, wx_a116 w2, wx_g92_41 w2, wx_s92_41 w2, wx_N117 w2, wx_a117 w2, wx_g92_44 w2, wx_s92_44 w2, wx_N118 w2, wx_a118 w2, wx_g92_45 w2, wx_s92_45 w2, wx_N119 w2, wx_a119 w2, wx_g92_46 w2, wx_s92_46 w2, wx_N120 w2, wx_a120 w2, wx_g92_52 w2, wx_s92_52 w2, wx_N121 w2, wx_a121 w2, wx_g92_55 w2, wx_s92_55 w2, wx_N122 w2, wx_a122 w2, wx_g92_56 w2, wx_s92_56 w2, wx_N123 w2, wx_a123 w2, wx_g92_57 w2, wx_s92_57 w2, wx_N124 w2, wx_a124 w2, wx_g92_58 w2, wx_s92_58 w2, wx_N125 w2, wx_a125 w2, wx_g92_64 w2, wx_s92_64 w2, wx_N126 w2, wx_a126 w2, wx_g92_65 w2, wx_s92_65 w2, wx_N127 w2, wx_a127 w2, wx_g92_66 w2, wx_s92_66 w2, wx_N128 w2, wx_a128 w2, wx_g92_67 w2, wx_s92_67 w2, wx_N129 w2, wx_a129 w2, wx_g92_68 w2, wx_s92_68 w2, wx_N130 w2, wx_a130 w2, wx_g92_69 w2, wx_s92_69 w2, wx_N131 w2, wx_a131 w2, wx_g92_70 w2, wx_s92_70 w2, wx_N132 w2, wx_a132 w2, wx_g92_71 w2, wx_s92_71 w2, wx_N133 w2, wx_a133 w2, wx_g92_72 w2, wx_s92_72 w2, wx_N134 w2, wx_a134 w2, wx_g92_73 w2, wx_s92_73 w2, wx_N135 w2, wx_a135 w2, wx_g92_75 w2, wx_s92_75 w2, wx_N136 w2, wx_a136 w2, wx_o92 wl2, wx_k92 wl2, wx_q92 wl2, wx_g92_1 wl2, wx_s92_1 wl2, wx_N93 wl2, wx_a93 wl2, wx_g92_2 wl2, wx_s92_2 wl2, wx_N94 wl2, wx_a94 wl2, wx_g92_3 wl2, wx_s92_3 wl2, wx_N95 wl2, wx_a95 wl2, wx_g92_4 wl2, wx_s92_4 wl2, wx_N96 wl2, wx_a96 wl2, wx_g92_5 wl2, wx_s92_5 wl2, wx_N97 wl2, wx_a97 wl2, wx_g92_6 wl2, wx_s92_6 wl2, wx_N98 wl2, wx_a98 wl2, wx_g92_7 wl2, wx_s92_7 wl2, wx_N99 wl2, wx_a99 wl2, wx_g92_9 wl2, wx_s92_9 wl2, wx_N100 wl2, wx_a100 wl2, wx_g92_16 wl2, wx_s92_16 wl2, wx_N101 wl2, wx_a101 wl2, wx_g92_19 wl2, wx_s92_19 wl2, wx_N102 wl2, wx_a102 wl2, wx_g92_20 wl2, wx_s92_20 wl2, wx_N103 wl2, wx_a103 wl2, wx_g92_21 wl2, wx_s92_21 wl2, wx_N104 wl2, wx_a104 wl2, wx_g92_22 wl2, wx_s92_22 wl2, wx_N105 wl2, wx_a105 wl2, wx_g92_23 wl2, wx_s92_23 wl2, wx_N106 wl2, wx_a106 wl2, wx_g92_24 wl2, wx_s92_24 wl2, wx_N107 wl2, wx_a107 wl2, wx_g92_25 wl2, wx_s92_25 wl2, wx_N108 wl2, wx_a108 wl2, wx_g92_29 wl2, wx_s92_29 wl2, wx_N109 wl2, wx_a109 wl2, wx_g92_30 wl2, wx_s92_30 wl2, wx_N110 wl2, wx_a110 wl2, wx_g92_31 wl2, wx_s92_31 wl2, wx_N111 wl2, wx_a111 wl2, wx_g92_32 wl2, wx_s92_32 wl2, wx_N112 wl2, wx_a112 wl2, wx_g92_33 wl2, wx_s92_33 wl2, wx_N113 wl2, wx_a113 wl2, wx_g92_34 wl2, wx_s92_34 wl2, wx_N114 wl2, wx_a114 wl2, wx_g92_35 wl2, wx_s92_35 wl2, wx_N115 wl2, wx_a115 wl2, wx_g92_38 wl2, wx_s92_38 wl2, wx_N116 wl2, wx_a116 wl2, wx_g92_41 wl2, wx_s92_41 wl2, wx_N117 wl2, wx_a117 wl2, wx_g92_44 wl2, wx_s92_44 wl2, wx_N118 wl2, wx_a118 wl2, wx_g92_45 wl2, wx_s92_45 wl2, wx_N119 wl2, wx_a119 wl2, wx_g92_46 wl2, wx_s92_46 wl2, wx_N120 wl2, wx_a120 wl2, wx_g92_52 wl2, wx_s92_52 wl2, wx_N121 wl2, wx_a121 wl2, wx_g92_55 wl2, wx_s92_55 wl2, wx_N122 wl2, wx_a122 wl2, wx_g92_56 wl2, wx_s92_56 wl2, wx_N123 wl2, wx_a123 wl2, wx_g92_57 wl2, wx_s92_57 wl2, wx_N124 wl2, wx_a124 wl2, wx_g92_58 wl2, wx_s92_58 wl2, wx_N125 wl2, wx_a125 wl2, wx_g92_64 wl2, wx_s92_64 wl2, wx_N126 wl2, wx_a126 wl2, wx_g92_65 wl2, wx_s92_65 wl2, wx_N127 wl2, wx_a127 wl2, wx_g92_66 wl2, wx_s92_66 wl2, wx_N128 wl2, wx_a128 wl2, wx_g92_67 wl2, wx_s92_67 wl2, wx_N129 wl2, wx_a129 wl2, wx_g92_68 wl2, wx_s92_68 wl2, wx_N130 wl2, wx_a130 wl2, wx_g92_69 wl2, wx_s92_69 wl2, wx_N131 wl2, wx_a131 wl2, wx_g92_70 wl2, wx_s92_70 wl2, wx_N132 wl2, wx_a132 wl2, wx_g92_71 wl2, wx_s92_71 wl2, wx_N133 wl2, wx_a133 wl2, wx_g92_72 wl2, wx_s92_72 wl2, wx_N134 wl2, wx_a134 wl2, wx_g92_73 wl2, wx_s92_73 wl2, wx_N135 wl2, wx_a135 wl2, wx_g92_75 wl2, wx_s92_75 wl2, wx_N136 wl2, wx_a136 wl2, List.not_mem_nil, false_implies, implies_true, nI_clamp, nI_add, Nat.reducePow, hp_bd, hp_bdi, hp_ts, hp_tn, hp_tsc, hp_tnc, Nat.reduceAdd, Nat.reduceSub, Nat.reduceMul, Nat.reduceLT, Nat.reduceLeDiff, Nat.reduceEqDiff, reduceIte, not_true_eq_false, not_false_eq_true, and_true, true_and, and_self, and_false, false_and, or_true, true_or, or_false, false_or, decide_true, decide_false, Bool.and_true, Bool.true_and, Bool.not_false, Bool.or_false, Bool.false_or, Bool.or_true, Bool.true_or, h8, e8, c0, c1, ca, cb, i0, i1, ia, ib, r0, r1, k1, k2, k3, k4, g1, g2, g1a, g1b, g2a, g2b, hV]
  have no : ab_l2 (y7 - x7) (y8 - x8) = false → mm_ex (d + 10) 180 19 [.ref 92, .int x, .int (nI s.1), .int (md_fo s.2), .int (nI p), v5, v6, v7, v8, v9, v10] [] S = mm_ex (d + 10) 180 188 [.ref 92, .int x, .int (nI s.1), .int (md_fo s.2), .int (nI p), .int (nI a0), .int (nI b0), .int x7, .int x8, .int (y7 - x7), .int (y8 - x8)] [] (mm_uM (mm_uM (mm_ly T2) 100 p (nI a0)) 100 (p + 1) (nI b0)) := by
    intro h
    unfold ab_l2 at h
    rw [st]
    by_cases h1 : y7 - x7 < nI 0
    · rw [if_pos h1]
    rw [if_neg h1, b180_161]
    by_cases h2 : y8 - x8 < nI 0
    · rw [if_pos h2]
    rw [if_neg h2, b180_166]
    by_cases h3 : y7 - x7 + (y8 - x8) ≤ nI 0
    · rw [if_pos h3]
    · rw [decide_eq_true (Int32.not_lt.mp h1), decide_eq_true (Int32.not_lt.mp h2), decide_eq_true (Int32.not_le.mp h3)] at h
      cases h
  cases hl : ab_l2 (y7 - x7) (y8 - x8) with
  | false =>
    rw [if_neg (by decide)]
    exact ⟨_, _, _, _, _, _, _, (no hl).trans (b180_188.trans (by rw [nI_add])), fin⟩
  | true =>
    have e0 : (nI s.1 = nI 0) = (s.1 = 0) := propext (nI_eq (by omega) (by omega))
    unfold ab_l2 at hl
    rw [Bool.and_eq_true, Bool.and_eq_true] at hl
    have h1 := Int32.not_lt.mpr (of_decide_eq_true hl.1.1)
    have h2 := Int32.not_lt.mpr (of_decide_eq_true hl.1.2)
    have h3 := Int32.not_le.mpr (of_decide_eq_true hl.2)
    rw [if_neg h1, b180_161, if_neg h2, b180_166, if_neg h3, b180_174] at st
    rw [if_pos rfl]
    by_cases z : s.1 = 0
    · rw [if_pos (by rw [e0]; exact z), b180_178, nI_add, nI_add] at st
      refine ⟨_, .int (nI a0), .int (nI b0), .int x7, .int x8, .int (y7 - x7), .int (y8 - x8), ?_, fin⟩
      rw [st, if_pos z]
      rfl
    · rw [if_neg (by rw [e0]; exact z), b180_183, nI_add, nI_add] at st
      refine ⟨_, .int (nI a0), .int (nI b0), .int x7, .int x8, .int (y7 - x7), .int (y8 - x8), ?_, fin⟩
      rw [st, if_neg z]
theorem m180_loop (ok : gb_ok G) : ∀ (k p : Nat) (S : mm_S) (v5 v6 v7 v8 v9 v10 : Value), RM S G → p + k = (ab_row (gD G)).length - 1 → ∃ W w u5 u6 u7 u8 u9 u10, mm_ex (d + 10) 180 19 [.ref 92, .int x, .int (nI (ab_lb ab_l2 (gP G) (gD G) p).1), .int (md_fo (ab_lb ab_l2 (gP G) (gD G) p).2), .int (nI p), v5, v6, v7, v8, v9, v10] [] S = mm_ex (d + 10) 180 194 [.ref 92, .int x, .int (nI (ab_lb ab_l2 (gP G) (gD G) ((ab_row (gD G)).length - 1)).1), .int (md_fo (ab_lb ab_l2 (gP G) (gD G) ((ab_row (gD G)).length - 1)).2), .int w, u5, u6, u7, u8, u9, u10] [] W ∧ QM S W G := by
  have hl6 : (ab_row (gD G)).length ≤ 6 := row_le ok.1.1 ok.1.2.1
  intro k
  induction k with
  | zero =>
    intro p S v5 v6 v7 v8 v9 v10 hR hp
    have e : p = (ab_row (gD G)).length - 1 := by omega
    have h8 : mm_M S 92 8 = nI (ab_row (gD G)).length := hR.2.1.2.1.1
    have e8 : nI (ab_row (gD G)).length - nI 1 ≤ nI p := by
      rw [i_le1 (by omega) (by omega)]
      omega
    refine ⟨S, nI p, v5, v6, v7, v8, v9, v10, ?_, QM_rf hR⟩
    rw [b180_19 (wx_o92 hR.1), h8, if_pos e8, ← e]
  | succ k ih =>
    intro p S v5 v6 v7 v8 v9 v10 hR hp
    obtain ⟨W, u5, u6, u7, u8, u9, u10, g1, g2⟩ := m180_it (d := d) (x := x) (s := ab_lb ab_l2 (gP G) (gD G) p) (v5 := v5) (v6 := v6) (v7 := v7) (v8 := v8) (v9 := v9) (v10 := v10) ok hR (p := p) (by omega) (Nat.le_trans (lb_le p).1 (by omega))
    have e1 : ab_lb ab_l2 (gP G) (gD G) (p + 1) = ab_l1 ab_l2 (gP G) (gD G) (ab_lb ab_l2 (gP G) (gD G) p) p := by
      unfold ab_lb
      rw [List.range_succ, List.foldl_append]
      rfl
    rw [← e1] at g1
    obtain ⟨W2, w, t5, t6, t7, t8, t9, t10, g3, g4⟩ := ih (p + 1) W u5 u6 u7 u8 u9 u10 g2.1 (by omega)
    exact ⟨W2, w, t5, t6, t7, t8, t9, t10, g1.trans g3, QM_tr g2 g4⟩
theorem k128 (d : Nat) : (x = nI 0 ∨ x = nI 1) ∧ mm_cl d 128 [.int x, .int (nI 0), .int (nI 1)] S = some (some (.int (nI 1)), S) ∨ ¬ (x = nI 0 ∨ x = nI 1) ∧ mm_cl d 128 [.int x, .int (nI 0), .int (nI 1)] S = some (some (.int (nI 0)), S) := by
  by_cases hx : x = nI 0 ∨ x = nI 1
  · refine Or.inl ⟨hx, ?_⟩
    rcases hx with rfl | rfl
    · exact m128s (n := 1) rfl (by decide) (j := 0) (by decide)
    · exact m128s (n := 1) rfl (by decide) (j := 1) (by decide)
  · refine Or.inr ⟨hx, m128n (n := 1) rfl (by decide) ?_⟩
    rcases kw_d (n := 1) (m := 2) rfl (by decide) x with ⟨z, -⟩ | ⟨z, -⟩ | ⟨j, hj, -, z, -⟩
    · exact z
    · exact z
    · exfalso
      rcases (by omega : j = 0 ∨ j = 1) with rfl | rfl
      · exact hx (Or.inl z)
      · exact hx (Or.inr z)
theorem m_15 (ok : gb_ok G) (hR : RM S G) : oM S (d + 10) 180 [.ref 92, .int x] (.int (an_15q ab_l2 G x)) G := by
  have hw := hR.1
  unfold an_15q
  obtain ⟨W, w, u5, u6, u7, u8, u9, u10, g1, g2⟩ := m180_loop (d := d) (x := x) ok ((ab_row (gD G)).length - 1) 0 S .null .null .null .null .null .null hR (by omega)
  rcases k128 (S := S) (x := x) (d + 9) with ⟨hx, k⟩ | ⟨hx, k⟩
  · refine oM_Q g2 ?_
    rw [e180, b180_0, k, hp_bd, hp_ts, b180_6, if_neg i01, b180_11]
    refine Eq.trans g1 ?_
    by_cases h0 : x = nI 0
    · rw [b180_194, if_pos h0, if_pos h0, b180_198]
    · rw [b180_194, if_neg h0, if_neg h0, if_pos (hx.resolve_left h0), b180_202]
  · refine oM_id hR ?_
    rw [e180, b180_0, k, hp_bd, hp_ts, b180_6, if_pos rfl, b180_9, if_neg (fun e => hx (Or.inl e)), if_neg (fun e => hx (Or.inr e))]
end QM3
