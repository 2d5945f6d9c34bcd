/-! ===== a fresh object: what its cells hold; the class's writes leave the model alone ===== -/
def mm_Fr (S : mm_S) : Prop := mm_n S = 137 ∧ mm_z S = 4358 ∧ (∀ b, b < 137 → mm_Tb S b) ∧ mm_W S
def mm_Gd (S : mm_S) : Prop := mm_W S ∧ mm_Tb S 92 ∧ mm_Tb S 110 ∧ mm_Tb S 113 ∧ mm_Tb S 114 ∧ mm_Tb S 115 ∧ mm_n S ≤ 200 ∧ mm_z S ≤ 5000
section FR
variable {S : mm_S}
theorem gF (h : mm_Fr S) : mm_Gd S := ⟨h.2.2.2, h.2.2.1 92 (by decide), h.2.2.1 110 (by decide), h.2.2.1 113 (by decide), h.2.2.1 114 (by decide), h.2.2.1 115 (by decide), by rw [h.1]; decide, by rw [h.2.1]; decide⟩
theorem g_sm {S' : mm_S} (h : mm_Gd S) (hw : mm_W S') (f : ∀ b, 92 ≤ b → b < 137 → mm_sm S S' b) (h1 : mm_n S' ≤ 200) (h2 : mm_z S' ≤ 5000) : mm_Gd S' :=
  ⟨hw, mm_Tb_sm (f 92 (by decide) (by decide)) h.2.1, mm_Tb_sm (f 110 (by decide) (by decide)) h.2.2.1, mm_Tb_sm (f 113 (by decide) (by decide)) h.2.2.2.1, mm_Tb_sm (f 114 (by decide) (by decide)) h.2.2.2.2.1, mm_Tb_sm (f 115 (by decide) (by decide)) h.2.2.2.2.2.1, h1, h2⟩
theorem g_uM {a k : Nat} {v : Int32} (ha : a < 92) (h : mm_Gd S) : mm_Gd (mm_uM S a k v) :=
  g_sm h h.1 (fun b h1 h2 => ⟨rfl, rfl, fun i => by rw [hp_MuM, if_neg (fun e => by omega)], fun _ => rfl⟩) h.2.2.2.2.2.2.1 h.2.2.2.2.2.2.2
theorem g_uL {a k : Nat} {v : Int64} (h : mm_Gd S) : mm_Gd (mm_uL S a k v) :=
  g_sm h h.1 (fun b h1 h2 => ⟨rfl, rfl, fun i => rfl, fun _ => rfl⟩) h.2.2.2.2.2.2.1 h.2.2.2.2.2.2.2
theorem w_uR {a k : Nat} {v : Option Nat} (ht : mm_tR a k = none) (h : mm_W S) : mm_W (mm_uR S a k v) := by
  refine ⟨h.1, h.2.1, fun c j b e => ?_⟩
  rw [hp_RuR, if_neg (fun q => by rw [q.1, q.2, ht] at e; cases e)]
  exact h.2.2 c j b e
theorem w_nw {k n : Nat} (h : mm_W S) : mm_W (mm_nw S k n) := by
  have h0 := h.1
  refine ⟨by rw [hn_n]; omega, fun a ha => ?_, fun c j b e => ?_⟩
  · have e : a ≠ mm_n S := by omega
    rw [hn_K, hn_N, if_neg e, if_neg e]; exact h.2.1 a ha
  · have e2 : c ≠ mm_n S := by have := (tr_lt e).1; omega
    rw [hn_R, if_neg e2]; exact h.2.2 c j b e
theorem g_uR {a k : Nat} {v : Option Nat} (ha : a < 92) (ht : mm_tR a k = none) (h : mm_Gd S) : mm_Gd (mm_uR S a k v) :=
  g_sm h (w_uR ht h.1) (fun b h1 h2 => ⟨rfl, rfl, fun i => rfl, fun i => by rw [hp_RuR, if_neg (fun e => by omega)]⟩) h.2.2.2.2.2.2.1 h.2.2.2.2.2.2.2
theorem w_cD {a b : Nat} (ha : mm_dy a) (h : mm_W S) : mm_W (mm_cD S a b) := by
  refine ⟨h.1, h.2.1, fun c j v e => ?_⟩
  have h1 : ¬ (c = a ∧ j = 8) := by
    rintro ⟨rfl, rfl⟩
    rcases ha with rfl | rfl | rfl | rfl <;> cases e
  have h2 : ¬ (c = a + 1 ∧ j < 6) := by
    rintro ⟨rfl, -⟩
    rcases ha with rfl | rfl | rfl | rfl <;> cases e
  show (if c = a ∧ j = 8 then _ else if c = a + 1 ∧ j < 6 then _ else mm_R S c j) = _
  rw [if_neg h1, if_neg h2]
  exact h.2.2 c j v e
theorem hc_M {a b c j : Nat} : mm_M (mm_cD S a b) c j = if c = a ∧ 9 ≤ j ∧ j ≤ 17 then mm_M S b j else if a + 2 ≤ c ∧ c ≤ a + 7 ∧ j < mm_N S c then mm_M S (b + (c - a)) j else mm_M S c j := id rfl
theorem hc_R {a b c j : Nat} : mm_R (mm_cD S a b) c j = if c = a ∧ j = 8 then mm_R S b 8 else if c = a + 1 ∧ j < 6 then mm_R S (b + 1) j else mm_R S c j := id rfl
theorem hc_n {a b : Nat} : mm_n (mm_cD S a b) = mm_n S := id rfl
theorem hc_z {a b : Nat} : mm_z (mm_cD S a b) = mm_z S := id rfl
theorem hc_K {a b : Nat} : mm_K (mm_cD S a b) = mm_K S := id rfl
theorem hc_N {a b : Nat} : mm_N (mm_cD S a b) = mm_N S := id rfl
theorem hc_o {a b c f : Nat} : mm_obj (mm_cD S a b) c f = mm_obj S c f := id rfl
theorem hc_a {a b c f : Nat} : mm_arr (mm_cD S a b) c f = mm_arr S c f := id rfl
theorem hc_k {a b c : Nat} : mm_rk (mm_cD S a b) c = mm_rk S c := id rfl
theorem g_nw {k n : Nat} (hb : mm_n S ≤ 150 ∧ mm_z S + n ≤ 5000 ∧ mm_Gd S) : mm_Gd (mm_nw S k n) :=
  have h := hb.2.2
  g_sm h (w_nw h.1) (fun b h1 h2 => sm_nw (by have := h.1.1; omega)) (by rw [hn_n]; omega) (by rw [hn_z]; omega)
theorem g_cD {a b : Nat} (ha : mm_dy a) (h : mm_Gd S) : mm_Gd (mm_cD S a b) :=
  have h0 : a ≤ 33 := by unfold mm_dy at ha; omega
  g_sm h (w_cD ha h.1) (fun c h1 h2 => ⟨rfl, rfl, fun i => by rw [hc_M, if_neg (fun e => by omega), if_neg (fun e => by omega)], fun i => by rw [hc_R, if_neg (fun e => by omega), if_neg (fun e => by omega)]⟩) h.2.2.2.2.2.2.1 h.2.2.2.2.2.2.2
theorem hp_cpS {a0 a sp dp n b j : Nat} (h : b ≠ a) : mm_M (mm_cpM S a0 a sp dp n) b j = mm_M S b j := by rw [hp_McpM, if_neg (fun e => h e.1)]
theorem g_cpM {a0 a sp dp n : Nat} (ha : a < 92) (h : mm_Gd S) : mm_Gd (mm_cpM S a0 a sp dp n) :=
  g_sm h h.1 (fun b h1 h2 => ⟨rfl, rfl, fun i => hp_cpS (by omega), fun _ => rfl⟩) h.2.2.2.2.2.2.1 h.2.2.2.2.2.2.2
theorem hW_uM {a k : Nat} {v : Int32} : mm_W (mm_uM S a k v) = mm_W S := id rfl
theorem hW_uL {a k : Nat} {v : Int64} : mm_W (mm_uL S a k v) = mm_W S := id rfl
theorem hW_cp {a0 a sp dp n : Nat} : mm_W (mm_cpM S a0 a sp dp n) = mm_W S := id rfl
theorem hW_cD {a b : Nat} (ha : mm_dy a) (h : mm_W S) : mm_W (mm_cD S a b) = True := eq_true (w_cD ha h)
theorem hW_uR {a k : Nat} {v : Option Nat} (ht : mm_tR a k = none) (h : mm_W S) : mm_W (mm_uR S a k v) = True := eq_true (w_uR ht h)
theorem hW_nw {k n : Nat} (h : mm_W S) : mm_W (mm_nw S k n) = True := eq_true (w_nw h)
theorem i_le (a b : Int32) : (a ≤ b) = ¬ (b < a) := propext (Int32.not_lt).symm
theorem i_m1 {b : Int32} (h : ¬ b < nI 0) : (nI 0 - nI 1 < b) = True := by
  refine eq_true ?_
  have e : (nI 0 - nI 1 : Int32) = -1 := by decide
  have h2 : ¬ b.toInt < 0 := by have h3 := h; rw [Int32.lt_iff_toInt_lt] at h3; exact h3
  rw [e, Int32.lt_iff_toInt_lt]
  have e2 : (-1 : Int32).toInt = -1 := by decide
  rw [e2]; omega
theorem ff_0_11 (h : mm_Tb S 0) : mm_M S 0 11 = nI 0 := h.2.2.1 (11, nI 0) (by decide)
theorem ff_0_12 (h : mm_Tb S 0) : mm_M S 0 12 = nI 0 := h.2.2.1 (12, nI 0) (by decide)
theorem ff_1_0 (h : mm_Tb S 1) : mm_M S 1 0 = nI 1 := h.2.2.1 (0, nI 1) (by decide)
theorem ff_1_1 (h : mm_Tb S 1) : mm_M S 1 1 = nI 1 := h.2.2.1 (1, nI 1) (by decide)
theorem ff_1_2 (h : mm_Tb S 1) : mm_M S 1 2 = nI 1 := h.2.2.1 (2, nI 1) (by decide)
theorem ff_1_3 (h : mm_Tb S 1) : mm_M S 1 3 = nI 0 := h.2.2.1 (3, nI 0) (by decide)
theorem ff_1_8 (h : mm_Tb S 1) : mm_M S 1 8 = nI 0 := h.2.2.1 (8, nI 0) (by decide)
theorem ff_1_9 (h : mm_Tb S 1) : mm_M S 1 9 = nI 0 := h.2.2.1 (9, nI 0) (by decide)
theorem ff_6_9 (h : mm_Tb S 6) : mm_M S 6 9 = nI 0 := h.2.2.1 (9, nI 0) (by decide)
theorem ff_6_10 (h : mm_Tb S 6) : mm_M S 6 10 = nI 0 := h.2.2.1 (10, nI 0) (by decide)
theorem ff_6_11 (h : mm_Tb S 6) : mm_M S 6 11 = nI 0 := h.2.2.1 (11, nI 0) (by decide)
theorem ff_6_12 (h : mm_Tb S 6) : mm_M S 6 12 = nI 1 := h.2.2.1 (12, nI 1) (by decide)
theorem ff_6_13 (h : mm_Tb S 6) : mm_M S 6 13 = nI 5 := h.2.2.1 (13, nI 5) (by decide)
theorem ff_6_14 (h : mm_Tb S 6) : mm_M S 6 14 = nI 0 := h.2.2.1 (14, nI 0) (by decide)
theorem ff_6_15 (h : mm_Tb S 6) : mm_M S 6 15 = nI 0 := h.2.2.1 (15, nI 0) (by decide)
theorem ff_6_16 (h : mm_Tb S 6) : mm_M S 6 16 = nI 0 := h.2.2.1 (16, nI 0) (by decide)
theorem ff_6_17 (h : mm_Tb S 6) : mm_M S 6 17 = nI 0 := h.2.2.1 (17, nI 0) (by decide)
theorem ff_6_18 (h : mm_Tb S 6) : mm_M S 6 18 = nI 0 := h.2.2.1 (18, nI 0) (by decide)
theorem ff_6_19 (h : mm_Tb S 6) : mm_M S 6 19 = nI 0 := h.2.2.1 (19, nI 0) (by decide)
theorem ff_15_9 (h : mm_Tb S 15) : mm_M S 15 9 = nI 0 := h.2.2.1 (9, nI 0) (by decide)
theorem ff_15_10 (h : mm_Tb S 15) : mm_M S 15 10 = nI 0 := h.2.2.1 (10, nI 0) (by decide)
theorem ff_15_11 (h : mm_Tb S 15) : mm_M S 15 11 = nI 0 := h.2.2.1 (11, nI 0) (by decide)
theorem ff_15_12 (h : mm_Tb S 15) : mm_M S 15 12 = nI 1 := h.2.2.1 (12, nI 1) (by decide)
theorem ff_15_13 (h : mm_Tb S 15) : mm_M S 15 13 = nI 5 := h.2.2.1 (13, nI 5) (by decide)
theorem ff_15_14 (h : mm_Tb S 15) : mm_M S 15 14 = nI 0 := h.2.2.1 (14, nI 0) (by decide)
theorem ff_15_15 (h : mm_Tb S 15) : mm_M S 15 15 = nI 0 := h.2.2.1 (15, nI 0) (by decide)
theorem ff_15_16 (h : mm_Tb S 15) : mm_M S 15 16 = nI 0 := h.2.2.1 (16, nI 0) (by decide)
theorem ff_15_17 (h : mm_Tb S 15) : mm_M S 15 17 = nI 0 := h.2.2.1 (17, nI 0) (by decide)
theorem ff_15_18 (h : mm_Tb S 15) : mm_M S 15 18 = nI 0 := h.2.2.1 (18, nI 0) (by decide)
theorem ff_15_19 (h : mm_Tb S 15) : mm_M S 15 19 = nI 0 := h.2.2.1 (19, nI 0) (by decide)
theorem ff_24_9 (h : mm_Tb S 24) : mm_M S 24 9 = nI 0 := h.2.2.1 (9, nI 0) (by decide)
theorem ff_24_10 (h : mm_Tb S 24) : mm_M S 24 10 = nI 0 := h.2.2.1 (10, nI 0) (by decide)
theorem ff_24_11 (h : mm_Tb S 24) : mm_M S 24 11 = nI 0 := h.2.2.1 (11, nI 0) (by decide)
theorem ff_24_12 (h : mm_Tb S 24) : mm_M S 24 12 = nI 1 := h.2.2.1 (12, nI 1) (by decide)
theorem ff_24_13 (h : mm_Tb S 24) : mm_M S 24 13 = nI 5 := h.2.2.1 (13, nI 5) (by decide)
theorem ff_24_14 (h : mm_Tb S 24) : mm_M S 24 14 = nI 0 := h.2.2.1 (14, nI 0) (by decide)
theorem ff_24_15 (h : mm_Tb S 24) : mm_M S 24 15 = nI 0 := h.2.2.1 (15, nI 0) (by decide)
theorem ff_24_16 (h : mm_Tb S 24) : mm_M S 24 16 = nI 0 := h.2.2.1 (16, nI 0) (by decide)
theorem ff_24_17 (h : mm_Tb S 24) : mm_M S 24 17 = nI 0 := h.2.2.1 (17, nI 0) (by decide)
theorem ff_24_18 (h : mm_Tb S 24) : mm_M S 24 18 = nI 0 := h.2.2.1 (18, nI 0) (by decide)
theorem ff_24_19 (h : mm_Tb S 24) : mm_M S 24 19 = nI 0 := h.2.2.1 (19, nI 0) (by decide)
theorem ff_33_9 (h : mm_Tb S 33) : mm_M S 33 9 = nI 0 := h.2.2.1 (9, nI 0) (by decide)
theorem ff_33_10 (h : mm_Tb S 33) : mm_M S 33 10 = nI 0 := h.2.2.1 (10, nI 0) (by decide)
theorem ff_33_11 (h : mm_Tb S 33) : mm_M S 33 11 = nI 0 := h.2.2.1 (11, nI 0) (by decide)
theorem ff_33_12 (h : mm_Tb S 33) : mm_M S 33 12 = nI 1 := h.2.2.1 (12, nI 1) (by decide)
theorem ff_33_13 (h : mm_Tb S 33) : mm_M S 33 13 = nI 5 := h.2.2.1 (13, nI 5) (by decide)
theorem ff_33_14 (h : mm_Tb S 33) : mm_M S 33 14 = nI 0 := h.2.2.1 (14, nI 0) (by decide)
theorem ff_33_15 (h : mm_Tb S 33) : mm_M S 33 15 = nI 0 := h.2.2.1 (15, nI 0) (by decide)
theorem ff_33_16 (h : mm_Tb S 33) : mm_M S 33 16 = nI 0 := h.2.2.1 (16, nI 0) (by decide)
theorem ff_33_17 (h : mm_Tb S 33) : mm_M S 33 17 = nI 0 := h.2.2.1 (17, nI 0) (by decide)
theorem ff_33_18 (h : mm_Tb S 33) : mm_M S 33 18 = nI 0 := h.2.2.1 (18, nI 0) (by decide)
theorem ff_33_19 (h : mm_Tb S 33) : mm_M S 33 19 = nI 0 := h.2.2.1 (19, nI 0) (by decide)
theorem ff_73_0 (h : mm_Tb S 73) : mm_M S 73 0 = nI 0 := h.2.2.1 (0, nI 0) (by decide)
theorem ff_73_2 (h : mm_Tb S 73) : mm_M S 73 2 = nI 0 := h.2.2.1 (2, nI 0) (by decide)
theorem ff_76_1 (h : mm_Tb S 76) : mm_M S 76 1 = -1 := h.2.2.1 (1, -1) (by decide)
theorem ff_76_2 (h : mm_Tb S 76) : mm_M S 76 2 = nI 0 := h.2.2.1 (2, nI 0) (by decide)
theorem ff_78_1 (h : mm_Tb S 78) : mm_M S 78 1 = -1 := h.2.2.1 (1, -1) (by decide)
theorem ff_78_2 (h : mm_Tb S 78) : mm_M S 78 2 = nI 0 := h.2.2.1 (2, nI 0) (by decide)
theorem ff_80_1 (h : mm_Tb S 80) : mm_M S 80 1 = -1 := h.2.2.1 (1, -1) (by decide)
theorem ff_80_2 (h : mm_Tb S 80) : mm_M S 80 2 = nI 0 := h.2.2.1 (2, nI 0) (by decide)
theorem ff_82_1 (h : mm_Tb S 82) : mm_M S 82 1 = -1 := h.2.2.1 (1, -1) (by decide)
theorem ff_82_2 (h : mm_Tb S 82) : mm_M S 82 2 = nI 0 := h.2.2.1 (2, nI 0) (by decide)
theorem ff_84_1 (h : mm_Tb S 84) : mm_M S 84 1 = -1 := h.2.2.1 (1, -1) (by decide)
theorem ff_84_2 (h : mm_Tb S 84) : mm_M S 84 2 = nI 0 := h.2.2.1 (2, nI 0) (by decide)
theorem ff_86_1 (h : mm_Tb S 86) : mm_M S 86 1 = -1 := h.2.2.1 (1, -1) (by decide)
theorem ff_86_2 (h : mm_Tb S 86) : mm_M S 86 2 = nI 0 := h.2.2.1 (2, nI 0) (by decide)
theorem ff_92_0 (h : mm_Tb S 92) : mm_M S 92 0 = nI 0 := h.2.2.1 (0, nI 0) (by decide)
theorem ff_92_8 (h : mm_Tb S 92) : mm_M S 92 8 = nI 0 := h.2.2.1 (8, nI 0) (by decide)
theorem ff_92_10 (h : mm_Tb S 92) : mm_M S 92 10 = nI 1 := h.2.2.1 (10, nI 1) (by decide)
theorem ff_92_11 (h : mm_Tb S 92) : mm_M S 92 11 = nI 5 := h.2.2.1 (11, nI 5) (by decide)
theorem ff_92_12 (h : mm_Tb S 92) : mm_M S 92 12 = nI 0 := h.2.2.1 (12, nI 0) (by decide)
theorem ff_92_13 (h : mm_Tb S 92) : mm_M S 92 13 = nI 0 := h.2.2.1 (13, nI 0) (by decide)
theorem ff_92_14 (h : mm_Tb S 92) : mm_M S 92 14 = nI 0 := h.2.2.1 (14, nI 0) (by decide)
theorem ff_92_15 (h : mm_Tb S 92) : mm_M S 92 15 = nI 0 := h.2.2.1 (15, nI 0) (by decide)
theorem ff_92_17 (h : mm_Tb S 92) : mm_M S 92 17 = nI 0 := h.2.2.1 (17, nI 0) (by decide)
theorem ff_92_18 (h : mm_Tb S 92) : mm_M S 92 18 = -1 := h.2.2.1 (18, -1) (by decide)
theorem ff_92_26 (h : mm_Tb S 92) : mm_M S 92 26 = nI 0 := h.2.2.1 (26, nI 0) (by decide)
theorem ff_92_27 (h : mm_Tb S 92) : mm_M S 92 27 = -1 := h.2.2.1 (27, -1) (by decide)
theorem ff_92_28 (h : mm_Tb S 92) : mm_M S 92 28 = nI 0 := h.2.2.1 (28, nI 0) (by decide)
theorem ff_92_36 (h : mm_Tb S 92) : mm_M S 92 36 = nI 0 := h.2.2.1 (36, nI 0) (by decide)
theorem ff_92_37 (h : mm_Tb S 92) : mm_M S 92 37 = nI 0 := h.2.2.1 (37, nI 0) (by decide)
theorem ff_92_39 (h : mm_Tb S 92) : mm_M S 92 39 = nI 0 := h.2.2.1 (39, nI 0) (by decide)
theorem ff_92_40 (h : mm_Tb S 92) : mm_M S 92 40 = nI 0 := h.2.2.1 (40, nI 0) (by decide)
theorem ff_92_42 (h : mm_Tb S 92) : mm_M S 92 42 = nI 0 := h.2.2.1 (42, nI 0) (by decide)
theorem ff_92_43 (h : mm_Tb S 92) : mm_M S 92 43 = nI 0 := h.2.2.1 (43, nI 0) (by decide)
theorem ff_92_47 (h : mm_Tb S 92) : mm_M S 92 47 = nI 0 := h.2.2.1 (47, nI 0) (by decide)
theorem ff_92_48 (h : mm_Tb S 92) : mm_M S 92 48 = nI 0 := h.2.2.1 (48, nI 0) (by decide)
theorem ff_92_49 (h : mm_Tb S 92) : mm_M S 92 49 = nI 0 := h.2.2.1 (49, nI 0) (by decide)
theorem ff_92_50 (h : mm_Tb S 92) : mm_M S 92 50 = nI 0 := h.2.2.1 (50, nI 0) (by decide)
theorem ff_92_51 (h : mm_Tb S 92) : mm_M S 92 51 = nI 0 := h.2.2.1 (51, nI 0) (by decide)
theorem ff_92_54 (h : mm_Tb S 92) : mm_M S 92 54 = nI 0 := h.2.2.1 (54, nI 0) (by decide)
theorem ff_92_59 (h : mm_Tb S 92) : mm_M S 92 59 = nI 0 := h.2.2.1 (59, nI 0) (by decide)
theorem ff_92_60 (h : mm_Tb S 92) : mm_M S 92 60 = nI 0 := h.2.2.1 (60, nI 0) (by decide)
theorem ff_92_61 (h : mm_Tb S 92) : mm_M S 92 61 = nI 0 := h.2.2.1 (61, nI 0) (by decide)
theorem ff_92_62 (h : mm_Tb S 92) : mm_M S 92 62 = nI 0 := h.2.2.1 (62, nI 0) (by decide)
theorem ff_92_63 (h : mm_Tb S 92) : mm_M S 92 63 = nI 0 := h.2.2.1 (63, nI 0) (by decide)
theorem ff_92_74 (h : mm_Tb S 92) : mm_M S 92 74 = nI 0 := h.2.2.1 (74, nI 0) (by decide)
theorem ff_88_0 (h : mm_Tb S 88) : mm_M S 88 0 = nI 0 := h.2.2.1 (0, nI 0) (by decide)
theorem ff_113_0 (h : mm_Tb S 113) : mm_M S 113 0 = nI 109 := h.2.2.1 (0, nI 109) (by decide)
theorem ff_113_1 (h : mm_Tb S 113) : mm_M S 113 1 = nI 111 := h.2.2.1 (1, nI 111) (by decide)
theorem ff_113_2 (h : mm_Tb S 113) : mm_M S 113 2 = nI 114 := h.2.2.1 (2, nI 114) (by decide)
theorem ff_113_3 (h : mm_Tb S 113) : mm_M S 113 3 = nI 101 := h.2.2.1 (3, nI 101) (by decide)
theorem ff_113_4 (h : mm_Tb S 113) : mm_M S 113 4 = nI 99 := h.2.2.1 (4, nI 99) (by decide)
theorem ff_113_5 (h : mm_Tb S 113) : mm_M S 113 5 = nI 111 := h.2.2.1 (5, nI 111) (by decide)
theorem ff_113_6 (h : mm_Tb S 113) : mm_M S 113 6 = nI 115 := h.2.2.1 (6, nI 115) (by decide)
theorem ff_113_7 (h : mm_Tb S 113) : mm_M S 113 7 = nI 116 := h.2.2.1 (7, nI 116) (by decide)
theorem ff_113_8 (h : mm_Tb S 113) : mm_M S 113 8 = nI 117 := h.2.2.1 (8, nI 117) (by decide)
theorem ff_113_9 (h : mm_Tb S 113) : mm_M S 113 9 = nI 112 := h.2.2.1 (9, nI 112) (by decide)
theorem ff_113_10 (h : mm_Tb S 113) : mm_M S 113 10 = nI 32 := h.2.2.1 (10, nI 32) (by decide)
theorem ff_113_11 (h : mm_Tb S 113) : mm_M S 113 11 = nI 32 := h.2.2.1 (11, nI 32) (by decide)
theorem ff_113_12 (h : mm_Tb S 113) : mm_M S 113 12 = nI 100 := h.2.2.1 (12, nI 100) (by decide)
theorem ff_113_13 (h : mm_Tb S 113) : mm_M S 113 13 = nI 111 := h.2.2.1 (13, nI 111) (by decide)
theorem ff_113_14 (h : mm_Tb S 113) : mm_M S 113 14 = nI 119 := h.2.2.1 (14, nI 119) (by decide)
theorem ff_113_15 (h : mm_Tb S 113) : mm_M S 113 15 = nI 110 := h.2.2.1 (15, nI 110) (by decide)
theorem ff_113_16 (h : mm_Tb S 113) : mm_M S 113 16 = nI 97 := h.2.2.1 (16, nI 97) (by decide)
theorem ff_113_17 (h : mm_Tb S 113) : mm_M S 113 17 = nI 119 := h.2.2.1 (17, nI 119) (by decide)
theorem ff_113_18 (h : mm_Tb S 113) : mm_M S 113 18 = nI 97 := h.2.2.1 (18, nI 97) (by decide)
theorem ff_113_19 (h : mm_Tb S 113) : mm_M S 113 19 = nI 121 := h.2.2.1 (19, nI 121) (by decide)
theorem ff_113_20 (h : mm_Tb S 113) : mm_M S 113 20 = nI 102 := h.2.2.1 (20, nI 102) (by decide)
theorem ff_113_21 (h : mm_Tb S 113) : mm_M S 113 21 = nI 101 := h.2.2.1 (21, nI 101) (by decide)
theorem ff_113_22 (h : mm_Tb S 113) : mm_M S 113 22 = nI 101 := h.2.2.1 (22, nI 101) (by decide)
theorem ff_113_23 (h : mm_Tb S 113) : mm_M S 113 23 = nI 32 := h.2.2.1 (23, nI 32) (by decide)
theorem ff_110_0 (h : mm_Tb S 110) : mm_M S 110 0 = -1 := h.2.2.1 (0, -1) (by decide)
theorem ff_110_1 (h : mm_Tb S 110) : mm_M S 110 1 = -1 := h.2.2.1 (1, -1) (by decide)
theorem ff_110_2 (h : mm_Tb S 110) : mm_M S 110 2 = -1 := h.2.2.1 (2, -1) (by decide)
theorem ff_110_3 (h : mm_Tb S 110) : mm_M S 110 3 = -1 := h.2.2.1 (3, -1) (by decide)
theorem ff_110_4 (h : mm_Tb S 110) : mm_M S 110 4 = -1 := h.2.2.1 (4, -1) (by decide)
theorem ff_110_5 (h : mm_Tb S 110) : mm_M S 110 5 = -1 := h.2.2.1 (5, -1) (by decide)
theorem bq_F (h : mm_Fr S) : mm_bq S 6 := by
  refine ⟨fun i hi e he => ?_, 1, Or.inl rfl, (h.2.2.1 6 (by decide)).2.2.2 (8, some 1) (by decide)⟩
  have h0 := (h.2.2.1 7 (by decide)).2.2.2 (i, none) (by
    have : i = 0 ∨ i = 1 ∨ i = 2 ∨ i = 3 ∨ i = 4 ∨ i = 5 := by omega
    rcases this with rfl | rfl | rfl | rfl | rfl | rfl <;> decide)
  exact absurd (h0.symm.trans he) (by simp)
end FR
