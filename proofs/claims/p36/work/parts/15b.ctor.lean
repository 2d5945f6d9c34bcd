/-! ===== the class's constructor ===== -/
section CU
variable {S : mm_S} {d k : Nat}
theorem up_uR {a j : Nat} {v : Option Nat} (h : mm_Up k S) (ha : a = 0 ∨ a = 42 ∨ a = 75 ∨ a = 92) : mm_Up k (mm_uR S a j v) := by
  refine ⟨h.1, fun b hb h0 h1 h2 h3 => ?_⟩
  have hne : b ≠ a := by omega
  exact mm_Tb_sm (S := S) ⟨rfl, rfl, fun _ => rfl, fun i => by rw [hp_RuR, if_neg (fun e => hne e.1)]⟩ (h.2 b hb h0 h1 h2 h3)
theorem up_uM {a j : Nat} {v : Int32} (h : mm_Up k S) (ha : a = 0 ∨ a = 42 ∨ a = 75 ∨ a = 92) : mm_Up k (mm_uM S a j v) := by
  refine ⟨h.1, fun b hb h0 h1 h2 h3 => ?_⟩
  have hne : b ≠ a := by omega
  exact mm_Tb_sm (S := S) ⟨rfl, rfl, fun i => by rw [hp_MuM, if_neg (fun e => hne e.1)], fun _ => rfl⟩ (h.2 b hb h0 h1 h2 h3)
theorem sm_nw {t n b : Nat} (hb : b < mm_n S) : mm_sm S (mm_nw S t n) b := by
  have e : b ≠ mm_n S := by omega
  exact ⟨by rw [hn_K, if_neg e], by rw [hn_N, if_neg e], fun j => by rw [hn_M, if_neg e], fun j => by rw [hn_R, if_neg e]⟩
theorem up_nw {t n : Nat} (h : mm_Up k S) (hk : (k = 0 ∨ k = 42 ∨ k = 75 ∨ k = 92) ∨ (mm_tK k = t ∧ mm_tN k = n ∧ (∀ q ∈ mm_tQ k, q.2 = 0) ∧ mm_tP k = [])) : mm_Up (k + 1) (mm_nw S t n) := by
  refine ⟨by rw [hn_n, h.1], fun b hb h0 h1 h2 h3 => ?_⟩
  by_cases e : b < k
  · exact mm_Tb_sm (sm_nw (by rw [h.1]; exact e)) (h.2 b e h0 h1 h2 h3)
  · have e2 : b = k := by omega
    subst e2
    rcases hk with hk | ⟨a1, a2, a3, a4⟩
    · omega
    · refine ⟨by rw [hn_K, h.1, if_pos rfl, a1], by rw [hn_N, h.1, if_pos rfl, a2], ?_, ?_⟩
      · intro q hq; rw [hn_M, h.1, if_pos rfl, a3 q hq]
      · rw [a4]; intro q hq; cases hq
def mm_C0 (a t n : Nat) (m : List (Nat × Int32)) (S : mm_S) (l : List (Nat × Option Nat)) : Prop := mm_K S a = t ∧ mm_N S a = n ∧ (∀ q ∈ m, mm_M S a q.1 = q.2) ∧ ∀ q ∈ l, mm_R S a q.1 = q.2
theorem c0_sm {S' : mm_S} {a t n : Nat} {m : List (Nat × Int32)} {l : List (Nat × Option Nat)} (h : mm_C0 a t n m S l) (g : mm_sm S S' a) : mm_C0 a t n m S' l := ⟨g.1.trans h.1, g.2.1.trans h.2.1, fun q hq => (g.2.2.1 _).trans (h.2.2.1 q hq), fun q hq => (g.2.2.2 _).trans (h.2.2.2 q hq)⟩
theorem c0_uR {a t n : Nat} {m : List (Nat × Int32)} {l : List (Nat × Option Nat)} {j : Nat} {v : Option Nat} (h : mm_C0 a t n m S l) (hj : ∀ q ∈ l, q.1 ≠ j) : mm_C0 a t n m (mm_uR S a j v) ((j, v) :: l) := by
  refine ⟨h.1, h.2.1, h.2.2.1, fun q hq => ?_⟩
  rcases List.mem_cons.mp hq with rfl | hq
  · rw [hp_RuR, if_pos ⟨rfl, rfl⟩]
  · rw [hp_RuR, if_neg (fun e => hj q hq e.2)]
    exact h.2.2.2 q hq
theorem c0_uRo {a t n : Nat} {m : List (Nat × Int32)} {l : List (Nat × Option Nat)} {b j : Nat} {v : Option Nat} (h : mm_C0 a t n m S l) (hj : a ≠ b) : mm_C0 a t n m (mm_uR S b j v) l :=
  c0_sm h ⟨rfl, rfl, fun _ => rfl, fun i => by rw [hp_RuR, if_neg (fun e => hj e.1)]⟩
theorem c0_nw {a t n : Nat} {m : List (Nat × Int32)} {l : List (Nat × Option Nat)} {t' n' : Nat} (h : mm_C0 a t n m S l) (ha : a < mm_n S) : mm_C0 a t n m (mm_nw S t' n') l := c0_sm h (sm_nw ha)
theorem c0_new {t n : Nat} {m : List (Nat × Int32)} (hm : ∀ q ∈ m, q.2 = 0) : mm_C0 (mm_n S) t n m (mm_nw S t n) [] :=
  ⟨by rw [hn_K, if_pos rfl], by rw [hn_N, if_pos rfl], fun q hq => by rw [hn_M, if_pos rfl, hm q hq], fun q hq => by cases hq⟩
theorem c0_o {a t n f : Nat} {m : List (Nat × Int32)} {l : List (Nat × Option Nat)} (h : mm_C0 a t n m S l) (ha : a < mm_n S) (ht : t < 13) (hf : mm_fam f t = true) : mm_obj S a f = true := by
  rw [hn_o, h.1, hf]
  simp [ha, ht]
theorem c0_q {a t n : Nat} {m : List (Nat × Int32)} {l : List (Nat × Option Nat)} (h : mm_C0 a t n m S l) (ha : a < mm_n S) (ht : t = 17 ∨ t = 18) : (mm_arr S a 16 || mm_arr S a 17 || mm_arr S a 18) = true := by
  rw [hn_a, hn_a, hn_a, h.1]
  rcases ht with rfl | rfl <;> simp [ha]
theorem up_t {k : Nat} (h : mm_Up k S) {b : Nat} (hb : b < k) (e : b ≠ 0 ∧ b ≠ 42 ∧ b ≠ 75 ∧ b ≠ 92) : mm_Tb S b := h.2 b hb e.1 e.2.1 e.2.2.1 e.2.2.2
theorem nw_ok {t n : Nat} (h : mm_n S < 1000000) : decide (mm_n S < 1000000) = true := by simp [h]
theorem nw_q {t n a : Nat} (ha : mm_n S = a) (ht : t < 13) : (decide (a < mm_n (mm_nw S t n)) && decide (mm_K (mm_nw S t n) a < 13)) = true := by
  rw [hn_n, hn_K, ha]
  simp [ht]
theorem ar_ok {p : Nat} (hp : p ≤ 1000) (h : mm_n S < 1000000) : (!decide (nI p < 0) && decide ((nI p).toNatClampNeg ≤ 1000) && decide (mm_n S < 1000000)) = true := by
  rw [nI_clamp (by omega)]
  have := nI_pos (n := p) (by omega)
  simp [hp, h, this]
end CU
theorem up_shop_1 {S : mm_S} {d : Nat} (U : mm_Up 1 S) : ∃ S', mm_cl (d + 2) 47 [.ref 1] (mm_nw S 6 (mm_NF 6)) = some (none, S') ∧ mm_Up 6 S' ∧ mm_z S' = mm_z S + 140 ∧ (∀ b, b < 1 ∨ 3000000 ≤ b → mm_sm S S' b) := by
  obtain ⟨S', r, n, z, f, g0, g1, g2, g3, g4⟩ := ct_shop_1 (d := d) U.1
  refine ⟨S', r, ⟨n, fun b hb h0 h1 h2 h3 => ?_⟩, z, f⟩
  by_cases e : b < 1
  · exact mm_Tb_sm (f b (Or.inl e)) (U.2 b e h0 h1 h2 h3)
  · have e2 : b = 1 ∨ b = 2 ∨ b = 3 ∨ b = 4 ∨ b = 5 := by omega
    rcases e2 with rfl | rfl | rfl | rfl | rfl
    · exact g0
    · exact g1
    · exact g2
    · exact g3
    · exact g4
theorem up_shop_43 {S : mm_S} {d : Nat} (U : mm_Up 43 S) : ∃ S', mm_cl (d + 2) 47 [.ref 43] (mm_nw S 6 (mm_NF 6)) = some (none, S') ∧ mm_Up 48 S' ∧ mm_z S' = mm_z S + 140 ∧ (∀ b, b < 43 ∨ 3000000 ≤ b → mm_sm S S' b) := by
  obtain ⟨S', r, n, z, f, g0, g1, g2, g3, g4⟩ := ct_shop_43 (d := d) U.1
  refine ⟨S', r, ⟨n, fun b hb h0 h1 h2 h3 => ?_⟩, z, f⟩
  by_cases e : b < 43
  · exact mm_Tb_sm (f b (Or.inl e)) (U.2 b e h0 h1 h2 h3)
  · have e2 : b = 43 ∨ b = 44 ∨ b = 45 ∨ b = 46 ∨ b = 47 := by omega
    rcases e2 with rfl | rfl | rfl | rfl | rfl
    · exact g0
    · exact g1
    · exact g2
    · exact g3
    · exact g4
theorem up_shop_48 {S : mm_S} {d : Nat} (U : mm_Up 48 S) : ∃ S', mm_cl (d + 2) 47 [.ref 48] (mm_nw S 6 (mm_NF 6)) = some (none, S') ∧ mm_Up 53 S' ∧ mm_z S' = mm_z S + 140 ∧ (∀ b, b < 48 ∨ 3000000 ≤ b → mm_sm S S' b) := by
  obtain ⟨S', r, n, z, f, g0, g1, g2, g3, g4⟩ := ct_shop_48 (d := d) U.1
  refine ⟨S', r, ⟨n, fun b hb h0 h1 h2 h3 => ?_⟩, z, f⟩
  by_cases e : b < 48
  · exact mm_Tb_sm (f b (Or.inl e)) (U.2 b e h0 h1 h2 h3)
  · have e2 : b = 48 ∨ b = 49 ∨ b = 50 ∨ b = 51 ∨ b = 52 := by omega
    rcases e2 with rfl | rfl | rfl | rfl | rfl
    · exact g0
    · exact g1
    · exact g2
    · exact g3
    · exact g4
theorem up_shop_53 {S : mm_S} {d : Nat} (U : mm_Up 53 S) : ∃ S', mm_cl (d + 2) 47 [.ref 53] (mm_nw S 6 (mm_NF 6)) = some (none, S') ∧ mm_Up 58 S' ∧ mm_z S' = mm_z S + 140 ∧ (∀ b, b < 53 ∨ 3000000 ≤ b → mm_sm S S' b) := by
  obtain ⟨S', r, n, z, f, g0, g1, g2, g3, g4⟩ := ct_shop_53 (d := d) U.1
  refine ⟨S', r, ⟨n, fun b hb h0 h1 h2 h3 => ?_⟩, z, f⟩
  by_cases e : b < 53
  · exact mm_Tb_sm (f b (Or.inl e)) (U.2 b e h0 h1 h2 h3)
  · have e2 : b = 53 ∨ b = 54 ∨ b = 55 ∨ b = 56 ∨ b = 57 := by omega
    rcases e2 with rfl | rfl | rfl | rfl | rfl
    · exact g0
    · exact g1
    · exact g2
    · exact g3
    · exact g4
theorem up_shop_58 {S : mm_S} {d : Nat} (U : mm_Up 58 S) : ∃ S', mm_cl (d + 2) 47 [.ref 58] (mm_nw S 6 (mm_NF 6)) = some (none, S') ∧ mm_Up 63 S' ∧ mm_z S' = mm_z S + 140 ∧ (∀ b, b < 58 ∨ 3000000 ≤ b → mm_sm S S' b) := by
  obtain ⟨S', r, n, z, f, g0, g1, g2, g3, g4⟩ := ct_shop_58 (d := d) U.1
  refine ⟨S', r, ⟨n, fun b hb h0 h1 h2 h3 => ?_⟩, z, f⟩
  by_cases e : b < 58
  · exact mm_Tb_sm (f b (Or.inl e)) (U.2 b e h0 h1 h2 h3)
  · have e2 : b = 58 ∨ b = 59 ∨ b = 60 ∨ b = 61 ∨ b = 62 := by omega
    rcases e2 with rfl | rfl | rfl | rfl | rfl
    · exact g0
    · exact g1
    · exact g2
    · exact g3
    · exact g4
theorem up_shop_63 {S : mm_S} {d : Nat} (U : mm_Up 63 S) : ∃ S', mm_cl (d + 2) 47 [.ref 63] (mm_nw S 6 (mm_NF 6)) = some (none, S') ∧ mm_Up 68 S' ∧ mm_z S' = mm_z S + 140 ∧ (∀ b, b < 63 ∨ 3000000 ≤ b → mm_sm S S' b) := by
  obtain ⟨S', r, n, z, f, g0, g1, g2, g3, g4⟩ := ct_shop_63 (d := d) U.1
  refine ⟨S', r, ⟨n, fun b hb h0 h1 h2 h3 => ?_⟩, z, f⟩
  by_cases e : b < 63
  · exact mm_Tb_sm (f b (Or.inl e)) (U.2 b e h0 h1 h2 h3)
  · have e2 : b = 63 ∨ b = 64 ∨ b = 65 ∨ b = 66 ∨ b = 67 := by omega
    rcases e2 with rfl | rfl | rfl | rfl | rfl
    · exact g0
    · exact g1
    · exact g2
    · exact g3
    · exact g4
theorem up_shop_68 {S : mm_S} {d : Nat} (U : mm_Up 68 S) : ∃ S', mm_cl (d + 2) 47 [.ref 68] (mm_nw S 6 (mm_NF 6)) = some (none, S') ∧ mm_Up 73 S' ∧ mm_z S' = mm_z S + 140 ∧ (∀ b, b < 68 ∨ 3000000 ≤ b → mm_sm S S' b) := by
  obtain ⟨S', r, n, z, f, g0, g1, g2, g3, g4⟩ := ct_shop_68 (d := d) U.1
  refine ⟨S', r, ⟨n, fun b hb h0 h1 h2 h3 => ?_⟩, z, f⟩
  by_cases e : b < 68
  · exact mm_Tb_sm (f b (Or.inl e)) (U.2 b e h0 h1 h2 h3)
  · have e2 : b = 68 ∨ b = 69 ∨ b = 70 ∨ b = 71 ∨ b = 72 := by omega
    rcases e2 with rfl | rfl | rfl | rfl | rfl
    · exact g0
    · exact g1
    · exact g2
    · exact g3
    · exact g4
theorem up_day_6 {S : mm_S} {d : Nat} (U : mm_Up 6 S) : ∃ S', mm_cl (d + 1) 6 [.ref 6, .ref 1] (mm_nw S 1 (mm_NF 1)) = some (none, S') ∧ mm_Up 15 S' ∧ mm_z S' = mm_z S + 87 ∧ (∀ b, b < 6 ∨ 3000000 ≤ b → mm_sm S S' b) := by
  obtain ⟨S', r, n, z, f, g0, g1, g2, g3, g4, g5, g6, g7, g8⟩ := ct_day_6 (d := d) U.1 (up_t U (b := 1) (by decide) (by decide)).1 ((up_t U (b := 1) (by decide) (by decide)).2.2.1 (3, nI 0) (by decide))
  refine ⟨S', r, ⟨n, fun b hb h0 h1 h2 h3 => ?_⟩, z, f⟩
  by_cases e : b < 6
  · exact mm_Tb_sm (f b (Or.inl e)) (U.2 b e h0 h1 h2 h3)
  · have e2 : b = 6 ∨ b = 7 ∨ b = 8 ∨ b = 9 ∨ b = 10 ∨ b = 11 ∨ b = 12 ∨ b = 13 ∨ b = 14 := by omega
    rcases e2 with rfl | rfl | rfl | rfl | rfl | rfl | rfl | rfl | rfl
    · exact g0
    · exact g1
    · exact g2
    · exact g3
    · exact g4
    · exact g5
    · exact g6
    · exact g7
    · exact g8
theorem up_day_15 {S : mm_S} {d : Nat} (U : mm_Up 15 S) : ∃ S', mm_cl (d + 1) 6 [.ref 15, .ref 1] (mm_nw S 1 (mm_NF 1)) = some (none, S') ∧ mm_Up 24 S' ∧ mm_z S' = mm_z S + 87 ∧ (∀ b, b < 15 ∨ 3000000 ≤ b → mm_sm S S' b) := by
  obtain ⟨S', r, n, z, f, g0, g1, g2, g3, g4, g5, g6, g7, g8⟩ := ct_day_15 (d := d) U.1 (up_t U (b := 1) (by decide) (by decide)).1 ((up_t U (b := 1) (by decide) (by decide)).2.2.1 (3, nI 0) (by decide))
  refine ⟨S', r, ⟨n, fun b hb h0 h1 h2 h3 => ?_⟩, z, f⟩
  by_cases e : b < 15
  · exact mm_Tb_sm (f b (Or.inl e)) (U.2 b e h0 h1 h2 h3)
  · have e2 : b = 15 ∨ b = 16 ∨ b = 17 ∨ b = 18 ∨ b = 19 ∨ b = 20 ∨ b = 21 ∨ b = 22 ∨ b = 23 := by omega
    rcases e2 with rfl | rfl | rfl | rfl | rfl | rfl | rfl | rfl | rfl
    · exact g0
    · exact g1
    · exact g2
    · exact g3
    · exact g4
    · exact g5
    · exact g6
    · exact g7
    · exact g8
theorem up_day_24 {S : mm_S} {d : Nat} (U : mm_Up 24 S) : ∃ S', mm_cl (d + 1) 6 [.ref 24, .ref 1] (mm_nw S 1 (mm_NF 1)) = some (none, S') ∧ mm_Up 33 S' ∧ mm_z S' = mm_z S + 87 ∧ (∀ b, b < 24 ∨ 3000000 ≤ b → mm_sm S S' b) := by
  obtain ⟨S', r, n, z, f, g0, g1, g2, g3, g4, g5, g6, g7, g8⟩ := ct_day_24 (d := d) U.1 (up_t U (b := 1) (by decide) (by decide)).1 ((up_t U (b := 1) (by decide) (by decide)).2.2.1 (3, nI 0) (by decide))
  refine ⟨S', r, ⟨n, fun b hb h0 h1 h2 h3 => ?_⟩, z, f⟩
  by_cases e : b < 24
  · exact mm_Tb_sm (f b (Or.inl e)) (U.2 b e h0 h1 h2 h3)
  · have e2 : b = 24 ∨ b = 25 ∨ b = 26 ∨ b = 27 ∨ b = 28 ∨ b = 29 ∨ b = 30 ∨ b = 31 ∨ b = 32 := by omega
    rcases e2 with rfl | rfl | rfl | rfl | rfl | rfl | rfl | rfl | rfl
    · exact g0
    · exact g1
    · exact g2
    · exact g3
    · exact g4
    · exact g5
    · exact g6
    · exact g7
    · exact g8
theorem up_day_33 {S : mm_S} {d : Nat} (U : mm_Up 33 S) : ∃ S', mm_cl (d + 1) 6 [.ref 33, .ref 1] (mm_nw S 1 (mm_NF 1)) = some (none, S') ∧ mm_Up 42 S' ∧ mm_z S' = mm_z S + 87 ∧ (∀ b, b < 33 ∨ 3000000 ≤ b → mm_sm S S' b) := by
  obtain ⟨S', r, n, z, f, g0, g1, g2, g3, g4, g5, g6, g7, g8⟩ := ct_day_33 (d := d) U.1 (up_t U (b := 1) (by decide) (by decide)).1 ((up_t U (b := 1) (by decide) (by decide)).2.2.1 (3, nI 0) (by decide))
  refine ⟨S', r, ⟨n, fun b hb h0 h1 h2 h3 => ?_⟩, z, f⟩
  by_cases e : b < 33
  · exact mm_Tb_sm (f b (Or.inl e)) (U.2 b e h0 h1 h2 h3)
  · have e2 : b = 33 ∨ b = 34 ∨ b = 35 ∨ b = 36 ∨ b = 37 ∨ b = 38 ∨ b = 39 ∨ b = 40 ∨ b = 41 := by omega
    rcases e2 with rfl | rfl | rfl | rfl | rfl | rfl | rfl | rfl | rfl
    · exact g0
    · exact g1
    · exact g2
    · exact g3
    · exact g4
    · exact g5
    · exact g6
    · exact g7
    · exact g8
theorem up_reader_73 {S : mm_S} {d : Nat} (U : mm_Up 73 S) : ∃ S', mm_cl (d + 1) 34 [.ref 73] (mm_nw S 5 (mm_NF 5)) = some (none, S') ∧ mm_Up 75 S' ∧ mm_z S' = mm_z S + 104 ∧ (∀ b, b < 73 ∨ 3000000 ≤ b → mm_sm S S' b) := by
  obtain ⟨S', r, n, z, f, g0, g1⟩ := ct_reader_73 (d := d) U.1
  refine ⟨S', r, ⟨n, fun b hb h0 h1 h2 h3 => ?_⟩, z, f⟩
  by_cases e : b < 73
  · exact mm_Tb_sm (f b (Or.inl e)) (U.2 b e h0 h1 h2 h3)
  · have e2 : b = 73 ∨ b = 74 := by omega
    rcases e2 with rfl | rfl
    · exact g0
    · exact g1
theorem up_tape_76 {S : mm_S} {d : Nat} (U : mm_Up 76 S) : ∃ S', mm_cl (d + 1) 59 [.ref 76] (mm_nw S 8 (mm_NF 8)) = some (none, S') ∧ mm_Up 78 S' ∧ mm_z S' = mm_z S + 63 ∧ (∀ b, b < 76 ∨ 3000000 ≤ b → mm_sm S S' b) := by
  obtain ⟨S', r, n, z, f, g0, g1⟩ := ct_tape_76 (d := d) U.1
  refine ⟨S', r, ⟨n, fun b hb h0 h1 h2 h3 => ?_⟩, z, f⟩
  by_cases e : b < 76
  · exact mm_Tb_sm (f b (Or.inl e)) (U.2 b e h0 h1 h2 h3)
  · have e2 : b = 76 ∨ b = 77 := by omega
    rcases e2 with rfl | rfl
    · exact g0
    · exact g1
theorem up_tape_78 {S : mm_S} {d : Nat} (U : mm_Up 78 S) : ∃ S', mm_cl (d + 1) 59 [.ref 78] (mm_nw S 8 (mm_NF 8)) = some (none, S') ∧ mm_Up 80 S' ∧ mm_z S' = mm_z S + 63 ∧ (∀ b, b < 78 ∨ 3000000 ≤ b → mm_sm S S' b) := by
  obtain ⟨S', r, n, z, f, g0, g1⟩ := ct_tape_78 (d := d) U.1
  refine ⟨S', r, ⟨n, fun b hb h0 h1 h2 h3 => ?_⟩, z, f⟩
  by_cases e : b < 78
  · exact mm_Tb_sm (f b (Or.inl e)) (U.2 b e h0 h1 h2 h3)
  · have e2 : b = 78 ∨ b = 79 := by omega
    rcases e2 with rfl | rfl
    · exact g0
    · exact g1
theorem up_tape_80 {S : mm_S} {d : Nat} (U : mm_Up 80 S) : ∃ S', mm_cl (d + 1) 59 [.ref 80] (mm_nw S 8 (mm_NF 8)) = some (none, S') ∧ mm_Up 82 S' ∧ mm_z S' = mm_z S + 63 ∧ (∀ b, b < 80 ∨ 3000000 ≤ b → mm_sm S S' b) := by
  obtain ⟨S', r, n, z, f, g0, g1⟩ := ct_tape_80 (d := d) U.1
  refine ⟨S', r, ⟨n, fun b hb h0 h1 h2 h3 => ?_⟩, z, f⟩
  by_cases e : b < 80
  · exact mm_Tb_sm (f b (Or.inl e)) (U.2 b e h0 h1 h2 h3)
  · have e2 : b = 80 ∨ b = 81 := by omega
    rcases e2 with rfl | rfl
    · exact g0
    · exact g1
theorem up_tape_82 {S : mm_S} {d : Nat} (U : mm_Up 82 S) : ∃ S', mm_cl (d + 1) 59 [.ref 82] (mm_nw S 8 (mm_NF 8)) = some (none, S') ∧ mm_Up 84 S' ∧ mm_z S' = mm_z S + 63 ∧ (∀ b, b < 82 ∨ 3000000 ≤ b → mm_sm S S' b) := by
  obtain ⟨S', r, n, z, f, g0, g1⟩ := ct_tape_82 (d := d) U.1
  refine ⟨S', r, ⟨n, fun b hb h0 h1 h2 h3 => ?_⟩, z, f⟩
  by_cases e : b < 82
  · exact mm_Tb_sm (f b (Or.inl e)) (U.2 b e h0 h1 h2 h3)
  · have e2 : b = 82 ∨ b = 83 := by omega
    rcases e2 with rfl | rfl
    · exact g0
    · exact g1
theorem up_tape_84 {S : mm_S} {d : Nat} (U : mm_Up 84 S) : ∃ S', mm_cl (d + 1) 59 [.ref 84] (mm_nw S 8 (mm_NF 8)) = some (none, S') ∧ mm_Up 86 S' ∧ mm_z S' = mm_z S + 63 ∧ (∀ b, b < 84 ∨ 3000000 ≤ b → mm_sm S S' b) := by
  obtain ⟨S', r, n, z, f, g0, g1⟩ := ct_tape_84 (d := d) U.1
  refine ⟨S', r, ⟨n, fun b hb h0 h1 h2 h3 => ?_⟩, z, f⟩
  by_cases e : b < 84
  · exact mm_Tb_sm (f b (Or.inl e)) (U.2 b e h0 h1 h2 h3)
  · have e2 : b = 84 ∨ b = 85 := by omega
    rcases e2 with rfl | rfl
    · exact g0
    · exact g1
theorem up_tape_86 {S : mm_S} {d : Nat} (U : mm_Up 86 S) : ∃ S', mm_cl (d + 1) 59 [.ref 86] (mm_nw S 8 (mm_NF 8)) = some (none, S') ∧ mm_Up 88 S' ∧ mm_z S' = mm_z S + 63 ∧ (∀ b, b < 86 ∨ 3000000 ≤ b → mm_sm S S' b) := by
  obtain ⟨S', r, n, z, f, g0, g1⟩ := ct_tape_86 (d := d) U.1
  refine ⟨S', r, ⟨n, fun b hb h0 h1 h2 h3 => ?_⟩, z, f⟩
  by_cases e : b < 86
  · exact mm_Tb_sm (f b (Or.inl e)) (U.2 b e h0 h1 h2 h3)
  · have e2 : b = 86 ∨ b = 87 := by omega
    rcases e2 with rfl | rfl
    · exact g0
    · exact g1
theorem c0_uM {S : mm_S} {a t n : Nat} {m : List (Nat × Int32)} {l : List (Nat × Option Nat)} {j : Nat} {v : Int32} (h : mm_C0 a t n m S l) : mm_C0 a t n ((j, v) :: m.filter (fun q => q.1 != j)) (mm_uM S a j v) l := by
  refine ⟨h.1, h.2.1, fun q hq => ?_, h.2.2.2⟩
  rcases List.mem_cons.mp hq with rfl | hq
  · rw [hp_MuM, if_pos ⟨rfl, rfl⟩]
  · obtain ⟨h1, h2⟩ := List.mem_filter.mp hq
    rw [hp_MuM, if_neg (fun e => by simp [e.2] at h2)]
    exact h.2.2.1 q h1
theorem c0_uMo {S : mm_S} {a t n : Nat} {m : List (Nat × Int32)} {l : List (Nat × Option Nat)} {b j : Nat} {v : Int32} (h : mm_C0 a t n m S l) (hj : a ≠ b) : mm_C0 a t n m (mm_uM S b j v) l :=
  c0_sm h ⟨rfl, rfl, fun i => by rw [hp_MuM, if_neg (fun e => hj e.1)], fun _ => rfl⟩
theorem c0_sub {S : mm_S} {a t n : Nat} {m m' : List (Nat × Int32)} {l : List (Nat × Option Nat)} (h : mm_C0 a t n m S l) (hj : ∀ q ∈ m', q ∈ m) : mm_C0 a t n m' S l := ⟨h.1, h.2.1, fun q hq => h.2.2.1 q (hj q hq), h.2.2.2⟩
