/-! ===== the start: both relations, of the empty object ===== -/
def g0_P : ab_P := (0, fun _ => 0, fun _ => 0, fun _ => 0, fun _ => none, fun _ => 0, [], 0)
def g0_D : ab_D := ([], fun _ => 0, fun _ => 0, 1, 5, nI 0, nI 0)
def g0_X : gb_X := (g0_P, g0_D, 0, [], none)
def g0_G : gb_G := (g0_X, none, [], [], (fun _ => (-1, 0, fun _ => 0)), [])
section ST0
variable {S : mm_S}
theorem n0a {p : Nat → Prop} : ∀ b, b < 0 → p b := fun b h => absurd h (Nat.not_lt_zero b)
theorem g0_ok : gb_ok g0_G := by
  refine ⟨⟨⟨by decide, by decide, ⟨by decide, fun c hc => by cases hc⟩, n0a, fun b f h => absurd h (Nat.not_lt_zero b), n0a⟩, ⟨List.nodup_nil, (fun b hb => by cases hb), n0a, by decide, by decide⟩, by decide, by decide, (fun f hf => by cases hf), rfl, rfl⟩, (fun Y h => by cases h), by decide, (fun l hl => by cases hl), by decide, (fun c hc => by cases hc), (fun t ht => Or.inl ⟨rfl, rfl⟩), by decide, fun b hb => by cases hb⟩
theorem st_M (t : ∀ b, b < 137 → mm_Tb S b) (a j : Nat) (v : Int32) (ha : a < 137) (h : (j, v) ∈ mm_tQ a) : mm_M S a j = v := (t a ha).2.2.1 (j, v) h
theorem st_R (t : ∀ b, b < 137 → mm_Tb S b) (a j : Nat) (v : Option Nat) (ha : a < 137) (h : (j, v) ∈ mm_tP a) : mm_R S a j = v := (t a ha).2.2.2 (j, v) h
theorem g0_RC (t : ∀ b, b < 137 → mm_Tb S b) (hw : mm_W S) : RC S g0_G := by
  have m := fun a j v ha h => st_M t a j v ha h
  have r := fun a j v ha h => st_R t a j v ha h
  have c1 : cd_cs S 1 [] := ⟨m 1 0 (nI 1) (by decide) (by decide +kernel), m 1 1 (nI 1) (by decide) (by decide +kernel), m 1 2 (nI 1) (by decide) (by decide +kernel), m 1 3 (nI 0) (by decide) (by decide +kernel), 0, 0, by decide, by decide, m 1 8 (nI 0) (by decide) (by decide +kernel), m 1 9 (nI 0) (by decide) (by decide +kernel), rfl, rfl⟩
  have q : ∀ a, a = 7 ∨ a = 16 → ∀ i, i < 6 → ∀ e, mm_R S a i = some e → mm_obj S e 0 = true := by
    intro a ha i hi e he
    have h : mm_R S a i = none := by
      rcases ha with rfl | rfl <;> (rcases (by omega : i = 0 ∨ i = 1 ∨ i = 2 ∨ i = 3 ∨ i = 4 ∨ i = 5) with rfl | rfl | rfl | rfl | rfl | rfl <;> exact r _ _ none (by decide) (by decide +kernel))
    rw [h] at he; cases he
  refine ⟨hw, ⟨⟨m 6 10 (nI 0) (by decide) (by decide +kernel), m 6 9 (nI 0) (by decide) (by decide +kernel), n0a, n0a, n0a, 1, r 6 8 (some 1) (by decide) (by decide +kernel), Or.inl rfl, c1⟩, ⟨m 6 11 (nI 0) (by decide) (by decide +kernel), n0a, n0a, n0a, m 6 12 (nI 1) (by decide) (by decide +kernel), m 6 13 (nI 5) (by decide) (by decide +kernel), m 6 14 (nI 0) (by decide) (by decide +kernel), m 6 15 (nI 0) (by decide) (by decide +kernel)⟩, m 6 16 (nI 0) (by decide) (by decide +kernel), m 6 17 (nI 0) (by decide) (by decide +kernel), n0a, r 6 8 (some 1) (by decide) (by decide +kernel)⟩,
    ⟨q 7 (Or.inl rfl), 1, Or.inl rfl, r 6 8 (some 1) (by decide) (by decide +kernel)⟩, ⟨q 16 (Or.inr rfl), 1, Or.inl rfl, r 15 8 (some 1) (by decide) (by decide +kernel)⟩, m 0 12 (nI 0) (by decide) (by decide +kernel), ⟨m 0 11 (nI 0) (by decide) (by decide +kernel), n0a, c1⟩, ⟨m 73 0 (nI 0) (by decide) (by decide +kernel), n0a⟩, ?_, ⟨m 88 0 (nI 0) (by decide) (by decide +kernel), n0a⟩⟩
  intro u hu
  rcases (by omega : u = 0 ∨ u = 1 ∨ u = 2 ∨ u = 3 ∨ u = 4 ∨ u = 5) with rfl | rfl | rfl | rfl | rfl | rfl <;> exact ⟨m _ 1 (-1) (by decide) (by decide +kernel), m _ 2 (nI 0) (by decide) (by decide +kernel), n0a⟩
theorem g0_RM (t : ∀ b, b < 137 → mm_Tb S b) (hw : mm_W S) : RM S g0_G := by
  have m := fun a j v ha h => st_M t a j v ha h
  have z : ∀ j, j = 0 ∨ j = 8 ∨ j = 12 ∨ j = 13 ∨ j = 14 ∨ j = 15 ∨ j = 17 ∨ j = 26 ∨ j = 28 ∨ j = 59 → mm_M S 92 j = nI 0 := by
    intro j hj
    rcases hj with rfl | rfl | rfl | rfl | rfl | rfl | rfl | rfl | rfl | rfl <;> exact m _ _ _ (by decide) (by decide +kernel)
  have y : ∀ j, j = 18 ∨ j = 27 → mm_M S 92 j = -1 := by
    intro j hj
    rcases hj with rfl | rfl <;> exact m _ _ _ (by decide) (by decide +kernel)
  refine ⟨hw, ⟨⟨z 0 (by decide), n0a, n0a, ⟨none, y 18 (by decide), rfl⟩, Or.inl ⟨y 27 (by decide), rfl⟩⟩, ⟨z 8 (by decide), n0a, n0a, n0a, m 92 10 (nI 1) (by decide) (by decide +kernel), m 92 11 (nI 5) (by decide) (by decide +kernel), z 12 (by decide), z 13 (by decide)⟩, z 14 (by decide), z 15 (by decide), n0a, y 18 (by decide), y 27 (by decide)⟩, z 59 (by decide), ⟨z 17 (by decide), n0a⟩, ⟨z 26 (by decide), n0a⟩, fun u hu => ⟨?_, fun h => absurd rfl h, n0a⟩, ⟨z 28 (by decide), n0a⟩, fun i hi => ?_, fun i hi => ?_, fun i hi => ?_⟩
  · rcases (by omega : u = 0 ∨ u = 1 ∨ u = 2 ∨ u = 3 ∨ u = 4 ∨ u = 5) with rfl | rfl | rfl | rfl | rfl | rfl <;> exact m _ _ _ (by decide) (by decide +kernel)
  · exact m 113 i _ (by decide) ((by decide +kernel : ∀ i, i < 24 → (i, nI (gm_w.getD i 0)) ∈ mm_tQ 113) i hi)
  · exact m 114 i _ (by decide) ((by decide +kernel : ∀ i, i < 6 → (i, nI (([4, 4, 2, 4, 4, 3] : List Nat).getD i 0)) ∈ mm_tQ 114) i hi)
  · exact m 115 i _ (by decide) ((by decide +kernel : ∀ i, i < 7 → (i, nI (([98, 107, 112, 108, 114, 97, 102] : List Nat).getD i 0)) ∈ mm_tQ 115) i hi)
end ST0
/-! ===== a round of the law: the class's call, then the reference's ===== -/
def LI (S : mm_S) (G : gb_G) (i L : Nat) : Prop := RC S G ∧ RM S G ∧ gb_ok G ∧ mm_n S ≤ 137 + i ∧ mm_z S ≤ 4358 + 4 * i ∧ mm_N S mm_SC = L
/-- what a call of the class leaves for the reference's -/
def LJ (S T : mm_S) : Prop := mm_W T ∧ mm_n T ≤ 600000 ∧ mm_N T mm_SC = mm_N S mm_SC ∧ mm_M T mm_SC = mm_M S mm_SC
section STP
variable {S : mm_S} {G G2 : gb_G} {i L y y2 : Nat} {as as2 : List Value} {v v2 : Value}
theorem li_n (hi : i ≤ 600) (h : LI S G i L) : mm_n S ≤ 600000 := by have := h.2.2.2.1; omega
theorem stp (hi : i ≤ 600) (hI : LI S G i L) (hc : oC S 29 y as v G2) (ok2 : gb_ok G2) (hm : ∀ T, RM T G → oM T 29 y2 as2 v2 G2) : ∃ T U, mm_cl 29 y as S = some (some v, T) ∧ mm_cl 29 y2 as2 T = some (some v2, U) ∧ LJ S T ∧ LI U G2 (i + 1) L := by
  obtain ⟨h1, h2, ok, h3, h4, h5⟩ := hI
  obtain ⟨T, c1, c2, c3, c4, c5⟩ := hc
  have tM : RM T G := RM_c ok c3 c2.1 h2
  obtain ⟨U, m1, m2, m3, m4, m5⟩ := hm T tM
  have uC : RC U G2 := RC_m ok2 m3 m2.1 c2
  have q1 := (cl_fr c1).2 mm_SC (by show mm_n T ≤ 3000000; omega)
  have q2 := (cl_fr m1).2 mm_SC (by show mm_n U ≤ 3000000; omega)
  exact ⟨T, U, c1, m1, ⟨c2.1, by omega, q1.2.1, funext q1.1⟩, uC, m2, ok2, by omega, by omega, (q2.2.1.trans q1.2.1).trans h5⟩
/-- the same, where class and reference may answer otherwise -/
theorem oC_1 (ok : gb_ok G) (hR : RC S G) {x w : Int32} : oC S 29 74 [.ref 0, .int x, .int w] (.int (an_1 G x w)) G := by
  obtain ⟨T, h1, h2, h3, h4, h5⟩ := c_1 (d := 25) ok hR (x := x) (w := w)
  exact ⟨T, h1, h2, gF_0 h3, sz_s h4 h5⟩
theorem sc_a (h : mm_n S ≤ 600000) : mm_arr S mm_SC 13 = false := by
  rw [hn_a]
  have e : ¬ mm_SC < mm_n S := by show ¬ 3000000 < mm_n S; omega
  simp [e]
theorem sc_b (h : mm_n S ≤ 600000) : (decide (mm_SC < mm_n S) && decide (13 ≤ mm_K S mm_SC) && decide (mm_K S mm_SC < 19)) = false := by
  have e : ¬ mm_SC < mm_n S := by show ¬ 3000000 < mm_n S; omega
  simp [e]
theorem lg_rf {x : Int64} : lg_cmp x x = nI 0 := by
  unfold lg_cmp
  simp
  try rfl
theorem lg_eq {x y : Int64} (h : x = y) : lg_cmp x y = nI 0 := by rw [h]; exact lg_rf
end STP
