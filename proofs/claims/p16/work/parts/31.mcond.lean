/-! ===== E and sums in the reference ===== -/
def md_st (T : mm_S) : List Bool → Prop
  | [] => True
  | u :: st => mm_M T 117 st.length = (if u = true then nI 1 else nI 0) ∧ md_st T st
theorem nr_b0 : vp_nar .boolean (nI 0) = nI 0 := by decide
theorem nr_b1 : vp_nar .boolean (nI 1) = nI 1 := by decide
theorem b01 {u : Bool} : ((if u = true then nI 1 else nI 0) = nI 0) = (u = false) := by cases u <;> decide
section MC
variable {S T : mm_S} {b c j k n i d h e K : Nat} {P : ab_P} {D : ab_D} {x : Int32} {l : List ab_C} {st : List Bool} {u v : Bool}
theorem st_w : ∀ {st : List Bool}, st.length ≤ j → md_st T st → md_st (mm_uM T 117 j x) st := by
  intro st
  induction st with
  | nil => intro _ _; exact True.intro
  | cons u st ih =>
    intro hj h
    rw [List.length_cons] at hj
    exact ⟨by rw [uM_k (by omega)]; exact h.1, ih (by omega) h.2⟩
theorem st_push (h : md_st T st) : md_st (mm_uM T 117 st.length (if u = true then nI 1 else nI 0)) (u :: st) := ⟨uM_s, st_w (Nat.le_refl _) h⟩
theorem co_hd {t : ab_T} {c : List ab_T} {i : Nat} (hq : md_q S T) (h : md_co S (t :: c) i) : mm_M T 107 i = md_en t := (hq.2 _ _ (by decide)).trans h.1
theorem s154_t (hq : md_q S T) (hA : md_A S P D) (hb : b < ab_kn P) (hh : h < 6) (h18 : mm_M S 92 18 = nI h) (hst : md_st T st) (hl : st.length < 24) (hK : K < 70) {E : Nat} (hE : mm_M S 106 K = nI E) (hiE : i < E) (hE2 : E ≤ 100) {q r m : Nat} (hc : mm_M S 107 (120 * h + i) = md_en (.inl (q, r, m))) (hq7 : q < 7) (hr3 : r < 3) (hm : m < 100) (v5 v6 v7 : Value) : ∃ T' w5 w6 w7, mm_ex (d + 2) 154 10 [.ref 92, .int (nI K), .int (nI b), .int (nI st.length), .int (nI i), v5, v6, v7] [] T = mm_ex (d + 2) 154 10 [.ref 92, .int (nI K), .int (nI b), .int (nI (st.length + 1)), .int (nI (i + 1)), w5, w6, w7] [] T' ∧ md_q S T' ∧ md_st T' (ab_tst (ab_ms P D b q) r m :: st) := by
  have wT := mq_W hq hA.1
  have AT := mq_A hq hA
  have e18 : mm_M T 92 18 = nI h := (hq.2 _ _ (by decide)).trans h18
  have e106 : mm_M T 106 K = nI E := (hq.2 _ _ (by decide)).trans hE
  have e107 : mm_M T 107 (120 * h + i) = nI (1000 * (1 + 3 * q + r) + m) := (hq.2 _ _ (by decide)).trans hc
  have i106 : mm_inb (nI K) (mm_N T (mm_rg T 92 23)) = true := by rw [wf_g92_23 wT, wf_N106 wT]; exact hp_inb hK (by omega)
  have a106 : mm_arr T (mm_rg T 92 23) 13 = true := by rw [wf_g92_23 wT]; exact wf_a106 wT
  have ix : nI 120 * mm_M T 92 18 + nI i = nI (120 * h + i) := by rw [e18, nI_mul, nI_add]
  have i107 : mm_inb (nI 120 * mm_M T 92 18 + nI i) (mm_N T (mm_rg T 92 24)) = true := by rw [ix, wf_g92_24 wT, wf_N107 wT]; exact hp_inb (by omega) (by omega)
  have a107 : mm_arr T (mm_rg T 92 24) 13 = true := by rw [wf_g92_24 wT]; exact wf_a107 wT
  have a117 : mm_arr T (mm_rg T 92 41) 15 = true := by rw [wf_g92_41 wT]; exact wf_a117 wT
  have i117 : mm_inb (nI st.length) (mm_N T (mm_rg T 92 41)) = true := by rw [wf_g92_41 wT, wf_N117 wT]; exact hp_inb (by omega) (by omega)
  have x1 : nI (1000 * (1 + 3 * q + r) + m) / nI 1000 = nI (1 + 3 * q + r) := by rw [pk_div (by omega) (by decide) (by decide)]; congr 1; omega
  have x2 : nI (1 + 3 * q + r) - nI 1 = nI (3 * q + r) := by rw [pk_sub (by omega)]; congr 1; omega
  have x3 : nI (3 * q + r) / nI 3 = nI q := by rw [pk_div (by omega) (by decide) (by decide)]; congr 1; omega
  have x4 : nI (3 * q + r) - nI q * nI 3 = nI r := by rw [nI_mul, pk_sub (by omega)]; congr 1; omega
  have x5 : nI (1000 * (1 + 3 * q + r) + m) - nI (1 + 3 * q + r) * nI 1000 = nI m := by rw [nI_mul, pk_sub (by omega)]; congr 1; omega
  have vb : ab_ms P D b q < 2 ^ 20 := by
    have k1 := hA.2.2.2.1.2.2.2.1 b hb
    have k2 := hA.2.2.2.1.1
    have k3 := hA.2.2.2.2.2.2.2
    have k4 := hA.2.2.2.2.2.2.1 b hb
    have k5 := row_le hA.2.2.2.1 hA.2.2.2.2
    unfold ab_ms
    split
    · omega
    · split
      · omega
      · split
        · omega
        · split
          · omega
          · split
            · omega
            · split
              · omega
              · split <;> omega
  have fin : ∀ u : Bool, md_q S (mm_uM T 117 st.length (if u = true then nI 1 else nI 0)) ∧ md_st (mm_uM T 117 st.length (if u = true then nI 1 else nI 0)) (u :: st) := fun u => ⟨mq_w hq, st_push hst⟩
  have cl : (nI st.length).toNatClampNeg = st.length := nI_clamp (by omega)
  rw [b154_10 (wf_o92 wT) (wf_s92_23 wT) i106 a106, wf_g92_23 wT, nI_clamp (by omega), e106, if_neg (nI_ge hiE (by omega)), b154_21 (wf_o92 wT) (wf_s92_24 wT) i107 a107, ix, wf_g92_24 wT, nI_clamp (by omega), e107, if_neg (nI_nlt (by omega) (by omega)), b154_46 (wf_k92 wT), x1, x2, x3, s153 AT hb hq7, hp_bd, hp_ts, b154_61 (wf_o92 wT) (wf_s92_41 wT), x1, x2, x3, x4, wf_g92_41 wT]
  rw [wf_g92_41 wT] at a117 i117
  have w1 : ∀ v6 v7, mm_ex (d + 2) 154 10 [.ref 92, .int (nI K), .int (nI b), .int (nI st.length + nI 1), .int (nI i + nI 1), .int (nI (1000 * (1 + 3 * q + r) + m)), v6, v7] [] (mm_uM T 117 (nI st.length).toNatClampNeg (vp_nar .boolean (nI 1))) = mm_ex (d + 2) 154 10 [.ref 92, .int (nI K), .int (nI b), .int (nI (st.length + 1)), .int (nI (i + 1)), .int (nI (1000 * (1 + 3 * q + r) + m)), v6, v7] [] (mm_uM T 117 st.length (if true = true then nI 1 else nI 0)) := fun v6 v7 => by rw [nr_b1, cl, nI_add, nI_add, if_pos rfl]
  have w0 : ∀ v6 v7, mm_ex (d + 2) 154 10 [.ref 92, .int (nI K), .int (nI b), .int (nI st.length + nI 1), .int (nI i + nI 1), .int (nI (1000 * (1 + 3 * q + r) + m)), v6, v7] [] (mm_uM T 117 (nI st.length).toNatClampNeg (vp_nar .boolean (nI 0))) = mm_ex (d + 2) 154 10 [.ref 92, .int (nI K), .int (nI b), .int (nI (st.length + 1)), .int (nI (i + 1)), .int (nI (1000 * (1 + 3 * q + r) + m)), v6, v7] [] (mm_uM T 117 st.length (if false = true then nI 1 else nI 0)) := fun v6 v7 => by rw [nr_b0, cl, nI_add, nI_add, if_neg (by decide)]
  rcases (by omega : r = 0 ∨ r = 1 ∨ r = 2) with rfl | rfl | rfl
  · rw [ts_0, if_pos rfl, b154_85, x1, x5]
    by_cases g : ab_ms P D b q < m
    · rw [if_neg (nI_ge g (by omega)), b154_96 a117 i117, w1, decide_eq_true g]
      exact ⟨_, _, _, _, rfl, fin true⟩
    · rw [if_pos (nI_le (Nat.le_of_not_lt g) (by omega)), b154_100 a117 i117, w0, decide_eq_false g]
      exact ⟨_, _, _, _, rfl, fin false⟩
  · rw [ts_1, if_neg (by decide), b154_104, if_pos rfl, b154_110, x1, x5]
    by_cases g : ab_ms P D b q = m
    · rw [if_pos (by rw [g]), b154_121 a117 i117, w1, decide_eq_true g]
      exact ⟨_, _, _, _, rfl, fin true⟩
    · rw [if_neg (fun e => g ((nI_eq (by omega) (by omega)).mp e)), b154_125 a117 i117, w0, decide_eq_false g]
      exact ⟨_, _, _, _, rfl, fin false⟩
  · rw [ts_2, if_neg (by decide), b154_104, if_neg (by decide), b154_129, x1, x5]
    by_cases g : m < ab_ms P D b q
    · rw [if_neg (nI_ge g (by omega)), b154_140 a117 i117, w1, decide_eq_true g]
      exact ⟨_, _, _, _, rfl, fin true⟩
    · rw [if_pos (nI_le (Nat.le_of_not_lt g) (by omega)), b154_144 a117 i117, w0, decide_eq_false g]
      exact ⟨_, _, _, _, rfl, fin false⟩
/-- a step that joins -/
theorem s154_o (hq : md_q S T) (hA : md_A S P D) (hh : h < 6) (h18 : mm_M S 92 18 = nI h) (hst : md_st T st) (hl : st.length ≤ 24) (hK : K < 70) {E : Nat} (hE : mm_M S 106 K = nI E) (hiE : i < E) (hE2 : E ≤ 100) {o : Nat} (hc : mm_M S 107 (120 * h + i) = nI o) (ho : (o = 3 ∧ 1 ≤ st.length) ∨ ((o = 1 ∨ o = 2) ∧ 2 ≤ st.length)) (v5 v6 v7 : Value) : ∃ T' w5 w6 w7, mm_ex (d + 2) 154 10 [.ref 92, .int (nI K), .int (nI b), .int (nI st.length), .int (nI i), v5, v6, v7] [] T = mm_ex (d + 2) 154 10 [.ref 92, .int (nI K), .int (nI b), .int (nI (ab_step (ab_ms P D b) st (.inr o)).length), .int (nI (i + 1)), w5, w6, w7] [] T' ∧ md_q S T' ∧ md_st T' (ab_step (ab_ms P D b) st (.inr o)) := by
  have wT := mq_W hq hA.1
  have e18 : mm_M T 92 18 = nI h := (hq.2 _ _ (by decide)).trans h18
  have e106 : mm_M T 106 K = nI E := (hq.2 _ _ (by decide)).trans hE
  have e107 : mm_M T 107 (120 * h + i) = nI o := (hq.2 _ _ (by decide)).trans hc
  have i106 : mm_inb (nI K) (mm_N T (mm_rg T 92 23)) = true := by rw [wf_g92_23 wT, wf_N106 wT]; exact hp_inb hK (by omega)
  have a106 : mm_arr T (mm_rg T 92 23) 13 = true := by rw [wf_g92_23 wT]; exact wf_a106 wT
  have ix : nI 120 * mm_M T 92 18 + nI i = nI (120 * h + i) := by rw [e18, nI_mul, nI_add]
  have i107 : mm_inb (nI 120 * mm_M T 92 18 + nI i) (mm_N T (mm_rg T 92 24)) = true := by rw [ix, wf_g92_24 wT, wf_N107 wT]; exact hp_inb (by omega) (by omega)
  have a107 : mm_arr T (mm_rg T 92 24) 13 = true := by rw [wf_g92_24 wT]; exact wf_a107 wT
  have a117 : mm_arr T 117 15 = true := wf_a117 wT
  have g41 := wf_g92_41 wT
  have a117' : mm_arr T (mm_rg T 92 41) 15 = true := by rw [g41]; exact a117
  have i117 : ∀ k, k < 110 → mm_inb (nI k) (mm_N T 117) = true := fun k hk => by rw [wf_N117 wT]; exact hp_inb hk (by omega)
  have i117' : ∀ k, k < 110 → mm_inb (nI k) (mm_N T (mm_rg T 92 41)) = true := fun k hk => by rw [g41]; exact i117 k hk
  rw [b154_10 (wf_o92 wT) (wf_s92_23 wT) i106 a106, wf_g92_23 wT, nI_clamp (by omega), e106, if_neg (nI_ge hiE (by omega)), b154_21 (wf_o92 wT) (wf_s92_24 wT) i107 a107, ix, wf_g92_24 wT, nI_clamp (by omega), e107, if_pos (nI_lt (by omega) (by omega)), b154_152]
  rcases ho with ⟨rfl, h1⟩ | ⟨ho, h2⟩
  · cases st with
    | nil => exact absurd h1 (by decide)
    | cons u st =>
      rw [List.length_cons] at hl
      have m1 : nI (u :: st).length - nI 1 = nI st.length := by rw [List.length_cons, pk_sub (by omega)]; congr 1
      have cl : (nI st.length).toNatClampNeg = st.length := nI_clamp (by omega)
      rw [if_pos rfl, b154_158 (wf_o92 wT) (wf_s92_41 wT) (by rw [m1]; exact i117' _ (by omega)) a117', m1, g41, cl, hst.1]
      show ∃ T' w5 w6 w7, _ = mm_ex (d + 2) 154 10 [.ref 92, .int (nI K), .int (nI b), .int (nI ((!u) :: st).length), .int (nI (i + 1)), w5, w6, w7] [] T' ∧ md_q S T' ∧ md_st T' ((!u) :: st)
      cases u with
      | false =>
        rw [if_pos (by decide), b154_176 a117 (i117 _ (by omega)), nr_b1, cl, nI_add]
        exact ⟨_, _, _, _, rfl, mq_w hq, st_push (u := true) hst.2⟩
      | true =>
        rw [if_neg (by decide), b154_180 a117 (i117 _ (by omega)), nr_b0, cl, nI_add]
        exact ⟨_, _, _, _, rfl, mq_w hq, st_push (u := false) hst.2⟩
  · cases st with
    | nil => exact absurd h2 (by decide)
    | cons u st =>
      cases st with
      | nil => exact absurd h2 (by simp)
      | cons v st =>
        simp only [List.length_cons] at hl
        have m1 : nI (u :: v :: st).length + (-1) = nI (st.length + 1) := pk_m1 _
        have m2 : nI (st.length + 1) - nI 1 = nI st.length := by rw [pk_sub (by omega)]; congr 1
        have cl : (nI st.length).toNatClampNeg = st.length := nI_clamp (by omega)
        have cl1 : (nI (st.length + 1)).toNatClampNeg = st.length + 1 := nI_clamp (by omega)
        have hu : mm_M T 117 (st.length + 1) = (if u = true then nI 1 else nI 0) := hst.1
        have hv : mm_M T 117 st.length = (if v = true then nI 1 else nI 0) := hst.2.1
        have q3 : ¬ nI o = nI 3 := fun e => by have := (nI_eq (by omega) (by decide)).mp e; omega
        rw [if_neg q3, b154_185 (wf_o92 wT) (wf_s92_41 wT), m1, m2, g41]
        rcases ho with rfl | rfl
        · show ∃ T' w5 w6 w7, _ = mm_ex (d + 2) 154 10 [.ref 92, .int (nI K), .int (nI b), .int (nI ((v || u) :: st).length), .int (nI (i + 1)), w5, w6, w7] [] T' ∧ md_q S T' ∧ md_st T' ((v || u) :: st)
          rw [if_pos rfl, b154_201 (wf_o92 wT) (wf_s92_41 wT) (by rw [m2]; exact i117' _ (by omega)) a117', m2, g41, cl, hv]
          cases v with
          | true =>
            rw [if_neg (by decide), b154_221 a117 (i117 _ (by omega)), nr_b1, cl, nI_add]
            exact ⟨_, _, _, _, rfl, mq_w hq, st_push (u := true) hst.2.2⟩
          | false =>
            rw [if_pos (by decide), b154_212 (wf_o92 wT) (wf_s92_41 wT) (i117' _ (by omega)) a117', g41, cl1, hu]
            cases u with
            | true =>
              rw [if_neg (by decide), b154_221 a117 (i117 _ (by omega)), nr_b1, cl, nI_add]
              exact ⟨_, _, _, _, rfl, mq_w hq, st_push (u := true) hst.2.2⟩
            | false =>
              rw [if_pos (by decide), b154_225 a117 (i117 _ (by omega)), nr_b0, cl, nI_add]
              exact ⟨_, _, _, _, rfl, mq_w hq, st_push (u := false) hst.2.2⟩
        · show ∃ T' w5 w6 w7, _ = mm_ex (d + 2) 154 10 [.ref 92, .int (nI K), .int (nI b), .int (nI ((v && u) :: st).length), .int (nI (i + 1)), w5, w6, w7] [] T' ∧ md_q S T' ∧ md_st T' ((v && u) :: st)
          rw [if_neg (by decide), b154_229 (wf_o92 wT) (wf_s92_41 wT) (by rw [m2]; exact i117' _ (by omega)) a117', m2, g41, cl, hv]
          cases v with
          | false =>
            rw [if_pos (by decide), b154_253 a117 (i117 _ (by omega)), nr_b0, cl, nI_add]
            exact ⟨_, _, _, _, rfl, mq_w hq, st_push (u := false) hst.2.2⟩
          | true =>
            rw [if_neg (by decide), b154_240 (wf_o92 wT) (wf_s92_41 wT) (i117' _ (by omega)) a117', g41, cl1, hu]
            cases u with
            | true =>
              rw [if_neg (by decide), b154_249 a117 (i117 _ (by omega)), nr_b1, cl, nI_add]
              exact ⟨_, _, _, _, rfl, mq_w hq, st_push (u := true) hst.2.2⟩
            | false =>
              rw [if_pos (by decide), b154_253 a117 (i117 _ (by omega)), nr_b0, cl, nI_add]
              exact ⟨_, _, _, _, rfl, mq_w hq, st_push (u := false) hst.2.2⟩
theorem s154_loop (hA : md_A S P D) (hb : b < ab_kn P) (hh : h < 6) (h18 : mm_M S 92 18 = nI h) (hK : K < 70) {E : Nat} (hE : mm_M S 106 K = nI E) (hE2 : E ≤ 100) : ∀ (c : List ab_T) (i : Nat) (T : mm_S) (st : List Bool) (h' : Nat) (v5 v6 v7 : Value), md_q S T → md_co S c (120 * h + i) → ab_hei c st.length = some h' → md_st T st → st.length ≤ 24 → i + c.length = E → ∃ T' w5 w6 w7, mm_ex (d + 2) 154 10 [.ref 92, .int (nI K), .int (nI b), .int (nI st.length), .int (nI i), v5, v6, v7] [] T = mm_ex (d + 2) 154 10 [.ref 92, .int (nI K), .int (nI b), .int (nI h'), .int (nI E), w5, w6, w7] [] T' ∧ md_q S T' ∧ md_st T' (ab_rn (ab_ms P D b) c st) ∧ (ab_rn (ab_ms P D b) c st).length = h' := by
  intro c
  induction c with
  | nil =>
    intro i T st h' v5 v6 v7 hq _ hhe hst _ hi
    have e1 : i = E := by simpa using hi
    subst e1
    have e2 := Option.some.inj hhe
    subst e2
    exact ⟨T, v5, v6, v7, rfl, hq, hst, rfl⟩
  | cons t c ih =>
    intro i T st h' v5 v6 v7 hq hco hhe hst hst24 hi
    rw [List.length_cons] at hi
    obtain ⟨hc1, hc2⟩ := hco
    cases t with
    | inl t =>
      obtain ⟨q, r, m⟩ := t
      unfold ab_hei at hhe
      by_cases hx : q < 7 ∧ r < 3 ∧ m < 100 ∧ st.length < 24
      · rw [if_pos hx] at hhe
        obtain ⟨T1, w5, w6, w7, g1, g2, g3⟩ := s154_t (d := d) hq hA hb hh h18 hst hx.2.2.2 hK hE (by omega : i < E) hE2 hc1 hx.1 hx.2.1 hx.2.2.1 v5 v6 v7
        obtain ⟨T2, u5, u6, u7, f1, f2, f3⟩ := ih (i + 1) T1 (ab_tst (ab_ms P D b q) r m :: st) h' w5 w6 w7 g2 hc2 hhe g3 (by rw [List.length_cons]; omega) (by omega)
        exact ⟨T2, u5, u6, u7, g1.trans f1, f2, f3⟩
      · rw [if_neg hx] at hhe; cases hhe
    | inr o =>
      have ho : (o = 3 ∧ 1 ≤ st.length) ∨ ((o = 1 ∨ o = 2) ∧ 2 ≤ st.length) := by
        unfold ab_hei at hhe
        by_cases o3 : o = 3
        · rw [if_pos o3] at hhe
          by_cases h1 : 1 ≤ st.length
          · exact Or.inl ⟨o3, h1⟩
          · rw [if_neg h1] at hhe; cases hhe
        · rw [if_neg o3] at hhe
          by_cases h1 : (o = 1 ∨ o = 2) ∧ 2 ≤ st.length
          · exact Or.inr h1
          · rw [if_neg h1] at hhe; cases hhe
      have hlen : ab_hei c (ab_step (ab_ms P D b) st (.inr o)).length = some h' ∧ (ab_step (ab_ms P D b) st (.inr o)).length ≤ 24 := by
        unfold ab_hei at hhe
        rcases ho with ⟨rfl, h1⟩ | ⟨ho, h2⟩
        · rw [if_pos rfl, if_pos h1] at hhe
          cases st with
          | nil => exact absurd h1 (by decide)
          | cons u st => exact ⟨hhe, hst24⟩
        · have o3 : ¬ o = 3 := by omega
          rw [if_neg o3, if_pos ⟨ho, h2⟩] at hhe
          cases st with
          | nil => exact absurd h2 (by decide)
          | cons u st =>
            cases st with
            | nil => exact absurd h2 (by simp)
            | cons v st =>
              simp only [List.length_cons] at hst24
              have e : (ab_step (ab_ms P D b) (u :: v :: st) (.inr o)).length = st.length + 1 := by
                unfold ab_step
                simp only [if_neg o3, List.length_cons]
              rw [e]
              exact ⟨hhe, by omega⟩
      obtain ⟨T1, w5, w6, w7, g1, g2, g3⟩ := s154_o (d := d) (b := b) hq hA hh h18 hst hst24 hK hE (by omega : i < E) hE2 hc1 ho v5 v6 v7
      obtain ⟨T2, u5, u6, u7, f1, f2, f3⟩ := ih (i + 1) T1 _ h' w5 w6 w7 g2 hc2 hlen.1 g3 hlen.2 (by omega)
      exact ⟨T2, u5, u6, u7, g1.trans f1, f2, f3⟩
theorem s154 (hA : md_A S P D) (hb : b < ab_kn P) (hh : h < 6) (h18 : mm_M S 92 18 = nI h) (hK : K < 70) {f : Nat} {c : List ab_T} (hF : mm_M S 105 K = nI f) (hE : mm_M S 106 K = nI (f + c.length)) (hE2 : f + c.length ≤ 100) (hc : md_co S c (120 * h + f)) (hhe : ab_hei c 0 = some 1) : ∃ T, mm_cl (d + 2) 154 [.ref 92, .int (nI K), .int (nI b)] S = some (some (.int (if ab_hold (ab_ms P D b) c = true then nI 1 else nI 0)), T) ∧ md_q S T := by
  have hw := hA.1
  obtain ⟨T, w5, w6, w7, g1, g2, g3, g4⟩ := s154_loop (d := d) hA hb hh h18 hK hE hE2 c f S [] 1 .null .null .null mq_rf hc hhe True.intro (by decide) rfl
  have wT := mq_W g2 hw
  have i105 : mm_inb (nI K) (mm_N S (mm_rg S 92 22)) = true := by rw [wf_g92_22 hw, wf_N105 hw]; exact hp_inb hK (by omega)
  have a105 : mm_arr S (mm_rg S 92 22) 13 = true := by rw [wf_g92_22 hw]; exact wf_a105 hw
  have i106 : mm_inb (nI K) (mm_N T (mm_rg T 92 23)) = true := by rw [wf_g92_23 wT, wf_N106 wT]; exact hp_inb hK (by omega)
  have a106 : mm_arr T (mm_rg T 92 23) 13 = true := by rw [wf_g92_23 wT]; exact wf_a106 wT
  have e106 : mm_M T 106 K = nI (f + c.length) := (g2.2 _ _ (by decide)).trans hE
  have g1 : mm_ex (d + 2) 154 10 [.ref 92, .int (nI K), .int (nI b), .int (nI 0), .int (nI f), .null, .null, .null] [] S = _ := g1
  refine ⟨T, ?_, g2⟩
  rw [e154, b154_0 (wf_o92 hw) (wf_s92_22 hw) i105 a105, wf_g92_22 hw, nI_clamp (by omega), hF, g1, b154_10 (wf_o92 wT) (wf_s92_23 wT) i106 a106, wf_g92_23 wT, nI_clamp (by omega), e106, if_pos (nI_le (Nat.le_refl _) (by omega))]
  unfold ab_hold
  cases hr : ab_rn (ab_ms P D b) c [] with
  | nil => rw [hr] at g4; cases g4
  | cons u st =>
    rw [hr] at g3 g4
    have hst : st = [] := by
      rw [List.length_cons] at g4
      exact List.eq_nil_of_length_eq_zero (by omega)
    subst hst
    have g5 : mm_M T 117 0 = (if u = true then nI 1 else nI 0) := g3.1
    have c0 : (nI 0).toNatClampNeg = 0 := nI_clamp (by decide)
    rw [b154_261 (wf_o92 wT) (wf_s92_41 wT) (by rw [wf_g92_41 wT, wf_N117 wT]; exact hp_inb (by decide) (by decide)) (by rw [wf_g92_41 wT]; exact wf_a117 wT) (by rw [wf_g92_41 wT, c0, g5]; exact nr_fi), wf_g92_41 wT, c0, g5]
    rfl
end MC
