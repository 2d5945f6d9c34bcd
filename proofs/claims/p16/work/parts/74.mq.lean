/-! ===== questions of the reference: orders ===== -/
def lh_f : Nat → Nat
  | 0 => 1
  | n + 1 => (n + 1) * lh_f n
def lh_l : Nat → List Nat → Nat → List Nat
  | 0, _, _ => []
  | m + 1, L, o => L.getD (o / lh_f m) 0 :: lh_l m (L.eraseIdx (o / lh_f m)) (o % lh_f m)
section QM4
variable {S T U : mm_S} {G : gb_G} {P : ab_P} {D E : ab_D} {b c d n k i j p m o : Nat} {x w y : Int32} {r l L : List Nat}
theorem lf_pos : ∀ n, 0 < lh_f n := by
  intro n
  induction n with
  | zero => exact Nat.one_pos
  | succ n ih => exact Nat.mul_pos (Nat.succ_pos n) ih
theorem lf_le (h : n ≤ 5) : lh_f n ≤ 120 := by
  rcases (by omega : n = 0 ∨ n = 1 ∨ n = 2 ∨ n = 3 ∨ n = 4 ∨ n = 5) with rfl | rfl | rfl | rfl | rfl | rfl <;> decide
theorem ei_perm : ∀ {L : List Nat} {p : Nat}, p < L.length → (L.getD p 0 :: L.eraseIdx p).Perm L := by
  intro L
  induction L with
  | nil => intro p h; exact absurd h (Nat.not_lt_zero _)
  | cons x L ih =>
    intro p h
    cases p with
    | zero => exact List.Perm.refl _
    | succ p =>
      have h2 := ih (Nat.lt_of_succ_lt_succ h)
      show (L.getD p 0 :: x :: L.eraseIdx p).Perm (x :: L)
      exact (List.Perm.swap x (L.getD p 0) (L.eraseIdx p)).trans (h2.cons x)
theorem ei_get {L : List Nat} {q i : Nat} : (L.eraseIdx q).getD i 0 = if i < q then L.getD i 0 else L.getD (i + 1) 0 := by
  rw [List.getD_eq_getElem?_getD, List.getElem?_eraseIdx]
  split
  · rw [List.getD_eq_getElem?_getD]
  · rw [List.getD_eq_getElem?_getD]
theorem lh_pk (h : o < lh_f (m + 1)) : o / lh_f m < m + 1 := by
  refine Nat.div_lt_of_lt_mul ?_
  rw [Nat.mul_comm]
  exact h
theorem lh_perm : ∀ (m : Nat) (L : List Nat) (o : Nat), L.length = m → o < lh_f m → (lh_l m L o).Perm L := by
  intro m
  induction m with
  | zero =>
    intro L o h _
    rw [List.length_eq_zero_iff.mp h]
    exact List.Perm.refl _
  | succ m ih =>
    intro L o h ho
    have hp := lh_pk ho
    have h2 := ih (L.eraseIdx (o / lh_f m)) (o % lh_f m) (by rw [List.length_eraseIdx_of_lt (by omega)]; omega) (Nat.mod_lt _ (lf_pos m))
    exact (h2.cons _).trans (ei_perm (by omega))
theorem lh_len (h : L.length = m) (ho : o < lh_f m) : (lh_l m L o).length = m := by
  rw [(lh_perm m L o h ho).length_eq, h]
theorem s177 (h : n ≤ 5) : mm_cl d 177 [.int (nI n)] S = some (some (.int (nI (lh_f n))), S) := by
  rcases (by omega : n = 0 ∨ n = 1 ∨ n = 2 ∨ n = 3 ∨ n = 4 ∨ n = 5) with rfl | rfl | rfl | rfl | rfl | rfl
  · rw [e177, b177_0, b177_4, if_pos (by decide), b177_19]; rfl
  · rw [e177, b177_0, b177_4, if_pos (by decide), b177_19]; rfl
  · rw [e177, b177_0, b177_4, if_neg (by decide), b177_9, b177_4, if_pos (by decide), b177_19]; rfl
  · rw [e177, b177_0, b177_4, if_neg (by decide), b177_9, b177_4, if_neg (by decide), b177_9, b177_4, if_pos (by decide), b177_19]; rfl
  · rw [e177, b177_0, b177_4, if_neg (by decide), b177_9, b177_4, if_neg (by decide), b177_9, b177_4, if_neg (by decide), b177_9, b177_4, if_pos (by decide), b177_19]; rfl
  · rw [e177, b177_0, b177_4, if_neg (by decide), b177_9, b177_4, if_neg (by decide), b177_9, b177_4, if_neg (by decide), b177_9, b177_4, if_neg (by decide), b177_9, b177_4, if_pos (by decide), b177_19]; rfl
theorem A_121 (hA : md_A S P D) (hw : mm_W T) (g : ∀ c j, c ≠ 121 → mm_M T c j = mm_M S c j) : md_A T P D := A_rowM (l := ab_row D) hA hw (fun c j hc => g c j (by omega)) hA.2.2.2.2.1 hA.2.2.2.2.2.1 ((g _ _ (by decide)).trans hA.2.2.1.1) (fun p hp => (g _ _ (by decide)).trans (hA.2.2.1.2.1 p hp))
theorem wM_u {c j : Nat} (e : T = mm_wM S (mm_M T)) : mm_uM T c j x = mm_wM S (mm_M (mm_uM T c j x)) := by
  have q : mm_uM T c j x = mm_wM T (mm_M (mm_uM T c j x)) := hp_uMw
  refine q.trans ?_
  generalize mm_M (mm_uM T c j x) = K
  rw [e]
  rfl
theorem m178_g (hA : md_A S P D) : ∀ (k b : Nat) (T : mm_S), b + k = ab_kn P → T = mm_wM S (mm_M T) → (∀ c j, c ≠ 121 → mm_M T c j = mm_M S c j) → (∀ i, i < (np_0 b (ab_row D)).length → mm_M T 121 i = nI ((np_0 b (ab_row D)).getD i 0)) → ∃ U, mm_ex (d + 1) 178 4 [.ref 92, .int x, .int (nI (np_0 b (ab_row D)).length), .int (nI b), .null, .null, .null, .null] [] T = mm_ex (d + 1) 178 38 [.ref 92, .int x, .int (nI (np_0 (ab_kn P) (ab_row D)).length), .int (nI (ab_kn P)), .null, .null, .null, .null] [] U ∧ U = mm_wM S (mm_M U) ∧ (∀ c j, c ≠ 121 → mm_M U c j = mm_M S c j) ∧ (∀ i, i < (np_0 (ab_kn P) (ab_row D)).length → mm_M U 121 i = nI ((np_0 (ab_kn P) (ab_row D)).getD i 0)) := by
  have hk : ab_kn P ≤ 6 := hA.2.2.2.1.1
  intro k
  induction k with
  | zero =>
    intro b T hb e hf hv
    have hw : mm_W T := by rw [e]; exact hA.1
    have e2 : b = ab_kn P := by omega
    subst e2
    have h0 : mm_M T 92 0 = nI (ab_kn P) := (hf _ _ (by decide)).trans hA.2.1.1
    refine ⟨T, ?_, e, hf, hv⟩
    rw [b178_4 (wx_o92 hw), h0, if_pos (nI_le (Nat.le_refl _) (by omega))]
  | succ k ih =>
    intro b T hb e hf hv
    have hw : mm_W T := by rw [e]; exact hA.1
    have AT := A_121 hA hw hf
    have h0 : mm_M T 92 0 = nI (ab_kn P) := AT.2.1.1
    have k130 := s130 (d := d) AT (b := b) (by omega)
    have hlen : (np_0 b (ab_row D)).length ≤ b := by
      unfold np_0
      have := List.length_filter_le (fun z => decide (z ∈ ab_row D)) (List.range b)
      rw [List.length_range] at this
      exact this
    have st : mm_ex (d + 1) 178 4 [.ref 92, .int x, .int (nI (np_0 b (ab_row D)).length), .int (nI b), .null, .null, .null, .null] [] T = if b ∈ ab_row D then mm_ex (d + 1) 178 22 [.ref 92, .int x, .int (nI (np_0 b (ab_row D)).length), .int (nI b), .null, .null, .null, .null] [] T else mm_ex (d + 1) 178 32 [.ref 92, .int x, .int (nI (np_0 b (ab_row D)).length), .int (nI b), .null, .null, .null, .null] [] T := by
      rw [b178_4 (wx_o92 hw), h0, if_neg (nI_ge (by omega) (by omega)), b178_12 (wx_k92 hw), k130, hp_bd, hp_ts, b178_17]
      simp only [at_neg AT]
      by_cases hm : b ∈ ab_row D
      · rw [if_neg (fun q => q hm), if_pos hm]
      · rw [if_pos hm, if_neg hm]
    by_cases hm : b ∈ ab_row D
    · have es : np_0 (b + 1) (ab_row D) = np_0 b (ab_row D) ++ [b] := by rw [n0_s, if_pos hm]
      have hih := ih (b + 1) (mm_uM T 121 (np_0 b (ab_row D)).length (nI b)) (by omega) (wM_u e) (fun c j hc => (rdn (by omega)).trans (hf c j hc))
      rw [es] at hih
      generalize np_0 b (ab_row D) = F at *
      have cl : (nI F.length).toNatClampNeg = F.length := nI_clamp (by omega)
      have bi : mm_inb (nI F.length) 6 = true := hp_inb (by omega) (by omega)
      obtain ⟨U, g1, g2⟩ := hih (fun i hi => by
        rw [List.length_append] at hi
        have hi1 : i < F.length + 1 := hi
        rw [List.getD_eq_getElem?_getD]
        by_cases q : i = F.length
        · rw [q, rds, List.getElem?_append_right (Nat.le_refl _), Nat.sub_self]; rfl
        · rw [rdn (by omega), List.getElem?_append_left (by omega), ← List.getD_eq_getElem?_getD]
          exact hv i (by omega))
      refine ⟨U, ?_, g2⟩
      rw [List.length_append] at g1
      rw [st, if_pos hm, b178_22 (wx_o92 hw) (wx_s92_52 hw) (by rw [wx_g92_52 hw]; exact wx_a121 hw) (by rw [wx_g92_52 hw, wx_N121 hw]; exact bi), wx_g92_52 hw, cl, nI_add, nI_add]
      exact g1
    · have es : np_0 (b + 1) (ab_row D) = np_0 b (ab_row D) := by rw [n0_s, if_neg hm, List.append_nil]
      have hih := ih (b + 1) T (by omega) e hf
      rw [es] at hih
      obtain ⟨U, g1, g2⟩ := hih hv
      refine ⟨U, ?_, g2⟩
      rw [st, if_neg hm, b178_32, nI_add]
      exact g1
/-- those behind move up -/
theorem m178_s {m : Nat} (hm : m < 6) {x1 x3 x4 x5 x6 : Int32} : ∀ (q i : Nat) (T : mm_S), i + q = m → mm_W T → ∃ U, mm_ex d 178 95 [.ref 92, .int x1, .int (nI (m + 1)), .int x3, .int x4, .int x5, .int x6, .int (nI i)] [] T = mm_ex d 178 43 [.ref 92, .int x1, .int (nI m), .int x3, .int (x4 + nI 1), .int x5, .int x6, .int (nI m)] [] U ∧ U = mm_wM T (mm_M U) ∧ (∀ c j, c ≠ 121 → mm_M U c j = mm_M T c j) ∧ (∀ j, mm_M U 121 j = if i ≤ j ∧ j < m then mm_M T 121 (j + 1) else mm_M T 121 j) := by
  have s1 : nI (m + 1) - nI 1 = nI m := by rw [pk_sub (by omega), Nat.add_sub_cancel]
  have s2 : nI (m + 1) + (-1) = nI m := by
    rw [← s1, Int32.sub_eq_add_neg]
    congr 1
  intro q
  induction q with
  | zero =>
    intro i T hi hw
    have e : i = m := by omega
    subst e
    refine ⟨T, ?_, rfl, fun _ _ _ => rfl, fun j => (if_neg (by omega)).symm⟩
    rw [b178_95, s1, if_pos (nI_le (Nat.le_refl _) (by omega)), b178_125, s2]
  | succ q ih =>
    intro i T hi hw
    have ci : (nI i).toNatClampNeg = i := nI_clamp (by omega)
    have ci1 : (nI (i + 1)).toNatClampNeg = i + 1 := nI_clamp (by omega)
    have bi : mm_inb (nI i) 6 = true := hp_inb (by omega) (by omega)
    have bi1 : mm_inb (nI (i + 1)) 6 = true := hp_inb (by omega) (by omega)
    have w1 : mm_W (mm_uM T 121 i (mm_M T 121 (i + 1))) := hw
    obtain ⟨U, g1, g2, g3, g4⟩ := ih (i + 1) (mm_uM T 121 i (mm_M T 121 (i + 1))) (by omega) w1
    refine ⟨U, ?_, ?_, fun c j hc => (g3 c j hc).trans (rdn (by omega)), fun j => ?_⟩
    · rw [b178_95, s1, if_neg (nI_ge (by omega) (by omega)), b178_103 (wx_o92 hw) (wx_s92_52 hw) (by rw [wx_g92_52 hw, wx_N121 hw, nI_add]; exact bi1) (by rw [wx_g92_52 hw]; exact wx_a121 hw) (by rw [wx_g92_52 hw, wx_N121 hw]; exact bi), wx_g92_52 hw, ci, nI_add, ci1]
      exact g1
    · have e := g2
      rw [show mm_uM T 121 i (mm_M T 121 (i + 1)) = mm_wM T (mm_M (mm_uM T 121 i (mm_M T 121 (i + 1)))) from hp_uMw] at e
      exact e
    · rw [g4 j]
      by_cases h1 : i + 1 ≤ j ∧ j < m
      · rw [if_pos h1, if_pos ⟨by omega, h1.2⟩, rdn (by omega)]
      · rw [if_neg h1]
        by_cases h2 : j = i
        · rw [h2, rds, if_pos ⟨Nat.le_refl _, by omega⟩]
        · rw [rdn (by omega), if_neg (by omega)]
theorem m178_k {N : Nat} (hN : N ≤ 5) : ∀ (m k o : Nat) (L : List Nat) (T : mm_S) (v5 v6 v7 : Value), mm_W T → mm_M T 92 8 = nI N → k + m = N → L.length = m → o < lh_f m → (∀ i, i < m → mm_M T 121 i = nI (L.getD i 0)) → ∃ U, mm_ex (d + 1) 178 43 [.ref 92, .int x, .int (nI m), .int (nI o), .int (nI k), v5, v6, v7] [] T = some (none, U) ∧ U = mm_wM T (mm_M U) ∧ (∀ c j, c ≠ 121 → c ≠ 100 → mm_M U c j = mm_M T c j) ∧ (∀ p, p < k → mm_M U 100 p = mm_M T 100 p) ∧ (∀ p, p < m → mm_M U 100 (k + p) = nI ((lh_l m L o).getD p 0)) := by
  intro m
  induction m with
  | zero =>
    intro k o L T v5 v6 v7 hw h8 hk hL ho hv
    refine ⟨T, ?_, rfl, fun _ _ _ _ => rfl, fun _ _ => rfl, fun p hp => absurd hp (Nat.not_lt_zero _)⟩
    rw [b178_43 (wx_o92 hw), h8, if_pos (nI_le (by omega) (by omega)), b178_134]
  | succ m ih =>
    intro k o L T v5 v6 v7 hw h8 hk hL ho hv
    have hp := lh_pk ho
    have fp := lf_pos m
    have fl := lf_le (n := m) (by omega)
    have fl2 := lf_le (n := m + 1) (by omega)
    have s1 : nI N - nI 1 - nI k = nI m := by rw [pk_sub (by omega), pk_sub (by omega), show N - 1 - k = m by omega]
    have dv : nI o / nI (lh_f m) = nI (o / lh_f m) := pk_div (by omega) (by omega) (by omega)
    have md : nI o - nI (o / lh_f m) * nI (lh_f m) = nI (o % lh_f m) := by
      have h := Nat.div_add_mod o (lh_f m)
      rw [Nat.mul_comm] at h
      rw [nI_mul, pk_sub (by omega)]
      congr 1
      omega
    have hml := Nat.mod_lt o fp
    generalize hq : o / lh_f m = q at *
    have cq : (nI q).toNatClampNeg = q := nI_clamp (by omega)
    have bq : mm_inb (nI q) 6 = true := hp_inb (by omega) (by omega)
    have ck : (nI k).toNatClampNeg = k := nI_clamp (by omega)
    have bk : mm_inb (nI k) 6 = true := hp_inb (by omega) (by omega)
    have nz : ¬ nI (lh_f m) = nI 0 := fun e => by
      have := (nI_eq (by omega) (by omega)).mp e
      omega
    have k177 := s177 (d := d) (S := T) (n := m) (by omega)
    have w1 : mm_W (mm_uM T 100 k (nI (L.getD q 0))) := hw
    obtain ⟨U1, g1, g2, g3, g4⟩ := m178_s (d := d + 1) (m := m) (by omega) (x1 := x) (x3 := nI (o % lh_f m)) (x4 := nI k) (x5 := nI (lh_f m)) (x6 := nI q) (m - q) q (mm_uM T 100 k (nI (L.getD q 0))) (by omega) w1
    have wU : mm_W U1 := by rw [g2]; exact w1
    obtain ⟨U, g5, g6, g7, g8, g9⟩ := ih (k + 1) (o % lh_f m) (L.eraseIdx q) U1 (.int (nI (lh_f m))) (.int (nI q)) (.int (nI m)) wU ((g3 _ _ (by decide)).trans ((rdn (by omega)).trans h8)) (by omega) (by rw [List.length_eraseIdx_of_lt (by omega)]; omega) hml (fun i hi => by
      rw [g4 i, ei_get]
      by_cases h1 : i < q
      · rw [if_neg (by omega), if_pos h1, rdn (by omega), hv i (by omega)]
      · rw [if_pos ⟨by omega, hi⟩, if_neg h1, rdn (by omega), hv (i + 1) (by omega)])
    have e1 : mm_M U1 100 k = nI (L.getD q 0) := (g3 100 k (by decide)).trans rds
    refine ⟨U, ?_, ?_, fun c j h1 h2 => (g7 c j h1 h2).trans ((g3 c j h1).trans (rdn (by omega))), fun p hp => (g8 p (by omega)).trans ((g3 100 p (by decide)).trans (rdn (by omega))), fun p hp => ?_⟩
    · rw [b178_43 (wx_o92 hw), h8, if_neg (nI_ge (by omega) (by omega)), b178_52 (wx_o92 hw), h8, s1, k177, hp_bd, hp_ts, b178_64 nz (wx_o92 hw) (wx_s92_9 hw) (wx_s92_52 hw) (by rw [wx_g92_52 hw, wx_N121 hw, dv]; exact bq) (by rw [wx_g92_52 hw]; exact wx_a121 hw) (by rw [wx_g92_9 hw]; exact wx_a100 hw) (by rw [wx_g92_9 hw, wx_N100 hw]; exact bk), wx_g92_52 hw, wx_g92_9 hw, dv, md, cq, ck, hv q (by omega), g1, nI_add, g5]
    · have e := g2
      rw [wM_u (S := T) (T := T) rfl] at e
      have e2 := g6
      rw [e] at e2
      exact e2
    · show mm_M U 100 (k + p) = nI ((L.getD (o / lh_f m) 0 :: lh_l m (L.eraseIdx (o / lh_f m)) (o % lh_f m)).getD p 0)
      rw [hq]
      cases p with
      | zero => exact (g8 k (by omega)).trans e1
      | succ p =>
        have := g9 p (by omega)
        rw [show k + 1 + p = k + (p + 1) by omega] at this
        exact this
theorem s178 (hA : md_A S P D) (h5 : (ab_row D).length ≤ 5) (ho : o < lh_f (ab_row D).length) : ∃ U, mm_cl (d + 1) 178 [.ref 92, .int (nI o)] S = some (none, U) ∧ U = mm_wM S (mm_M U) ∧ (∀ c j, c ≠ 121 → c ≠ 100 → mm_M U c j = mm_M S c j) ∧ md_A U P (gD_row D (lh_l (ab_row D).length (np_0 (ab_kn P) (ab_row D)) o)) := by
  have hw := hA.1
  have oD := hA.2.2.2.2
  have hn := n0_len (kn := ab_kn P) oD.1 oD.2.1
  obtain ⟨T, g1, g2, g3, g4⟩ := m178_g (d := d) (x := nI o) hA (ab_kn P) 0 S (Nat.zero_add _) rfl (fun _ _ _ => rfl) (fun i hi => absurd hi (Nat.not_lt_zero _))
  have wT : mm_W T := by rw [g2]; exact hw
  rw [hn] at g1 g4
  obtain ⟨U, g5, g6, g7, g8, g9⟩ := m178_k (d := d) (x := nI o) (N := (ab_row D).length) h5 (ab_row D).length 0 o (np_0 (ab_kn P) (ab_row D)) T .null .null .null wT ((g3 _ _ (by decide)).trans hA.2.2.1.1) (Nat.zero_add _) hn ho g4
  have wU : mm_W U := by rw [g6]; exact wT
  have f : ∀ c j, c ≠ 121 → c ≠ 100 → mm_M U c j = mm_M S c j := fun c j h1 h2 => (g7 c j h1 h2).trans (g3 c j h1)
  have pm := lh_perm (ab_row D).length (np_0 (ab_kn P) (ab_row D)) o hn ho
  have ll := lh_len hn ho
  refine ⟨U, ?_, ?_, f, A_rowM hA wU (fun c j hc => f c j (by omega) (by omega)) (pm.nodup_iff.mpr n0_nd) (fun z hz => (n0_me.mp (pm.mem_iff.mp hz)).1) ((f 92 8 (by decide) (by decide)).trans (by rw [ll]; exact hA.2.2.1.1)) (fun p hp => ?_)⟩
  · rw [e178, b178_0]
    refine Eq.trans g1 ?_
    rw [b178_38, g5]
  · have e := g6
    rw [g2] at e
    exact e
  · rw [ll] at hp
    have := g9 p hp
    rw [Nat.zero_add] at this
    exact this
end QM4
