/-! ===== order and lot, in the class ===== -/
def lt_l : Nat → Int64 → Int64 → Int64
  | 0, a, _ => a
  | k + 1, a, b => if lg_cmp b 0 ≤ nI 0 then a else lt_l k b (a - a / b * b)
def ab_lt (a b : Int64) (x : Int32) : Int64 := if nI 0 < lg_cmp (lt_l 100 a b) 0 then (if x = nI 0 then a / lt_l 100 a b else b / lt_l 100 a b) else -9223372036854775808
def ab_sm (P : ab_P) (D : ab_D) (s : Int64 × Int64) (f : Nat → Nat) : Int64 × Int64 := (s.1 + (ab_ti (ab_fin P (gD_row D (np_f f (ab_row D).length)))).toInt64, s.2 + 1)
def an_16 (G : gb_G) (x : Int32) : Int64 := if ¬ (x = nI 0 ∨ x = nI 1) ∨ 5 < (ab_row (gD G)).length then -9223372036854775808 else ab_lt ((ab_os G).foldl (ab_sm (gP G) (gD G)) (0, 0)).1 ((ab_os G).foldl (ab_sm (gP G) (gD G)) (0, 0)).2 x
section OL
variable {S T U : mm_S} {G : gb_G} {P : ab_P} {D E : ab_D} {a b c d n k i j p t l : Nat} {x w y z : Int32} {r : List Nat} {f g : Nat → Nat}
/-- what the best is so far, in cells -/
def ob_c (S : mm_S) (n : Nat) (s : Option (Int32 × (Nat → Nat))) (m : Int32) : Prop := match s with
  | none => m = nI 0
  | some q => m = q.1 ∧ np_c S 90 n q.2
theorem ob_tr (h : ∀ j, mm_M T 90 j = mm_M S 90 j) {s : Option (Int32 × (Nat → Nat))} {m : Int32} (hb : ob_c S n s m) : ob_c T n s m := by
  cases s with
  | none => exact hb
  | some q => exact ⟨hb.1, fun p hp => (h p).trans (hb.2 p hp)⟩
theorem np_tr (h : ∀ j, mm_M T c j = mm_M S c j) (hb : np_c S c n f) : np_c T c n f := fun p hp => (h p).trans (hb p hp)
/-- one row tried, and what it comes to -/
theorem s119v (ok : gb_ok G) (hR : RC S G) (hf : np_ok (ab_row (gD G)) f) (hc : np_c S 89 (ab_row (gD G)).length f) {x2 x3 x4 : Int32} {v5 : Value} (hx : x = nI 0 ∨ x = nI 1) : ∃ T, QC S T G ∧ np_c T 89 (ab_row (gD G)).length f ∧ (∀ j, mm_M T 90 j = mm_M S 90 j) ∧ mm_ex (d + 6) 119 22 [.ref 0, .int x, .int x2, .int x3, .int x4, v5] [] S = if x4 = nI 0 then mm_ex (d + 6) 119 67 [.ref 0, .int x, .int x2, .int x3, .int x4, .int (ab_ov (gP G) (gD G) (if x = nI 0 then 0 else 1) f)] [] T else mm_ex (d + 6) 119 61 [.ref 0, .int x, .int x2, .int x3, .int x4, .int (ab_ov (gP G) (gD G) (if x = nI 0 then 0 else 1) f)] [] T := by
  have hw := hR.1
  obtain ⟨T1, g1, g2, g3, g4⟩ := s121q (d := d + 3) ok hR hf hc
  obtain ⟨T2, f1, f2, f3⟩ := s23 (d := d) g3
  have w1 := g3.1
  have w2 := f3.1
  have q2 := QC_tr g2 (QC_fr ok g2.1 (Or.inl rfl) f2)
  have h24 := s24 (d := d + 5) f3
  obtain ⟨t1, t2, t3, t4, t5, t6, t7, t8⟩ := f3.2.2.2.1
  have k89 : ∀ j, mm_M T2 89 j = mm_M S 89 j := fun j => (f2.2 89 j (by unfold cd_dc; omega)).trans (g4.1 89 j (fun (e : 24 ≤ 89 ∧ 89 ≤ 32) => by omega)).1
  have k90 : ∀ j, mm_M T2 90 j = mm_M S 90 j := fun j => (f2.2 90 j (by unfold cd_dc; omega)).trans (g4.1 90 j (fun (e : 24 ≤ 90 ∧ 90 ≤ 32) => by omega)).1
  refine ⟨T2, q2, np_tr k89 hc, k90, ?_⟩
  unfold ab_ov
  rw [b119_22 (wx_k0 hw), g1, hp_bd, hp_tn, b119_26 (wx_o0 w1) (wx_s0_2 w1) (by rw [wx_g0_2 w1]; exact wx_k24 w1), wx_g0_2 w1, f1, hp_bd, hp_tn, b119_33]
  by_cases x0 : x = nI 0
  · rw [if_pos x0, if_pos x0, b119_37 (wx_o0 w2) (wx_s0_2 w2) (by rw [wx_g0_2 w2]; exact wx_o24 w2), wx_g0_2 w2, t7]
    rfl
  · rw [if_neg x0, if_neg x0, b119_47 (wx_o0 w2) (wx_s0_2 w2) (by rw [wx_g0_2 w2]; exact wx_k24 w2), wx_g0_2 w2, h24, hp_bd, hp_ts, b119_54]
    rfl
/-- the next row, or none -/
theorem s119n (ok : gb_ok G) (hR : RC S G) (hf : np_ok (ab_row (gD G)) f) (hc : np_c S 89 (ab_row (gD G)).length f) : ∃ T z, mm_cl (d + 1) 122 [.ref 0] S = some (some (.int z), T) ∧ QC S T G ∧ (∀ j, mm_M T 90 j = mm_M S 90 j) ∧ (match np_n f (ab_row (gD G)).length with
    | none => z = nI 0
    | some g => z = nI 1 ∧ np_c T 89 (ab_row (gD G)).length g) := by
  obtain ⟨T, g1, g2, g3⟩ := s122q (d := d) ok hR hf hc
  have h90 : ∀ j, mm_M T 90 j = mm_M S 90 j := fun j => (g3.1 90 j (fun (e : 90 = 89) => by omega)).1
  cases hn : np_n f (ab_row (gD G)).length with
  | none => rw [hn] at g2; exact ⟨T, nI 0, g2.1, g1, h90, rfl⟩
  | some g => rw [hn] at g2; exact ⟨T, nI 1, g2.1, g1, h90, rfl, g2.2⟩
theorem s119_loop (ok : gb_ok G) (hx : x = nI 0 ∨ x = nI 1) : ∀ (k i : Nat) (S : mm_S) (f : Nat → Nat) (s : Option (Int32 × (Nat → Nat))) (m : Int32) (v5 : Value), RC S G → np_ok (ab_row (gD G)) f → np_c S 89 (ab_row (gD G)).length f → ob_c S (ab_row (gD G)).length s m → (s = none ↔ i = 0) → i + k = 120 → ∃ T m', mm_ex (d + 6) 119 11 [.ref 0, .int x, .int m, .int (nI 1), .int (nI i), v5] [] S = some (some (.int m'), T) ∧ QC S T G ∧ ob_c T (ab_row (gD G)).length ((np_a (ab_row (gD G)).length k f).foldl (ab_oo (gP G) (gD G) (if x = nI 0 then 0 else 1)) s) m' := by
  have hl6 : (ab_row (gD G)).length ≤ 6 := row_le ok.1.1 ok.1.2.1
  intro k
  induction k with
  | zero =>
    intro i S f s m v5 hR hf hc hb hs hi
    refine ⟨S, m, ?_, QC_rf hR, hb⟩
    rw [b119_11, if_pos (nI_le (by omega) (by omega)), b119_96]
  | succ k ih =>
    intro i S f s m v5 hR hf hc hb hs hi
    obtain ⟨T1, q1, c1, n1, g1⟩ := s119v (d := d) (x2 := m) (x3 := nI 1) (x4 := nI i) (v5 := v5) ok hR hf hc hx
    have st : mm_ex (d + 6) 119 11 [.ref 0, .int x, .int m, .int (nI 1), .int (nI i), v5] [] S = mm_ex (d + 6) 119 22 [.ref 0, .int x, .int m, .int (nI 1), .int (nI i), v5] [] S := by
      rw [b119_11, if_neg (nI_ge (by omega) (by decide)), b119_18, if_neg i01]
    -- the better one is kept
    have w1 := q1.1.1
    have cpo : mm_cpOk (nI 0) (nI 0) (nI 6) 6 6 = true := by decide
    have c0 : (nI 0).toNatClampNeg = 0 := nI_clamp (by decide)
    have c6 : (nI 6).toNatClampNeg = 6 := nI_clamp (by decide)
    have keep : ∃ T2 z, mm_ex (d + 6) 119 67 [.ref 0, .int x, .int m, .int (nI 1), .int (nI i), .int (ab_ov (gP G) (gD G) (if x = nI 0 then 0 else 1) f)] [] T1 = mm_ex (d + 6) 119 11 [.ref 0, .int x, .int (ab_ov (gP G) (gD G) (if x = nI 0 then 0 else 1) f), .int z, .int (nI (i + 1)), .int (ab_ov (gP G) (gD G) (if x = nI 0 then 0 else 1) f)] [] T2 ∧ QC T1 T2 G ∧ np_c T2 90 (ab_row (gD G)).length f ∧ (match np_n f (ab_row (gD G)).length with
    | none => z = nI 0
    | some g => z = nI 1 ∧ np_c T2 89 (ab_row (gD G)).length g) := by
      have qV : QC T1 (mm_cpM T1 89 90 0 0 6) G := by
        refine QC_f ok q1.1 ⟨fun c j h => ⟨?_, rfl, rfl⟩, fun _ _ => ⟨rfl, rfl⟩, Nat.le_refl _⟩ w1 rfl rfl
        rw [hp_McpM, if_neg (fun e => h (by unfold gc_F; omega))]
      have cV : np_c (mm_cpM T1 89 90 0 0 6) 89 (ab_row (gD G)).length f := fun p hp => by
        rw [hp_McpM, if_neg (fun e => by omega)]
        exact c1 p hp
      have c90 : np_c (mm_cpM T1 89 90 0 0 6) 90 (ab_row (gD G)).length f := fun p hp => by
        rw [hp_McpM, if_pos ⟨rfl, Nat.zero_le _, by omega⟩, Nat.sub_zero, Nat.zero_add]
        exact c1 p hp
      obtain ⟨T2, z, h1, h2, h3, h4⟩ := s119n (d := d + 4) ok qV.1 hf cV
      refine ⟨T2, z, ?_, QC_tr qV h2, np_tr h3 c90, h4⟩
      rw [b119_67 (wx_o0 w1) (wx_s0_8 w1) (wx_s0_9 w1) (by rw [wx_g0_8 w1]; exact wx_a89 w1) (by rw [wx_g0_9 w1]; exact wx_a90 w1) (by rw [wx_g0_8 w1, wx_g0_9 w1, wx_N89 w1, wx_N90 w1]; exact cpo) (wx_k0 w1), wx_g0_8 w1, wx_g0_9 w1, c0, c6, h1, hp_bd, hp_ts, b119_89, nI_add]
    have skip : ∃ T2 z, mm_ex (d + 6) 119 85 [.ref 0, .int x, .int m, .int (nI 1), .int (nI i), .int (ab_ov (gP G) (gD G) (if x = nI 0 then 0 else 1) f)] [] T1 = mm_ex (d + 6) 119 11 [.ref 0, .int x, .int m, .int z, .int (nI (i + 1)), .int (ab_ov (gP G) (gD G) (if x = nI 0 then 0 else 1) f)] [] T2 ∧ QC T1 T2 G ∧ (∀ j, mm_M T2 90 j = mm_M T1 90 j) ∧ (match np_n f (ab_row (gD G)).length with
    | none => z = nI 0
    | some g => z = nI 1 ∧ np_c T2 89 (ab_row (gD G)).length g) := by
      obtain ⟨T2, z, h1, h2, h3, h4⟩ := s119n (d := d + 4) ok q1.1 hf c1
      refine ⟨T2, z, ?_, h2, h3, h4⟩
      rw [b119_85 (wx_k0 w1), h1, hp_bd, hp_ts, b119_89, nI_add]
    -- one round: what stands at 11 then
    have round : ∃ T2 z s' m' v, mm_ex (d + 6) 119 11 [.ref 0, .int x, .int m, .int (nI 1), .int (nI i), v5] [] S = mm_ex (d + 6) 119 11 [.ref 0, .int x, .int m', .int z, .int (nI (i + 1)), v] [] T2 ∧ QC S T2 G ∧ s' = ab_oo (gP G) (gD G) (if x = nI 0 then 0 else 1) s f ∧ ob_c T2 (ab_row (gD G)).length s' m' ∧ (match np_n f (ab_row (gD G)).length with
    | none => z = nI 0
    | some g => z = nI 1 ∧ np_c T2 89 (ab_row (gD G)).length g) := by
      cases s with
      | none =>
        have i0 := hs.mp rfl
        subst i0
        obtain ⟨T2, z, h1, h2, h3, h4⟩ := keep
        refine ⟨T2, z, some (ab_ov (gP G) (gD G) (if x = nI 0 then 0 else 1) f, f), ab_ov (gP G) (gD G) (if x = nI 0 then 0 else 1) f, .int (ab_ov (gP G) (gD G) (if x = nI 0 then 0 else 1) f), ?_, QC_tr q1 h2, rfl, ⟨rfl, h3⟩, h4⟩
        rw [st, g1, if_pos rfl, h1]
      | some q =>
        have i0 : ¬ i = 0 := fun e => by have := hs.mpr e; cases this
        have es : ab_oo (gP G) (gD G) (if x = nI 0 then 0 else 1) (some q) f = if q.1 < ab_ov (gP G) (gD G) (if x = nI 0 then 0 else 1) f then some (ab_ov (gP G) (gD G) (if x = nI 0 then 0 else 1) f, f) else some q := rfl
        rw [if_neg (fun e => i0 ((nI_eq (by omega) (by decide)).mp e)), b119_61] at g1
        have hm : m = q.1 := hb.1
        by_cases h : q.1 < ab_ov (gP G) (gD G) (if x = nI 0 then 0 else 1) f
        · obtain ⟨T2, z, h1, h2, h3, h4⟩ := keep
          refine ⟨T2, z, some (ab_ov (gP G) (gD G) (if x = nI 0 then 0 else 1) f, f), ab_ov (gP G) (gD G) (if x = nI 0 then 0 else 1) f, .int (ab_ov (gP G) (gD G) (if x = nI 0 then 0 else 1) f), ?_, QC_tr q1 h2, ?_, ⟨rfl, h3⟩, h4⟩
          · rw [st, g1, if_neg (by rw [hm]; exact Int32.not_le.mpr h), h1]
          · rw [es, if_pos h]
        · obtain ⟨T2, z, h1, h2, h3, h4⟩ := skip
          refine ⟨T2, z, some q, m, .int (ab_ov (gP G) (gD G) (if x = nI 0 then 0 else 1) f), ?_, QC_tr q1 h2, ?_, ob_tr (fun j => (h3 j).trans (n1 j)) hb, h4⟩
          · rw [st, g1, if_pos (by rw [hm]; exact Int32.not_lt.mp h), h1]
          · rw [es, if_neg h]
    obtain ⟨T2, z, s', m', v, h1, h2, h3, h4, h5⟩ := round
    have ea : np_a (ab_row (gD G)).length (k + 1) f = f :: (match np_n f (ab_row (gD G)).length with
    | none => []
    | some g => np_a (ab_row (gD G)).length k g) := rfl
    rw [ea, List.foldl_cons, ← h3]
    cases hn : np_n f (ab_row (gD G)).length with
    | none =>
      rw [hn] at h5
      have h5 : z = nI 0 := h5
      refine ⟨T2, m', ?_, h2, h4⟩
      rw [h1, h5, b119_11]
      by_cases hk : nI 120 ≤ nI (i + 1)
      · rw [if_pos hk, b119_96]
      · rw [if_neg hk, b119_18, if_pos rfl, b119_96]
    | some g =>
      rw [hn] at h5
      obtain ⟨h5, h6⟩ := h5
      have sn : s' = none ↔ i + 1 = 0 := by
        refine ⟨fun e => ?_, fun e => by omega⟩
        rw [h3] at e
        cases s with
        | none => cases e
        | some q =>
          exfalso
          have es : ab_oo (gP G) (gD G) (if x = nI 0 then 0 else 1) (some q) f = if q.1 < ab_ov (gP G) (gD G) (if x = nI 0 then 0 else 1) f then some (ab_ov (gP G) (gD G) (if x = nI 0 then 0 else 1) f, f) else some q := rfl
          rw [es] at e
          by_cases hq : q.1 < ab_ov (gP G) (gD G) (if x = nI 0 then 0 else 1) f
          · rw [if_pos hq] at e; cases e
          · rw [if_neg hq] at e; cases e
      obtain ⟨T3, m3, j1, j2, j3⟩ := ih (i + 1) T2 g s' m' v h2.1 (np_nk hf hn) h6 h4 sn (by omega)
      refine ⟨T3, m3, ?_, QC_tr h2 j2, j3⟩
      rw [h1, h5, j1]
theorem oo_some : ∀ (l : List (Nat → Nat)) (s : Option (Int32 × (Nat → Nat))), l ≠ [] ∨ s ≠ none → l.foldl (ab_oo P D n) s ≠ none := by
  intro l
  induction l with
  | nil => intro s h; exact h.resolve_left (fun q => q rfl)
  | cons f l ih =>
    intro s _
    rw [List.foldl_cons]
    refine ih _ (Or.inr ?_)
    cases s with
    | none => intro e; cases e
    | some q =>
      show (if q.1 < ab_ov P D n f then some (ab_ov P D n f, f) else some q) ≠ none
      split <;> (intro e; cases e)
theorem c_14 (ok : gb_ok G) (hR : RC S G) : oC S (d + 7) 87 [.ref 0, .int x, .int w] (.int (an_14 G x w)) G := by
  have hw := hR.1
  have hl6 : (ab_row (gD G)).length ≤ 6 := row_le ok.1.1 ok.1.2.1
  have h11 : mm_M S 6 11 = nI (ab_row (gD G)).length := hR.2.1.2.1.1
  unfold an_14
  by_cases hx : x = nI 0 ∨ x = nI 1
  rotate_left 1
  · rw [if_pos (Or.inl hx)]
    refine oC_id hR ?_
    rw [e87, b87_0, if_neg (fun e => hx (Or.inl e)), b87_4, if_neg (fun e => hx (Or.inr e)), b87_25]
  have st : mm_cl (d + 7) 87 [.ref 0, .int x, .int w] S = mm_ex (d + 7) 87 9 [.ref 0, .int x, .int w, .null] [] S := by
    rw [e87, b87_0]
    by_cases x0 : x = nI 0
    · rw [if_pos x0]
    · rw [if_neg x0, b87_4, if_pos (hx.resolve_left x0)]
  by_cases h1 : w < -1
  · rw [if_pos (Or.inr (Or.inl h1))]
    refine oC_id hR ?_
    rw [st, b87_9, if_pos h1, b87_25]
  by_cases h2 : nI (ab_row (gD G)).length ≤ w
  · rw [if_pos (Or.inr (Or.inr h2))]
    refine oC_id hR ?_
    rw [st, b87_9, if_neg h1, b87_14 (wx_o0 hw) (wx_s0_0 hw) (by rw [wx_g0_0 hw]; exact wx_o6 hw), wx_g0_0 hw, h11, if_neg (Int32.not_lt.mpr h2), b87_25]
  have hno : ¬ (¬ (x = nI 0 ∨ x = nI 1) ∨ w < -1 ∨ nI (ab_row (gD G)).length ≤ w) := fun e => e.elim (fun q => q hx) (fun q => q.elim h1 h2)
  rw [if_neg hno]
  have st2 : mm_cl (d + 7) 87 [.ref 0, .int x, .int w] S = if nI (ab_row (gD G)).length ≤ nI 5 then mm_ex (d + 7) 87 42 [.ref 0, .int x, .int w, .null] [] S else mm_ex (d + 7) 87 39 [.ref 0, .int x, .int w, .null] [] S := by
    rw [st, b87_9, if_neg h1, b87_14 (wx_o0 hw) (wx_s0_0 hw) (by rw [wx_g0_0 hw]; exact wx_o6 hw), wx_g0_0 hw, h11, if_pos (Int32.not_le.mp h2), b87_28 (wx_o0 hw) (wx_s0_0 hw) (by rw [wx_g0_0 hw]; exact wx_o6 hw), wx_g0_0 hw, h11]
  by_cases h5 : 5 < (ab_row (gD G)).length
  · rw [if_pos h5]
    refine oC_id hR ?_
    rw [st2, if_neg (nI_ge h5 (by omega)), b87_39]
  rw [if_neg h5]
  rw [if_pos (nI_le (by omega) (by omega))] at st2
  obtain ⟨T1, g1, g2, g3⟩ := s120q (d := d + 4) ok hR
  obtain ⟨T2, m, f1, f2, f3⟩ := s119_loop (d := d) (x := x) ok hx 120 0 T1 _ none (nI 0) .null g2.1 (n0_ok ok.1.2.1.1 ok.1.2.1.2.1) g3 rfl ⟨fun _ => rfl, fun _ => rfl⟩ rfl
  have k119 : mm_cl (d + 6) 119 [.ref 0, .int x] S = some (some (.int m), T2) := by
    rw [e119, b119_0 (wx_k0 hw), g1, hp_bd, hp_tn, b119_6, f1]
  have w2 := f2.1.1
  have f3 : ob_c T2 (ab_row (gD G)).length ((ab_os G).foldl (ab_oo (gP G) (gD G) (if x = nI 0 then 0 else 1)) none) m := f3
  have hne : (ab_os G).foldl (ab_oo (gP G) (gD G) (if x = nI 0 then 0 else 1)) none ≠ none := oo_some _ _ (Or.inl (fun e => by
    have e : np_a (ab_row (gD G)).length 120 (fun i => (np_0 (gK G) (ab_row (gD G))).getD i 0) = [] := e
    cases e))
  cases hfo : (ab_os G).foldl (ab_oo (gP G) (gD G) (if x = nI 0 then 0 else 1)) none with
  | none => exact absurd hfo hne
  | some q =>
    rw [hfo] at f3
    obtain ⟨f3, f4⟩ := f3
    refine oC_Q (QC_tr g2 f2) ?_
    rw [st2, b87_42 (wx_k0 hw), k119, hp_bd, hp_ts, b87_47]
    by_cases h0 : w < nI 0
    · rw [if_neg (Int32.not_le.mpr h0), b87_52]
      show _ = some (some (Value.int (if w < nI 0 then q.1 else nI (q.2 w.toNatClampNeg))), T2)
      rw [if_pos h0, f3]
    · obtain ⟨k, hk, rfl⟩ := nI_of (x := w) h0
      have hkl : k < (ab_row (gD G)).length := by
        rw [nI_leI (by omega) hk] at h2
        omega
      have ck : (nI k).toNatClampNeg = k := nI_clamp hk
      rw [if_pos (nI_le (Nat.zero_le _) hk), b87_56 (wx_o0 w2) (wx_s0_9 w2) (by rw [wx_g0_9 w2, wx_N90 w2]; exact hp_inb (by omega) hk) (by rw [wx_g0_9 w2]; exact wx_a90 w2), wx_g0_9 w2, ck, f4 k hkl]
      show _ = some (some (Value.int (if nI k < nI 0 then q.1 else nI (q.2 k))), T2)
      rw [if_neg h0]
-- lowest terms
theorem lg_pos {b : Int64} (h : ¬ lg_cmp b 0 ≤ nI 0) : ¬ b = 0 := by
  intro e
  subst e
  exact h (by decide)
theorem lg_pos2 {b : Int64} (h : nI 0 < lg_cmp b 0) : ¬ b = 0 := by
  intro e
  subst e
  exact absurd h (by decide)
theorem s126_loop {j0 j2 : Int64} : ∀ (k i : Nat) (a b : Int64) (v : Value), i + k = 100 → ∃ b' z v', mm_ex d 126 9 [.long j0, .null, .long j2, .null, .int x, .long a, .null, .long b, .null, .int (nI i), v, .null] [] S = mm_ex d 126 44 [.long j0, .null, .long j2, .null, .int x, .long (lt_l k a b), .null, .long b', .null, .int z, v', .null] [] S := by
  intro k
  induction k with
  | zero =>
    intro i a b v hi
    refine ⟨b, nI i, v, ?_⟩
    rw [b126_9, if_pos (nI_le (by omega) (by omega))]
    rfl
  | succ k ih =>
    intro i a b v hi
    have e : lt_l (k + 1) a b = if lg_cmp b 0 ≤ nI 0 then a else lt_l k b (a - a / b * b) := rfl
    rw [b126_9, if_neg (nI_ge (by omega) (by decide)), b126_16, e]
    by_cases h : lg_cmp b 0 ≤ nI 0
    · rw [if_pos h, if_pos h]
      exact ⟨b, nI i, v, rfl⟩
    · rw [if_neg h, if_neg h, b126_23 (lg_pos h), nI_add]
      exact ih (i + 1) b (a - a / b * b) _ (by omega)
theorem s126q {j0 j2 : Int64} : mm_cl d 126 [.long j0, .long j2, .int x] S = some (some (.long (ab_lt j0 j2 x)), S) := by
  obtain ⟨b', z, v', h⟩ := s126_loop (S := S) (d := d) (x := x) (j0 := j0) (j2 := j2) 100 0 j0 j2 .null rfl
  unfold ab_lt
  rw [e126, b126_0, h, b126_44]
  by_cases h1 : nI 0 < lg_cmp (lt_l 100 j0 j2) 0
  · rw [if_pos h1, if_pos h1, b126_55]
    by_cases x0 : x = nI 0
    · rw [if_pos x0, if_pos x0, b126_60 (lg_pos2 h1)]
    · rw [if_neg x0, if_neg x0, b126_67 (lg_pos2 h1)]
  · rw [if_neg h1, if_neg h1, b126_51]
theorem s89_loop (ok : gb_ok G) : ∀ (k i : Nat) (S : mm_S) (f : Nat → Nat) (s : Int64 × Int64), RC S G → np_ok (ab_row (gD G)) f → np_c S 89 (ab_row (gD G)).length f → i + k = 120 → ∃ T y z, mm_ex (d + 6) 89 39 [.ref 0, .int x, .long s.1, .null, .long s.2, .null, .int (nI 1), .int (nI i)] [] S = mm_ex (d + 6) 89 91 [.ref 0, .int x, .long ((np_a (ab_row (gD G)).length k f).foldl (ab_sm (gP G) (gD G)) s).1, .null, .long ((np_a (ab_row (gD G)).length k f).foldl (ab_sm (gP G) (gD G)) s).2, .null, .int y, .int z] [] T ∧ QC S T G := by
  intro k
  induction k with
  | zero =>
    intro i S f s hR hf hc hi
    refine ⟨S, nI 1, nI i, ?_, QC_rf hR⟩
    rw [b89_39, if_pos (nI_le (by omega) (by omega))]
    rfl
  | succ k ih =>
    intro i S f s hR hf hc hi
    have hw := hR.1
    obtain ⟨T1, g1, g2, g3, g4⟩ := s121q (d := d + 3) ok hR hf hc
    obtain ⟨T2, f1, f2, f3⟩ := s23 (d := d) g3
    have w1 := g3.1
    have w2 := f3.1
    have q2 := QC_tr g2 (QC_fr ok g2.1 (Or.inl rfl) f2)
    have t7 : mm_M T2 24 14 = ab_ti (ab_fin (gP G) (gD_row (gD G) (np_f f (ab_row (gD G)).length))) := f3.2.2.2.1.2.2.2.2.2.2.1
    have k89 : ∀ j, mm_M T2 89 j = mm_M S 89 j := fun j => (f2.2 89 j (by unfold cd_dc; omega)).trans (g4.1 89 j (fun (e : 24 ≤ 89 ∧ 89 ≤ 32) => by omega)).1
    obtain ⟨T3, z, h1, h2, h3, h4⟩ := s119n (d := d + 4) ok q2.1 hf (np_tr k89 hc)
    have st : mm_ex (d + 6) 89 39 [.ref 0, .int x, .long s.1, .null, .long s.2, .null, .int (nI 1), .int (nI i)] [] S = mm_ex (d + 6) 89 39 [.ref 0, .int x, .long (ab_sm (gP G) (gD G) s f).1, .null, .long (ab_sm (gP G) (gD G) s f).2, .null, .int z, .int (nI (i + 1))] [] T3 := by
      unfold ab_sm
      rw [b89_39, if_neg (nI_ge (by omega) (by decide)), b89_46, if_neg i01, b89_51 (wx_k0 hw), g1, hp_bd, hp_tn, b89_55 (wx_o0 w1) (wx_s0_2 w1) (by rw [wx_g0_2 w1]; exact wx_k24 w1), wx_g0_2 w1, f1, hp_bd, hp_tn, b89_62 (wx_o0 w2) (wx_s0_2 w2) (by rw [wx_g0_2 w2]; exact wx_o24 w2) (wx_k0 w2), wx_g0_2 w2, t7, h1, hp_bd, hp_ts, b89_83, nI_add]
    have ea : np_a (ab_row (gD G)).length (k + 1) f = f :: (match np_n f (ab_row (gD G)).length with
    | none => []
    | some g => np_a (ab_row (gD G)).length k g) := rfl
    rw [ea, List.foldl_cons]
    cases hn : np_n f (ab_row (gD G)).length with
    | none =>
      rw [hn] at h4
      have h4 : z = nI 0 := h4
      refine ⟨T3, z, nI (i + 1), ?_, QC_tr q2 h2⟩
      rw [st, b89_39]
      by_cases hk : nI 120 ≤ nI (i + 1)
      · rw [if_pos hk]; rfl
      · rw [if_neg hk, b89_46, if_pos h4]; rfl
    | some g =>
      rw [hn] at h4
      obtain ⟨h4, h5⟩ := h4
      obtain ⟨T4, y, z2, j1, j2⟩ := ih (i + 1) T3 g (ab_sm (gP G) (gD G) s f) h2.1 (np_nk hf hn) h5 (by omega)
      refine ⟨T4, y, z2, ?_, QC_tr q2 (QC_tr h2 j2)⟩
      rw [st, h4, j1]
theorem c_16 (ok : gb_ok G) (hR : RC S G) : oC S (d + 6) 89 [.ref 0, .int x] (.long (an_16 G x)) G := by
  have hw := hR.1
  have hl6 : (ab_row (gD G)).length ≤ 6 := row_le ok.1.1 ok.1.2.1
  have h11 : mm_M S 6 11 = nI (ab_row (gD G)).length := hR.2.1.2.1.1
  unfold an_16
  by_cases hx : x = nI 0 ∨ x = nI 1
  rotate_left 1
  · rw [if_pos (Or.inl hx)]
    refine oC_id hR ?_
    rw [e89, b89_0, if_neg (fun e => hx (Or.inl e)), b89_4, if_neg (fun e => hx (Or.inr e)), b89_20]
  have st : mm_cl (d + 6) 89 [.ref 0, .int x] S = if nI (ab_row (gD G)).length ≤ nI 5 then mm_ex (d + 6) 89 24 [.ref 0, .int x, .null, .null, .null, .null, .null, .null] [] S else mm_ex (d + 6) 89 20 [.ref 0, .int x, .null, .null, .null, .null, .null, .null] [] S := by
    have h1 : mm_cl (d + 6) 89 [.ref 0, .int x] S = mm_ex (d + 6) 89 9 [.ref 0, .int x, .null, .null, .null, .null, .null, .null] [] S := by
      rw [e89, b89_0]
      by_cases x0 : x = nI 0
      · rw [if_pos x0]
      · rw [if_neg x0, b89_4, if_pos (hx.resolve_left x0)]
    rw [h1, b89_9 (wx_o0 hw) (wx_s0_0 hw) (by rw [wx_g0_0 hw]; exact wx_o6 hw), wx_g0_0 hw, h11]
  by_cases h5 : 5 < (ab_row (gD G)).length
  · rw [if_pos (Or.inr h5)]
    refine oC_id hR ?_
    rw [st, if_neg (nI_ge h5 (by omega)), b89_20]
  rw [if_neg (fun e => e.elim (fun q => q hx) h5)]
  rw [if_pos (nI_le (by omega) (by omega))] at st
  obtain ⟨T1, g1, g2, g3⟩ := s120q (d := d + 4) ok hR
  obtain ⟨T2, y, z, f1, f2⟩ := s89_loop (d := d) (x := x) ok 120 0 T1 _ (0, 0) g2.1 (n0_ok ok.1.2.1.1 ok.1.2.1.2.1) g3 rfl
  refine oC_Q (QC_tr g2 f2) ?_
  rw [st, b89_24 (wx_k0 hw), g1, hp_bd, hp_tn, b89_33, f1, b89_91, s126q, hp_bd, hp_ts, b89_98]
  rfl
end OL
