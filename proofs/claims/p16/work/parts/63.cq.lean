/-! ===== questions of the class: let by, would ===== -/
section Q3
variable {S T U : mm_S} {G : gb_G} {P : ab_P} {D E : ab_D} {a b c d n k i p : Nat} {x w y t : Int32} {r : List Nat}
theorem sw_perm : ∀ {r : List Nat} {p : Nat}, p + 1 < r.length → (ab_sw r p).Perm r := by
  intro r
  induction r with
  | nil => intro p h; exact absurd h (Nat.not_lt_zero _)
  | cons x r ih =>
    intro p h
    cases p with
    | zero =>
      cases r with
      | nil => exact absurd h (by simp)
      | cons y r => exact List.Perm.swap x y r
    | succ p =>
      have e : ab_sw (x :: r) (p + 1) = x :: ab_sw r p := rfl
      rw [e]
      exact (ih (Nat.lt_of_succ_lt_succ h)).cons x
theorem sw_get {r : List Nat} {p q : Nat} (h : p + 1 < r.length) (hq : q < r.length) : (ab_sw r p).getD q 0 = if q = p + 1 then r.getD p 0 else if q = p then r.getD (p + 1) 0 else r.getD q 0 := by
  unfold ab_sw
  rw [List.getD_eq_getElem?_getD, List.getElem?_set, List.length_set]
  by_cases h1 : p + 1 = q
  · rw [if_pos h1, if_pos h, if_pos h1.symm]; rfl
  · rw [if_neg h1, if_neg (fun e => h1 e.symm), List.getElem?_set]
    by_cases h2 : p = q
    · rw [if_pos h2, if_pos (by omega), if_pos h2.symm]; rfl
    · rw [if_neg h2, if_neg (fun e => h2 e.symm), ← List.getD_eq_getElem?_getD]
theorem sw_len {r : List Nat} {p : Nat} : (ab_sw r p).length = r.length := by unfold ab_sw; rw [List.length_set, List.length_set]
/-- the row of a day written anew -/
theorem A_row {F : Nat → Nat → Prop} (hA : cd_A S a P D) (hw : mm_W T) (h : sf_f F S T) (hF : ∀ c j, F c j → c = a + 6) {l : List Nat} (h1 : l.Nodup) (h2 : ∀ b ∈ l, b < ab_kn P) (hl : l.length = (ab_row D).length) (hv : ∀ p, p < l.length → mm_M T (a + 6) p = nI (l.getD p 0)) : cd_A T a P (gD_row D l) := by
  obtain ⟨-, ha, hP, ⟨d1, d2, d3, d4, d5, d6, d7, d8⟩, oP, oD⟩ := hA
  have ho : sf_o F S := by
    refine ⟨fun c j hc _ e => ?_, fun s m j hs hm e => ?_⟩
    · have := hF _ _ e; unfold mm_dy at ha; omega
    · have := hF _ _ e; unfold mm_sh at hs; unfold mm_dy at ha; omega
  have hx : ∀ m j, m ≠ 6 → ¬ F (a + m) j := fun m j hm e => by have := hF _ _ e; omega
  refine ⟨hw, ha, tr_P h ho (fun m j hm => hx m j (by omega)) hP, ⟨?_, hv, fun b hb => (h.1 _ _ (hx 4 b (by decide))).1.trans (d3 b hb), fun b hb => (h.1 _ _ (hx 5 b (by decide))).1.trans (d4 b hb), (h.1 _ _ (hx 0 _ (by decide))).1.trans d5, (h.1 _ _ (hx 0 _ (by decide))).1.trans d6, (h.1 _ _ (hx 0 _ (by decide))).1.trans d7, (h.1 _ _ (hx 0 _ (by decide))).1.trans d8⟩, oP, okD_row oD h1 h2⟩
  show mm_M T a 11 = nI l.length
  rw [hl]
  exact (h.1 _ _ (hx 0 _ (by decide))).1.trans d1
theorem row_i (ok : gb_ok G) (hi : i < (ab_row (gD G)).length) : (ab_row (gD G)).getD i 0 < gK G := by
  have hm : (ab_row (gD G)).getD i 0 ∈ ab_row (gD G) := by
    rw [List.getD_eq_getElem?_getD, List.getElem?_eq_getElem hi]
    exact List.getElem_mem hi
  exact ok.1.2.1.2.1 _ hm
theorem s117q (ok : gb_ok G) (hR : RC S G) (hE : cd_A S 33 (gP G) (ab_fin (gP G) (gD G))) (hp : p + 1 < (ab_row (gD G)).length) : ∃ T, mm_cl (d + 6) 117 [.ref 0, .int (nI p)] S = some (some (.int (if ab_ls ab_lq (gP G) (gD G) p = true then nI 1 else nI 0)), T) ∧ QC S T G ∧ cd_A T 33 (gP G) (ab_fin (gP G) (gD G)) := by
  have hw := hR.1
  have hl6 : (ab_row (gD G)).length ≤ 6 := row_le ok.1.1 ok.1.2.1
  have hk6 : gK G ≤ 6 := ok.1.1.1
  obtain ⟨g1, g2, g3⟩ := t_copy (d := d + 4) (a := 24) ok hR (Or.inl rfl)
  have w1 := g3.1
  have u0 := row_i ok (show p < (ab_row (gD G)).length by omega)
  have u1 := row_i ok hp
  have r0 : mm_M S 12 p = nI ((ab_row (gD G)).getD p 0) := hR.2.1.2.1.2.1 p (by have : p < (ab_row (gD G)).length := (by omega); exact this)
  have r1 : mm_M S 12 (p + 1) = nI ((ab_row (gD G)).getD (p + 1) 0) := hR.2.1.2.1.2.1 (p + 1) hp
  have c0 : (nI p).toNatClampNeg = p := nI_clamp (by omega)
  have c1 : (nI (p + 1)).toNatClampNeg = p + 1 := nI_clamp (by omega)
  have i0 : mm_inb (nI p) 6 = true := hp_inb (by omega) (by omega)
  have i1 : mm_inb (nI (p + 1)) 6 = true := hp_inb (by omega) (by omega)
  have wV : mm_W (mm_uM (mm_uM (mm_cD S 24 6) 30 p (nI ((ab_row (gD G)).getD (p + 1) 0))) 30 (p + 1) (nI ((ab_row (gD G)).getD p 0))) := w1
  have fV : sf_f (fun c j => c = 24 + 6) (mm_cD S 24 6) (mm_uM (mm_uM (mm_cD S 24 6) 30 p (nI ((ab_row (gD G)).getD (p + 1) 0))) 30 (p + 1) (nI ((ab_row (gD G)).getD p 0))) := sf_tr (sf_uM rfl) (sf_uM rfl)
  have AV : cd_A (mm_uM (mm_uM (mm_cD S 24 6) 30 p (nI ((ab_row (gD G)).getD (p + 1) 0))) 30 (p + 1) (nI ((ab_row (gD G)).getD p 0))) 24 (gP G) (gD_row (gD G) (ab_sw (ab_row (gD G)) p)) := by
    refine A_row g3 wV fV (fun c j h => h) ((sw_perm hp).nodup_iff.mpr ok.1.2.1.1) (fun b hb => ok.1.2.1.2.1 b ((sw_perm hp).mem_iff.mp hb)) sw_len (fun q hq => ?_)
    rw [sw_len] at hq
    rw [sw_get hp hq]
    show mm_M (mm_uM (mm_uM (mm_cD S 24 6) 30 p _) 30 (p + 1) _) 30 q = _
    rw [rdk, rdk]
    by_cases h1 : q = p + 1
    · rw [if_pos h1, if_pos h1]
    · rw [if_neg h1, if_neg h1]
      by_cases h2 : q = p
      · rw [if_pos h2, if_pos h2]
      · rw [if_neg h2, if_neg h2]
        exact g3.2.2.2.1.2.1 q hq
  have qV : QC S (mm_uM (mm_uM (mm_cD S 24 6) 30 p (nI ((ab_row (gD G)).getD (p + 1) 0))) 30 (p + 1) (nI ((ab_row (gD G)).getD p 0))) G := QC_tr g2 (QC_f ok g2.1 (sf_tr (sf_uM (by unfold gc_F; omega)) (sf_uM (by unfold gc_F; omega))) wV rfl rfl)
  have EV : cd_A (mm_uM (mm_uM (mm_cD S 24 6) 30 p (nI ((ab_row (gD G)).getD (p + 1) 0))) 30 (p + 1) (nI ((ab_row (gD G)).getD p 0))) 33 (gP G) (ab_fin (gP G) (gD G)) := A_sf fV wV ⟨fun c j hc _ (e : c = 24 + 6) => by omega, fun s m j hs hm (e : s + m = 24 + 6) => by unfold mm_sh at hs; omega⟩ dy33 (fun m j hm (e : 33 + m = 24 + 6) => by omega) (A_cD dy33 dy24 (by decide) hE)
  obtain ⟨T, g4, g5, g6⟩ := s23 (d := d) AV
  have wT := g6.1
  have ET := A_fr dy33 dy24 g5 (by decide) EV
  have qT := QC_tr qV (QC_fr ok qV.1 (Or.inl rfl) g5)
  refine ⟨T, ?_, qT, ET⟩
  have ca : (nI ((ab_row (gD G)).getD p 0)).toNatClampNeg = (ab_row (gD G)).getD p 0 := nI_clamp (by omega)
  have cb : (nI ((ab_row (gD G)).getD (p + 1) 0)).toNatClampNeg = (ab_row (gD G)).getD (p + 1) 0 := nI_clamp (by omega)
  have ia : mm_inb (nI ((ab_row (gD G)).getD p 0)) 6 = true := hp_inb (by omega) (by omega)
  have ib : mm_inb (nI ((ab_row (gD G)).getD (p + 1) 0)) 6 = true := hp_inb (by omega) (by omega)
  have ga := g6.2.2.2.1.2.2.2.1 _ u0
  have gb := g6.2.2.2.1.2.2.2.1 _ u1
  have ea := ET.2.2.2.1.2.2.2.1 _ u0
  have eb := ET.2.2.2.1.2.2.2.1 _ u1
  rw [e117, b117_0 (wx_o0 hw) (wx_s0_0 hw) (by rw [wx_g0_0 hw]; exact wx_o6 hw) (by rw [wx_g0_0 hw]; exact wx_s6_5 hw) (by rw [wx_g0_0 hw, wx_g6_5 hw, wx_N12 hw]; exact i0) (by rw [wx_g0_0 hw, wx_g6_5 hw]; exact wx_a12 hw) (by rw [nI_add, wx_g0_0 hw, wx_g6_5 hw, wx_N12 hw]; exact i1) (wx_s0_2 hw) (by rw [wx_g0_2 hw]; exact wx_k24 hw), wx_g0_2 hw, wx_g0_0 hw, wx_g6_5 hw, nI_add, c0, c1, r0, r1, g1, hp_bd, hp_tn]
  rw [b117_33 (wx_o0 w1) (wx_s0_2 w1) (by rw [wx_g0_2 w1]; exact wx_o24 w1) (by rw [wx_g0_2 w1]; exact wx_s24_5 w1) (by rw [wx_g0_2 w1, wx_g24_5 w1]; exact wx_a30 w1) (by rw [wx_g0_2 w1, wx_g24_5 w1, wx_N30 w1]; exact i0) (by rw [nI_add, wx_g0_2 w1, wx_g24_5 w1, wx_N30 w1]; exact i1) (by rw [wx_g0_2 w1]; exact wx_k24 w1), nI_add, wx_g0_2 w1, wx_g24_5 w1, c0, c1, g4, hp_bd, hp_tn]
  rw [b117_62 (wx_o0 wT) (wx_s0_2 wT) (by rw [wx_g0_2 wT]; exact wx_o24 wT) (by rw [wx_g0_2 wT]; exact wx_s24_4 wT) (by rw [wx_g0_2 wT, wx_g24_4 wT, wx_N29 wT]; exact ia) (by rw [wx_g0_2 wT, wx_g24_4 wT]; exact wx_a29 wT) (wx_s0_3 wT) (by rw [wx_g0_3 wT]; exact wx_o33 wT) (by rw [wx_g0_3 wT]; exact wx_s33_4 wT) (by rw [wx_g0_3 wT, wx_g33_4 wT, wx_N38 wT]; exact ia) (by rw [wx_g0_3 wT, wx_g33_4 wT]; exact wx_a38 wT) (by rw [wx_g0_2 wT, wx_g24_4 wT, wx_N29 wT]; exact ib) (by rw [wx_g0_3 wT, wx_g33_4 wT, wx_N38 wT]; exact ib), wx_g0_2 wT, wx_g24_4 wT, wx_g0_3 wT, wx_g33_4 wT, ca, cb, show mm_M T 29 _ = _ from ga, show mm_M T 29 _ = _ from gb, show mm_M T 38 _ = _ from ea, show mm_M T 38 _ = _ from eb]
  unfold ab_ls
  generalize ab_ga (ab_fin (gP G) (gD_row (gD G) (ab_sw (ab_row (gD G)) p))) ((ab_row (gD G)).getD p 0) - ab_ga (ab_fin (gP G) (gD G)) ((ab_row (gD G)).getD p 0) = u
  generalize ab_ga (ab_fin (gP G) (gD_row (gD G) (ab_sw (ab_row (gD G)) p))) ((ab_row (gD G)).getD (p + 1) 0) - ab_ga (ab_fin (gP G) (gD G)) ((ab_row (gD G)).getD (p + 1) 0) = v
  unfold ab_lq
  by_cases h1 : u < nI 0
  · rw [if_pos h1, b117_128, decide_eq_false (Int32.not_le.mpr h1)]; rfl
  rw [if_neg h1, b117_109, decide_eq_true (Int32.not_lt.mp h1)]
  by_cases h2 : v < nI 0
  · rw [if_pos h2, b117_128, decide_eq_false (Int32.not_le.mpr h2)]; rfl
  rw [if_neg h2, b117_114, decide_eq_true (Int32.not_lt.mp h2)]
  by_cases h3 : nI 0 < u
  · rw [if_pos h3, b117_124, decide_eq_true h3]; rfl
  rw [if_neg h3, b117_119, decide_eq_false h3]
  by_cases h4 : nI 0 < v
  · rw [if_neg (Int32.not_le.mpr h4), b117_124, decide_eq_true h4]; rfl
  · rw [if_pos (Int32.not_lt.mp h4), b117_128, decide_eq_false h4]; rfl
theorem lb_le {q : Int32 → Int32 → Bool} : ∀ n, (ab_lb q P D n).1 ≤ n ∧ ∀ f, (ab_lb q P D n).2 = some f → f < n := by
  intro n
  induction n with
  | zero => exact ⟨Nat.le_refl _, fun f h => by cases h⟩
  | succ n ih =>
    have e : ab_lb q P D (n + 1) = ab_l1 q P D (ab_lb q P D n) n := by
      unfold ab_lb
      rw [List.range_succ, List.foldl_append]
      rfl
    rw [e]
    unfold ab_l1
    split
    · refine ⟨Nat.succ_le_succ ih.1, fun f h => ?_⟩
      have h : (if (ab_lb q P D n).1 = 0 then some n else (ab_lb q P D n).2) = some f := h
      split at h
      · cases h; omega
      · have := ih.2 f h; omega
    · exact ⟨Nat.le_succ_of_le ih.1, fun f h => Nat.lt_succ_of_lt (ih.2 f h)⟩
theorem c15_loop (ok : gb_ok G) : ∀ (k i : Nat) (S : mm_S), RC S G → cd_A S 33 (gP G) (ab_fin (gP G) (gD G)) → i + k = (ab_row (gD G)).length - 1 → ∃ T, mm_ex (d + 7) 88 37 [.ref 0, .int x, .int (nI (ab_lb ab_lq (gP G) (gD G) i).1), .int (md_fo (ab_lb ab_lq (gP G) (gD G) i).2), .int (nI i)] [] S = mm_ex (d + 7) 88 76 [.ref 0, .int x, .int (nI (ab_lb ab_lq (gP G) (gD G) ((ab_row (gD G)).length - 1)).1), .int (md_fo (ab_lb ab_lq (gP G) (gD G) ((ab_row (gD G)).length - 1)).2), .int (nI ((ab_row (gD G)).length - 1))] [] T ∧ QC S T G := by
  have hl6 : (ab_row (gD G)).length ≤ 6 := row_le ok.1.1 ok.1.2.1
  intro k
  induction k with
  | zero =>
    intro i S hR hE hi
    have hw := hR.1
    have h11 : mm_M S 6 11 = nI (ab_row (gD G)).length := hR.2.1.2.1.1
    have e : i = (ab_row (gD G)).length - 1 := by omega
    subst e
    refine ⟨S, ?_, QC_rf hR⟩
    rw [b88_37 (wx_o0 hw) (wx_s0_0 hw) (by rw [wx_g0_0 hw]; exact wx_o6 hw), wx_g0_0 hw, h11, nI_add, if_pos (nI_le (by omega) (by omega))]
  | succ k ih =>
    intro i S hR hE hi
    have hw := hR.1
    have h11 : mm_M S 6 11 = nI (ab_row (gD G)).length := hR.2.1.2.1.1
    obtain ⟨T1, g1, g2, g3⟩ := s117q (d := d) ok hR hE (p := i) (by omega)
    obtain ⟨T2, g4, g5⟩ := ih (i + 1) T1 g2.1 g3 (by omega)
    have hb := (@lb_le (gP G) (gD G) ab_lq i).1
    have e : ab_lb ab_lq (gP G) (gD G) (i + 1) = ab_l1 ab_lq (gP G) (gD G) (ab_lb ab_lq (gP G) (gD G) i) i := by
      unfold ab_lb
      rw [List.range_succ, List.foldl_append]
      rfl
    refine ⟨T2, ?_, QC_tr g2 g5⟩
    rw [← g4, e, b88_37 (wx_o0 hw) (wx_s0_0 hw) (by rw [wx_g0_0 hw]; exact wx_o6 hw), wx_g0_0 hw, h11, nI_add, if_neg (nI_ge (by omega) (by omega)), b88_51 (wx_k0 hw), g1, hp_bd, hp_ts, b88_57]
    unfold ab_l1
    cases hs : ab_ls ab_lq (gP G) (gD G) i with
    | true =>
      rw [if_pos rfl, if_neg i01, b88_60]
      simp only [if_true]
      by_cases h0 : (ab_lb ab_lq (gP G) (gD G) i).1 = 0
      · rw [if_pos (by rw [h0]), if_pos h0, b88_64, nI_add, nI_add]; rfl
      · rw [if_neg (fun q => h0 ((nI_eq (by omega) (by decide)).mp q)), if_neg h0, b88_67, nI_add, nI_add]
    | false =>
      rw [if_pos (by decide), b88_70, nI_add]
      rfl
theorem c_15 (ok : gb_ok G) (hR : RC S G) : oC S (d + 7) 88 [.ref 0, .int x] (.int (an_15q ab_lq G x)) G := by
  have hw := hR.1
  unfold an_15q
  by_cases hx : x = nI 0 ∨ x = nI 1
  · obtain ⟨f1, f2, f3⟩ := t_copy (d := d + 5) (a := 33) ok hR (Or.inr rfl)
    obtain ⟨T1, g1, g2, g3⟩ := s23 (d := d + 1) f3
    have w1 := f3.1
    have q1 := QC_tr f2 (QC_fr ok f2.1 (Or.inr rfl) g2)
    obtain ⟨T, g4, g5⟩ := c15_loop (d := d) (x := x) ok ((ab_row (gD G)).length - 1) 0 T1 q1.1 g3 (Nat.zero_add _)
    have st : mm_cl (d + 7) 88 [.ref 0, .int x] S = mm_ex (d + 7) 88 76 [.ref 0, .int x, .int (nI (ab_lb ab_lq (gP G) (gD G) ((ab_row (gD G)).length - 1)).1), .int (md_fo (ab_lb ab_lq (gP G) (gD G) ((ab_row (gD G)).length - 1)).2), .int (nI ((ab_row (gD G)).length - 1))] [] T := by
      have h1 : mm_cl (d + 7) 88 [.ref 0, .int x] S = mm_ex (d + 7) 88 11 [.ref 0, .int x, .null, .null, .null] [] S := by
        rw [e88, b88_0]
        by_cases x0 : x = nI 0
        · rw [if_pos x0]
        · rw [if_neg x0, b88_4, if_pos (hx.resolve_left x0)]
      rw [h1, b88_11 (wx_o0 hw) (wx_s0_3 hw) (wx_s0_0 hw) (by rw [wx_g0_3 hw]; exact wx_k33 hw), wx_g0_3 hw, wx_g0_0 hw, f1, hp_bd, hp_tn, b88_22 (wx_o0 w1) (wx_s0_3 w1) (by rw [wx_g0_3 w1]; exact wx_k33 w1), wx_g0_3 w1, g1, hp_bd, hp_tn, b88_29]
      exact g4
    by_cases x0 : x = nI 0
    · rw [if_pos x0]
      refine oC_Q (QC_tr q1 g5) ?_
      rw [st, b88_76, if_pos x0, b88_80]
    · rw [if_neg x0, if_pos (hx.resolve_left x0)]
      refine oC_Q (QC_tr q1 g5) ?_
      rw [st, b88_76, if_neg x0, b88_84]
  · rw [if_neg (fun e => hx (Or.inl e)), if_neg (fun e => hx (Or.inr e))]
    refine oC_id hR ?_
    rw [e88, b88_0, if_neg (fun e => hx (Or.inl e)), b88_4, if_neg (fun e => hx (Or.inr e)), b88_9]
-- would
/-- the row moved back by one, but for places up to i -/
def cd_sh (S : mm_S) (a n i : Nat) : mm_S := mm_wM S (fun c j => if c = a + 6 ∧ i < j ∧ j ≤ n then mm_M S (a + 6) (j - 1) else mm_M S c j)
theorem sh_M {j : Nat} : mm_M (cd_sh S a n i) c j = if c = a + 6 ∧ i < j ∧ j ≤ n then mm_M S (a + 6) (j - 1) else mm_M S c j := id rfl
theorem s15_loop (hw : mm_W S) (ha : mm_dy a) (hn : n < 6) : ∀ i, i ≤ n → mm_ex d 15 24 [.ref a, .int x, .int (nI i)] [] (cd_sh S a n i) = mm_ex d 15 48 [.ref a, .int x, .int (nI 0)] [] (cd_sh S a n 0) := by
  intro i
  induction i with
  | zero => intro _; rw [b15_24, if_pos (by decide)]
  | succ i ih =>
    intro hi
    have w : mm_W (cd_sh S a n (i + 1)) := hw
    have s1 : nI (i + 1) - nI 1 = nI i := by rw [pk_sub (by omega), Nat.add_sub_cancel]
    have m1 : nI (i + 1) + (-1) = nI i := pk_m1 _
    have r1 : mm_M (cd_sh S a n (i + 1)) (a + 6) i = mm_M S (a + 6) i := by rw [sh_M, if_neg (fun e => by omega)]
    rw [b15_24, if_neg (nI_ge (by omega) (by omega)), b15_28 (wd_o w ha) (wd_s5 w ha) (by rw [s1, wd_g5 w ha, wd_N6 w ha]; exact hp_inb (by omega) (by omega)) (by rw [wd_g5 w ha]; exact wd_a6 w ha) (by rw [wd_g5 w ha, wd_N6 w ha]; exact hp_inb (by omega) (by omega)), s1, m1, wd_g5 w ha, nI_clamp (by omega), nI_clamp (by omega), r1, ← ih (by omega)]
    congr 1
    refine st_ext (fun c j => ?_) (fun _ _ => rfl) (fun _ _ => rfl) (fun _ => rfl) (fun _ => rfl) rfl rfl
    rw [hp_MuM, sh_M, sh_M]
    by_cases h : c = a + 6
    · by_cases h2 : j = i + 1
      · rw [if_pos ⟨h, h2⟩, if_pos ⟨h, by omega, by omega⟩, h2, Nat.add_sub_cancel]
      · rw [if_neg (fun e => h2 e.2)]
        by_cases h3 : i + 1 < j ∧ j ≤ n
        · rw [if_pos ⟨h, h3⟩, if_pos ⟨h, by omega, by omega⟩]
        · rw [if_neg (fun e => h3 e.2), if_neg (fun e => by omega)]
    · rw [if_neg (fun e => h e.1), if_neg (fun e => h e.1), if_neg (fun e => h e.1)]
/-- b, who is not in the row, comes to its head -/
theorem s15i (hA : cd_A S a P D) (hb : b < ab_kn P) (hn : b ∉ ab_row D) : ∃ T, mm_ex d 15 9 [.ref a, .int (nI b), .null] [] S = some (none, T) ∧ cd_fr a S T ∧ cd_A T a P (gD_row D (b :: ab_row D)) := by
  have hA' := hA
  obtain ⟨hw, ha, hP, hD, oP, oD⟩ := hA
  have hnd : (b :: ab_row D).Nodup := List.nodup_cons.mpr ⟨hn, oD.1⟩
  have hmb : ∀ c ∈ b :: ab_row D, c < ab_kn P := by
    intro c hc
    rcases List.mem_cons.mp hc with h | h
    · rw [h]; exact hb
    · exact oD.2.1 c h
  have hl : (ab_row D).length + 1 ≤ 6 := by
    have := nd_le _ _ hnd hmb
    rw [List.length_cons] at this
    have := oP.1
    omega
  have lo := s15_loop (d := d) (x := nI b) hw ha (n := (ab_row D).length) (by omega) (ab_row D).length (Nat.le_refl _)
  have z : cd_sh S a (ab_row D).length (ab_row D).length = S := st_ext (fun c j => by rw [sh_M, if_neg (fun e => by omega)]) (fun _ _ => rfl) (fun _ _ => rfl) (fun _ => rfl) (fun _ => rfl) rfl rfl
  rw [z] at lo
  have w1 : mm_W (cd_sh S a (ab_row D).length 0) := hw
  have w2 : mm_W (mm_uM (cd_sh S a (ab_row D).length 0) (a + 6) 0 (nI b)) := hw
  have f1 : cd_fr a S (cd_sh S a (ab_row D).length 0) := by
    refine ⟨rfl, fun c j h => ?_⟩
    rw [sh_M, if_neg (fun e => h (by rw [e.1]; exact dc_6))]
  have f2 := fr_w (x := nI ((ab_row D).length + 1)) (fr_w (x := nI b) (j := 0) f1 dc_6) (dc_a (j := 11) (by decide))
  have m11 : mm_M (mm_uM (cd_sh S a (ab_row D).length 0) (a + 6) 0 (nI b)) a 11 = nI (ab_row D).length := by
    rw [rdn (by omega), sh_M, if_neg (fun e => by omega)]
    exact hD.1
  refine ⟨mm_uM (mm_uM (cd_sh S a (ab_row D).length 0) (a + 6) 0 (nI b)) a 11 (nI ((ab_row D).length + 1)), ?_, f2, fr_W f2 hw, ha, fr_P ha ha f2 hP, ?_, oP, okD_row oD hnd hmb⟩
  · rw [b15_9 (wd_o hw ha), hD.1, if_pos (nI_lt (by omega) (by decide)), b15_19 (wd_o hw ha), hD.1, lo, b15_48 (wd_o w1 ha) (wd_s5 w1 ha) (by rw [wd_g5 w1 ha]; exact wd_a6 w1 ha) (by rw [wd_g5 w1 ha, wd_N6 w1 ha]; decide), wd_g5 w1 ha, nI_clamp (by decide), b15_57 (wd_o (S := mm_uM (cd_sh S a (ab_row D).length 0) (a + 6) 0 (nI b)) w1 ha) (wd_o (S := mm_uM (cd_sh S a (ab_row D).length 0) (a + 6) 0 (nI b)) w1 ha), m11, nI_add]
  · obtain ⟨d1, d2, d3, d4, d5, d6, d7, d8⟩ := hD
    have other : ∀ m j, m ≠ 6 → (m ≠ 0 ∨ j ≠ 11) → mm_M (mm_uM (mm_uM (cd_sh S a (ab_row D).length 0) (a + 6) 0 (nI b)) a 11 (nI ((ab_row D).length + 1))) (a + m) j = mm_M S (a + m) j := by
      intro m j h1 h2
      rw [rdn (by omega), rdn (by omega), sh_M, if_neg (fun e => by omega)]
    refine ⟨rds, fun q hq => ?_, fun b hb => (other 4 b (by decide) (Or.inl (by decide))).trans (d3 b hb), fun b hb => (other 5 b (by decide) (Or.inl (by decide))).trans (d4 b hb), (other 0 _ (by decide) (by decide)).trans d5, (other 0 _ (by decide) (by decide)).trans d6, (other 0 _ (by decide) (by decide)).trans d7, (other 0 _ (by decide) (by decide)).trans d8⟩
    have hq : q < (b :: ab_row D).length := hq
    rw [List.length_cons] at hq
    show _ = nI ((b :: ab_row D).getD q 0)
    rw [rdn (by omega), rdk]
    cases q with
    | zero => rw [if_pos rfl]; rfl
    | succ q =>
      rw [if_neg (by omega), sh_M, if_pos ⟨rfl, by omega, by omega⟩, Nat.add_sub_cancel]
      exact d2 q (by omega)
theorem s15q (hA : cd_A S a P D) (hb : b < ab_kn P) : ∃ T l, mm_cl (d + 1) 15 [.ref a, .int (nI b)] S = some (none, T) ∧ cd_fr a S T ∧ cd_A T a P (gD_row D (b :: l)) := by
  have hw := hA.1
  have ha := hA.2.1
  have k12 := s12b (d := d) hA hb
  have hl := row_le hA.2.2.2.2.1 hA.2.2.2.2.2
  rw [e15, b15_0 (wd_k hw ha), k12, hp_bd, hp_tsc]
  cases hat : ab_at b (ab_row D) with
  | none =>
    obtain ⟨T, g1, g2, g3⟩ := s15i (d := d + 1) hA hb (at_none.mp hat)
    refine ⟨T, ab_row D, ?_, g2, g3⟩
    have k14 : mm_cl d 14 [.ref a, .int (cd_fo none)] S = some (none, S) := by
      show mm_cl d 14 [.ref a, .int (-1)] S = _
      rw [e14, b14_0, if_pos (by decide), b14_12]
    rw [b15_6 (wd_k hw ha), k14, hp_bd, hp_tn, g1]
  | some k =>
    have hk := at_some hat
    obtain ⟨T1, f1, f2, f3⟩ := s14k (d := d) hA hk.1
    have hnb : b ∉ (ab_row D).eraseIdx k := by
      intro hm
      obtain ⟨q, hq, e⟩ := List.mem_iff_getElem.mp hm
      have hlen : ((ab_row D).eraseIdx k).length = (ab_row D).length - 1 := List.length_eraseIdx_of_lt hk.1
      have e2 : ((ab_row D).eraseIdx k)[q]? = some b := by rw [List.getElem?_eq_getElem hq, e]
      rw [List.getElem?_eraseIdx] at e2
      have ek : (ab_row D)[k]? = some b := by
        have := hk.2
        rw [List.getD_eq_getElem?_getD, List.getElem?_eq_getElem hk.1] at this
        rw [List.getElem?_eq_getElem hk.1]
        exact congrArg some this
      have nd := hA.2.2.2.2.2.1
      by_cases h : q < k
      · rw [if_pos h] at e2
        have := (List.getElem?_inj (by omega) nd).mp (e2.trans ek.symm)
        omega
      · rw [if_neg h] at e2
        have := (List.getElem?_inj (by omega) nd).mp (e2.trans ek.symm)
        omega
    obtain ⟨T, g1, g2, g3⟩ := s15i (d := d + 1) f3 hb hnb
    refine ⟨T, (ab_row D).eraseIdx k, ?_, fr_tr f2 g2, g3⟩
    show mm_ex (d + 1) 15 6 _ [.int (nI k), .ref a] S = _
    rw [b15_6 (wd_k hw ha), f1, hp_bd, hp_tn, g1]
theorem c_10 (ok : gb_ok G) (hR : RC S G) : ∃ v, oC S (d + 4) 83 [.ref 0, .int x] (.int v) G := by
  have hw := hR.1
  have hk : gK G ≤ 6 := ok.1.1.1
  rcases kw_c hk x with ⟨e, h⟩ | ⟨b, hb, e, rfl⟩
  · have k := s8n (d := d + 3) ok hR e
    refine ⟨-1, oC_id hR ?_⟩
    rw [e83, b83_0 (wx_o0 hw) (wx_s0_0 hw) (by rw [wx_g0_0 hw]; exact wx_k6 hw), wx_g0_0 hw, k, hp_bd, hp_ts, b83_8, if_pos rfl, b83_11]
  have k := s8s (d := d + 3) ok hR hb
  obtain ⟨f1, f2, f3⟩ := t_copy (d := d + 2) (a := 24) ok hR (Or.inl rfl)
  obtain ⟨T1, l, g1, g2, g3⟩ := s15q (d := d + 2) f3 hb
  obtain ⟨T2, e2, g4, g5, g6, g7⟩ := s19w (d := d) g3 hb
  have w1 := f3.1
  have w2 := g3.1
  have w3 := g6.1.1
  have hc := (cw_k g6).1
  have sd := sdo (d := d) g6 (Nat.succ_pos _)
  have rk := by_k hc g6.2.2.1
  have q := QC_tr f2 (QC_fr ok f2.1 (Or.inl rfl) (fr_tr g2 g5))
  have cl : (nI b).toNatClampNeg = b := nI_clamp (by omega)
  have hbi : mm_inb (nI b) 6 = true := hp_inb (by omega) (by omega)
  have he : mm_R T2 25 b = some e2 := g7
  refine ⟨nI (ab_act (gP G) (gD_row (gD G) (b :: l)) b ((ab_row (gD_row (gD G) (b :: l))).length - 1)), oC_Q q ?_⟩
  rw [e83, b83_0 (wx_o0 hw) (wx_s0_0 hw) (by rw [wx_g0_0 hw]; exact wx_k6 hw), wx_g0_0 hw, k, hp_bd, hp_ts, b83_8, if_neg i01, b83_13 (wx_o0 hw) (wx_s0_2 hw) (wx_s0_0 hw) (by rw [wx_g0_2 hw]; exact wx_k24 hw), wx_g0_2 hw, wx_g0_0 hw, f1, hp_bd, hp_tn, b83_24 (wx_o0 w1) (wx_s0_2 w1) (by rw [wx_g0_2 w1]; exact wx_k24 w1), wx_g0_2 w1, g1, hp_bd, hp_tn, b83_32 (wx_o0 w2) (wx_s0_2 w2) (by rw [wx_g0_2 w2]; exact wx_k24 w2), wx_g0_2 w2, g4, hp_bd, hp_tn]
  have fin : ∀ v, mm_ex (d + 4) 83 56 [.ref 0, .int (nI b)] [.int v] T2 = some (some (.int v), T2) := fun v => by rw [b83_56]
  rcases k7c hc with hk | hk | hk | hk | hk | hk | hk <;> rw [hk] at sd rk
  · rw [b83_40_k0 (wx_o0 w3) (wx_s0_2 w3) (by rw [wx_g0_2 w3]; exact wx_o24 w3) (by rw [wx_g0_2 w3]; exact wx_s24_0 w3) (by rw [wx_g0_2 w3, wx_g24_0 w3, wx_N25 w3]; exact hbi) (by rw [wx_g0_2 w3, wx_g24_0 w3]; exact wx_a25 w3) (by rw [wx_g0_2 w3, wx_g24_0 w3, cl]; exact hp_rs he) (by rw [wx_g0_2 w3, wx_g24_0 w3, cl, hp_rg he]; exact rk), wx_g0_2 w3, wx_g24_0 w3, cl, hp_rg he, show mm_cl (d + 3) 2 [.ref e2, .ref 24] T2 = _ from sd, hp_bd, hp_ts, fin]
  · rw [b83_40_k4 (wx_o0 w3) (wx_s0_2 w3) (by rw [wx_g0_2 w3]; exact wx_o24 w3) (by rw [wx_g0_2 w3]; exact wx_s24_0 w3) (by rw [wx_g0_2 w3, wx_g24_0 w3, wx_N25 w3]; exact hbi) (by rw [wx_g0_2 w3, wx_g24_0 w3]; exact wx_a25 w3) (by rw [wx_g0_2 w3, wx_g24_0 w3, cl]; exact hp_rs he) (by rw [wx_g0_2 w3, wx_g24_0 w3, cl, hp_rg he]; exact rk), wx_g0_2 w3, wx_g24_0 w3, cl, hp_rg he, show mm_cl (d + 3) 32 [.ref e2, .ref 24] T2 = _ from sd, hp_bd, hp_ts, fin]
  · rw [b83_40_k10 (wx_o0 w3) (wx_s0_2 w3) (by rw [wx_g0_2 w3]; exact wx_o24 w3) (by rw [wx_g0_2 w3]; exact wx_s24_0 w3) (by rw [wx_g0_2 w3, wx_g24_0 w3, wx_N25 w3]; exact hbi) (by rw [wx_g0_2 w3, wx_g24_0 w3]; exact wx_a25 w3) (by rw [wx_g0_2 w3, wx_g24_0 w3, cl]; exact hp_rs he) (by rw [wx_g0_2 w3, wx_g24_0 w3, cl, hp_rg he]; exact rk), wx_g0_2 w3, wx_g24_0 w3, cl, hp_rg he, show mm_cl (d + 3) 70 [.ref e2, .ref 24] T2 = _ from sd, hp_bd, hp_ts, fin]
  · rw [b83_40_k2 (wx_o0 w3) (wx_s0_2 w3) (by rw [wx_g0_2 w3]; exact wx_o24 w3) (by rw [wx_g0_2 w3]; exact wx_s24_0 w3) (by rw [wx_g0_2 w3, wx_g24_0 w3, wx_N25 w3]; exact hbi) (by rw [wx_g0_2 w3, wx_g24_0 w3]; exact wx_a25 w3) (by rw [wx_g0_2 w3, wx_g24_0 w3, cl]; exact hp_rs he) (by rw [wx_g0_2 w3, wx_g24_0 w3, cl, hp_rg he]; exact rk), wx_g0_2 w3, wx_g24_0 w3, cl, hp_rg he, show mm_cl (d + 3) 26 [.ref e2, .ref 24] T2 = _ from sd, hp_bd, hp_ts, fin]
  · rw [b83_40_k7 (wx_o0 w3) (wx_s0_2 w3) (by rw [wx_g0_2 w3]; exact wx_o24 w3) (by rw [wx_g0_2 w3]; exact wx_s24_0 w3) (by rw [wx_g0_2 w3, wx_g24_0 w3, wx_N25 w3]; exact hbi) (by rw [wx_g0_2 w3, wx_g24_0 w3]; exact wx_a25 w3) (by rw [wx_g0_2 w3, wx_g24_0 w3, cl]; exact hp_rs he) (by rw [wx_g0_2 w3, wx_g24_0 w3, cl, hp_rg he]; exact rk), wx_g0_2 w3, wx_g24_0 w3, cl, hp_rg he, show mm_cl (d + 3) 56 [.ref e2, .ref 24] T2 = _ from sd, hp_bd, hp_ts, fin]
  · rw [b83_40_k3 (wx_o0 w3) (wx_s0_2 w3) (by rw [wx_g0_2 w3]; exact wx_o24 w3) (by rw [wx_g0_2 w3]; exact wx_s24_0 w3) (by rw [wx_g0_2 w3, wx_g24_0 w3, wx_N25 w3]; exact hbi) (by rw [wx_g0_2 w3, wx_g24_0 w3]; exact wx_a25 w3) (by rw [wx_g0_2 w3, wx_g24_0 w3, cl]; exact hp_rs he) (by rw [wx_g0_2 w3, wx_g24_0 w3, cl, hp_rg he]; exact rk), wx_g0_2 w3, wx_g24_0 w3, cl, hp_rg he, show mm_cl (d + 3) 29 [.ref e2, .ref 24] T2 = _ from sd, hp_bd, hp_ts, fin]
  · rw [b83_40_k9 (wx_o0 w3) (wx_s0_2 w3) (by rw [wx_g0_2 w3]; exact wx_o24 w3) (by rw [wx_g0_2 w3]; exact wx_s24_0 w3) (by rw [wx_g0_2 w3, wx_g24_0 w3, wx_N25 w3]; exact hbi) (by rw [wx_g0_2 w3, wx_g24_0 w3]; exact wx_a25 w3) (by rw [wx_g0_2 w3, wx_g24_0 w3, cl]; exact hp_rs he) (by rw [wx_g0_2 w3, wx_g24_0 w3, cl, hp_rg he]; exact rk), wx_g0_2 w3, wx_g24_0 w3, cl, hp_rg he, show mm_cl (d + 3) 66 [.ref e2, .ref 24] T2 = _ from sd, hp_bd, hp_ts, fin]
end Q3
