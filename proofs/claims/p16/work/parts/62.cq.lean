/-! ===== questions of the class: one price, aunt, let by, would ===== -/
def ab_vs (P : ab_P) (D : ab_D) : List Nat := (ab_row D).map (ab_val P D)
def ab_tk (vs : List Nat) (p : Nat) : Nat := (vs.filter (fun v => decide (p ≤ v))).length
def ab_op (lo : Nat) (vs : List Nat) (s : Nat × Nat) (p : Nat) : Nat × Nat := if s.2 < p * min lo (ab_tk vs p) then (p, p * min lo (ab_tk vs p)) else s
def ab_o1 (P : ab_P) (D : ab_D) (k : Nat) : Nat × Nat := (List.range k).foldl (ab_op (ab_lo D) (ab_vs P D)) (0, 0)
def an_18 (G : gb_G) (x : Int32) : Int32 := if x = nI 0 then nI (ab_o1 (gP G) (gD G) 100).1 else if x = nI 1 then nI (ab_o1 (gP G) (gD G) 100).2 else -1
def ab_au (P : ab_P) (D E : ab_D) (b : Nat) (l : List Nat) (s : Int32) : Int32 := l.foldl (fun s o => if o = b then s else s + (ab_ga D o - ab_ga E o)) s
def an_19 (G : gb_G) (x : Int32) : Int32 := match ab_kw (gK G) x with
  | none => -100001
  | some b => match ab_at b (ab_row (gD G)) with
    | none => -100003
    | some k => ab_au (gP G) (ab_fin (gP G) (gD G)) (ab_fin (gP G) (gD_row (gD G) ((ab_row (gD G)).eraseIdx k))) b (ab_row (gD G)) (nI 0)
def ab_sw (r : List Nat) (p : Nat) : List Nat := (r.set p (r.getD (p + 1) 0)).set (p + 1) (r.getD p 0)
def ab_lq (u v : Int32) : Bool := decide (nI 0 ≤ u) && decide (nI 0 ≤ v) && (decide (nI 0 < u) || decide (nI 0 < v))
def ab_ls (q : Int32 → Int32 → Bool) (P : ab_P) (D : ab_D) (p : Nat) : Bool := q (ab_ga (ab_fin P (gD_row D (ab_sw (ab_row D) p))) ((ab_row D).getD p 0) - ab_ga (ab_fin P D) ((ab_row D).getD p 0)) (ab_ga (ab_fin P (gD_row D (ab_sw (ab_row D) p))) ((ab_row D).getD (p + 1) 0) - ab_ga (ab_fin P D) ((ab_row D).getD (p + 1) 0))
/-- pairs that like it: how many, the first -/
def ab_l1 (q : Int32 → Int32 → Bool) (P : ab_P) (D : ab_D) (s : Nat × Option Nat) (p : Nat) : Nat × Option Nat := if ab_ls q P D p = true then (s.1 + 1, if s.1 = 0 then some p else s.2) else s
def ab_lb (q : Int32 → Int32 → Bool) (P : ab_P) (D : ab_D) (n : Nat) : Nat × Option Nat := (List.range n).foldl (ab_l1 q P D) (0, none)
def an_15q (q : Int32 → Int32 → Bool) (G : gb_G) (x : Int32) : Int32 := if x = nI 0 then nI (ab_lb q (gP G) (gD G) ((ab_row (gD G)).length - 1)).1 else if x = nI 1 then md_fo (ab_lb q (gP G) (gD G) ((ab_row (gD G)).length - 1)).2 else -1
section Q2
variable {S T U : mm_S} {G : gb_G} {P : ab_P} {D E : ab_D} {a b c d n k i p : Nat} {x w y t : Int32} {r : List Nat}
theorem okD_row (oD : ab_okD P D) {l : List Nat} (h1 : l.Nodup) (h2 : ∀ b ∈ l, b < ab_kn P) : ab_okD P (gD_row D l) := ⟨h1, h2, oD.2.2⟩
theorem gF_w (h : gc_F c i) (hR : RC S G) (ok : gb_ok G) : QC S (mm_uM S c i x) G := QC_f ok hR (sf_uM h) hR.1 rfl rfl
-- one price
theorem tk_le {vs : List Nat} : ab_tk vs p ≤ vs.length := List.length_filter_le _ _
theorem tk_s {vs : List Nat} {v : Nat} : ab_tk (vs ++ [v]) p = ab_tk vs p + (if p ≤ v then 1 else 0) := by
  unfold ab_tk
  rw [List.filter_append, List.length_append]
  by_cases h : p ≤ v
  · rw [List.filter_cons_of_pos (by simpa using h), if_pos h]; rfl
  · rw [List.filter_cons_of_neg (by simpa using h), if_neg h]; rfl
theorem s118q (hw : mm_W S) {vs : List Nat} (hl : vs.length ≤ 6) (h11 : mm_M S 6 11 = nI vs.length) (hv : ∀ i, i < vs.length → mm_M S 91 i = nI (vs.getD i 0)) (hb : ∀ v ∈ vs, v < 2 ^ 20) (hp : p < 2 ^ 20) : mm_cl d 118 [.ref 0, .int (nI p)] S = some (some (.int (nI (ab_tk vs p))), S) := by
  have loop : ∀ k i, i + k = vs.length → mm_ex d 118 4 [.ref 0, .int (nI p), .int (nI (ab_tk (vs.take i) p)), .int (nI i)] [] S = some (some (.int (nI (ab_tk vs p))), S) := by
    intro k
    induction k with
    | zero =>
      intro i hi
      have e : i = vs.length := by omega
      rw [b118_4 (wx_o0 hw) (wx_s0_0 hw) (by rw [wx_g0_0 hw]; exact wx_o6 hw), wx_g0_0 hw, h11, if_pos (nI_le (by omega) (by omega)), b118_34, e, List.take_length]
    | succ k ih =>
      intro i hi
      have hil : i < vs.length := by omega
      have cl : (nI i).toNatClampNeg = i := nI_clamp (by omega)
      have et : vs.take (i + 1) = vs.take i ++ [vs.getD i 0] := by
        rw [List.take_add_one, List.getD_eq_getElem?_getD, List.getElem?_eq_getElem hil]
        rfl
      have hvi : vs.getD i 0 < 2 ^ 20 := by
        rw [List.getD_eq_getElem?_getD, List.getElem?_eq_getElem hil]
        exact hb _ (List.getElem_mem hil)
      have hih := ih (i + 1) (by omega)
      rw [et, tk_s] at hih
      rw [b118_4 (wx_o0 hw) (wx_s0_0 hw) (by rw [wx_g0_0 hw]; exact wx_o6 hw), wx_g0_0 hw, h11, if_neg (nI_ge hil (by omega)), b118_15 (wx_o0 hw) (wx_s0_10 hw) (by rw [wx_g0_10 hw, wx_N91 hw]; exact hp_inb (by omega) (by omega)) (by rw [wx_g0_10 hw]; exact wx_a91 hw), wx_g0_10 hw, cl, hv i hil]
      by_cases h : p ≤ vs.getD i 0
      · rw [if_pos h] at hih
        rw [if_neg (nI_nlt h (by omega)), b118_25, nI_add, nI_add, hih]
      · rw [if_neg h] at hih
        rw [if_pos (nI_lt (by omega) (by omega)), b118_28, nI_add]
        exact hih
  rw [e118, b118_0]
  have h := loop vs.length 0 (Nat.zero_add _)
  exact h
theorem o1_le (hlo : ab_lo D ≤ 9) : ∀ k, k ≤ 100 → (ab_o1 P D k).1 ≤ 99 ∧ (ab_o1 P D k).2 ≤ 900 := by
  intro k
  induction k with
  | zero => intro _; exact ⟨Nat.zero_le _, Nat.zero_le _⟩
  | succ k ih =>
    intro hk
    have h := ih (by omega)
    unfold ab_o1 at h ⊢
    rw [List.range_succ, List.foldl_append]
    show (ab_op (ab_lo D) (ab_vs P D) _ k).1 ≤ 99 ∧ (ab_op (ab_lo D) (ab_vs P D) _ k).2 ≤ 900
    unfold ab_op
    split
    · refine ⟨by show k ≤ 99; omega, ?_⟩
      show k * min (ab_lo D) (ab_tk (ab_vs P D) k) ≤ 900
      have h1 : min (ab_lo D) (ab_tk (ab_vs P D) k) ≤ 9 := Nat.le_trans (Nat.min_le_left _ _) hlo
      have h2 : k * min (ab_lo D) (ab_tk (ab_vs P D) k) ≤ 100 * 9 := Nat.mul_le_mul (by omega) h1
      omega
    · exact h
theorem s91_vals (ok : gb_ok G) : ∀ (k i : Nat) (S : mm_S), RC S G → i + k = (ab_row (gD G)).length → (∀ j, j < i → mm_M S 91 j = nI ((ab_vs (gP G) (gD G)).getD j 0)) → ∃ T, mm_ex (d + 4) 91 13 [.ref 0, .int x, .int (nI i), .null, .null, .null] [] S = mm_ex (d + 4) 91 59 [.ref 0, .int x, .int (nI (ab_row (gD G)).length), .null, .null, .null] [] T ∧ QC S T G ∧ ∀ j, j < (ab_row (gD G)).length → mm_M T 91 j = nI ((ab_vs (gP G) (gD G)).getD j 0) := by
  have hl : (ab_row (gD G)).length ≤ 6 := row_le ok.1.1 ok.1.2.1
  intro k
  induction k with
  | zero =>
    intro i S hR hi hv
    have hw := hR.1
    have e : i = (ab_row (gD G)).length := by omega
    subst e
    have h11 : mm_M S 6 11 = nI (ab_row (gD G)).length := hR.2.1.2.1.1
    refine ⟨S, ?_, QC_rf hR, hv⟩
    rw [b91_13 (wx_o0 hw) (wx_s0_0 hw) (by rw [wx_g0_0 hw]; exact wx_o6 hw), wx_g0_0 hw, h11, if_pos (nI_le (Nat.le_refl _) (by omega))]
  | succ k ih =>
    intro i S hR hi hv
    have hw := hR.1
    have hil : i < (ab_row (gD G)).length := by omega
    have h11 : mm_M S 6 11 = nI (ab_row (gD G)).length := hR.2.1.2.1.1
    have cl : (nI i).toNatClampNeg = i := nI_clamp (by omega)
    have hbi : mm_inb (nI i) 6 = true := hp_inb (by omega) (by omega)
    have hm : (ab_row (gD G)).getD i 0 ∈ ab_row (gD G) := by
      rw [List.getD_eq_getElem?_getD, List.getElem?_eq_getElem hil]
      exact List.getElem_mem hil
    have hb : (ab_row (gD G)).getD i 0 < ab_kn (gP G) := ok.1.2.1.2.1 _ hm
    have hA := RC_A ok hR
    have h12 : mm_M S 12 i = nI ((ab_row (gD G)).getD i 0) := hR.2.1.2.1.2.1 i hil
    have k19 := s19 (d := d) hA hb
    have fr := wg_fr (S := S) (a := 6) (b := (ab_row (gD G)).getD i 0) (P := gP G) (D := gD G)
    have q1 : QC S (mm_uM (mm_uM (cd_mw S 6 ((ab_row (gD G)).getD i 0) (gP G) (gD G)) 6 18 (nI (ab_val (gP G) (gD G) ((ab_row (gD G)).getD i 0)))) 6 19 (nI (ab_cost (gP G) (gD G) ((ab_row (gD G)).getD i 0)))) G := by
      refine QC_f ok hR ?_ (fr_W fr hw) (fr_n fr) (fr_z fr)
      unfold cd_mw
      have f14 : ∀ j, gc_F (6 + 8) j := fun j => Or.inr (Or.inr (Or.inl rfl))
      exact sf_tr (sf_tr (sf_tr (sf_tr (sf_tr (sf_tr (sf_tr (sf_tr (sf_uM (f14 0)) (sf_uM (f14 1))) (sf_uM (f14 2))) (sf_uM (f14 3))) (sf_uM (f14 4))) (sf_uM (f14 5))) (sf_uM (f14 6))) (sf_uM (Or.inr (Or.inr (Or.inr ⟨rfl, Or.inl rfl⟩))))) (sf_uM (Or.inr (Or.inr (Or.inr ⟨rfl, Or.inr rfl⟩))))
    have g91 : ∀ j, mm_M (mm_uM (mm_uM (cd_mw S 6 ((ab_row (gD G)).getD i 0) (gP G) (gD G)) 6 18 (nI (ab_val (gP G) (gD G) ((ab_row (gD G)).getD i 0)))) 6 19 (nI (ab_cost (gP G) (gD G) ((ab_row (gD G)).getD i 0)))) 91 j = mm_M S 91 j := fun j => fr.2 91 j (by unfold cd_dc; omega)
    have g18 : mm_M (mm_uM (mm_uM (cd_mw S 6 ((ab_row (gD G)).getD i 0) (gP G) (gD G)) 6 18 (nI (ab_val (gP G) (gD G) ((ab_row (gD G)).getD i 0)))) 6 19 (nI (ab_cost (gP G) (gD G) ((ab_row (gD G)).getD i 0)))) 6 18 = nI (ab_val (gP G) (gD G) ((ab_row (gD G)).getD i 0)) := (rdn (by omega)).trans rds
    generalize mm_uM (mm_uM (cd_mw S 6 ((ab_row (gD G)).getD i 0) (gP G) (gD G)) 6 18 (nI (ab_val (gP G) (gD G) ((ab_row (gD G)).getD i 0)))) 6 19 (nI (ab_cost (gP G) (gD G) ((ab_row (gD G)).getD i 0))) = V at *
    have wV := q1.1.1
    have q2 : QC V (mm_uM V 91 i (nI (ab_val (gP G) (gD G) ((ab_row (gD G)).getD i 0)))) G := gF_w (by unfold gc_F; omega) q1.1 ok
    have evi : (ab_vs (gP G) (gD G)).getD i 0 = ab_val (gP G) (gD G) ((ab_row (gD G)).getD i 0) := by
      unfold ab_vs
      rw [List.getD_eq_getElem?_getD, List.getElem?_map, List.getD_eq_getElem?_getD, List.getElem?_eq_getElem hil]
      rfl
    obtain ⟨T, g1, g2, g3⟩ := ih (i + 1) _ q2.1 (by omega) (fun j hj => by
      rw [rdk]
      by_cases h : j = i
      · rw [if_pos h, h, evi]
      · rw [if_neg h, g91 j]; exact hv j (by omega))
    refine ⟨T, ?_, QC_tr q1 (QC_tr q2 g2), g3⟩
    rw [← g1, b91_13 (wx_o0 hw) (wx_s0_0 hw) (by rw [wx_g0_0 hw]; exact wx_o6 hw), wx_g0_0 hw, h11, if_neg (nI_ge hil (by omega)), b91_24 (wx_o0 hw) (wx_s0_0 hw) (by rw [wx_g0_0 hw]; exact wx_o6 hw) (by rw [wx_g0_0 hw]; exact wx_s6_5 hw) (by rw [wx_g0_0 hw, wx_g6_5 hw, wx_N12 hw]; exact hbi) (by rw [wx_g0_0 hw, wx_g6_5 hw]; exact wx_a12 hw) (by rw [wx_g0_0 hw]; exact wx_k6 hw), wx_g0_0 hw, wx_g6_5 hw, cl, h12, k19, hp_bd, hp_tn, b91_40 (wx_o0 wV) (wx_s0_10 wV) (wx_s0_0 wV) (by rw [wx_g0_0 wV]; exact wx_o6 wV) (by rw [wx_g0_10 wV]; exact wx_a91 wV) (by rw [wx_g0_10 wV, wx_N91 wV]; exact hbi), wx_g0_10 wV, wx_g0_0 wV, cl, g18, nI_add]
theorem s91_best (ok : gb_ok G) (hR : RC S G) (hv : ∀ j, j < (ab_row (gD G)).length → mm_M S 91 j = nI ((ab_vs (gP G) (gD G)).getD j 0)) : ∀ (k i : Nat) (v5 : Value), i + k = 100 → ∃ v, mm_ex (d + 1) 91 66 [.ref 0, .int x, .int (nI (ab_o1 (gP G) (gD G) i).1), .int (nI (ab_o1 (gP G) (gD G) i).2), .int (nI i), v5] [] S = mm_ex (d + 1) 91 112 [.ref 0, .int x, .int (nI (ab_o1 (gP G) (gD G) 100).1), .int (nI (ab_o1 (gP G) (gD G) 100).2), .int (nI 100), v] [] S := by
  have hw := hR.1
  have hl : (ab_row (gD G)).length ≤ 6 := row_le ok.1.1 ok.1.2.1
  have hlo : ab_lo (gD G) ≤ 9 := ok.1.2.1.2.2.2.2
  have h11 : mm_M S 6 11 = nI (ab_vs (gP G) (gD G)).length := by
    unfold ab_vs
    rw [List.length_map]
    exact hR.2.1.2.1.1
  have h13 : mm_M S 6 13 = nI (ab_lo (gD G)) := hR.2.1.2.1.2.2.2.2.2.1
  have hvl : (ab_vs (gP G) (gD G)).length = (ab_row (gD G)).length := List.length_map _
  have hvb : ∀ v ∈ ab_vs (gP G) (gD G), v < 2 ^ 20 := by
    intro v hv
    unfold ab_vs at hv
    obtain ⟨b, hb, rfl⟩ := List.mem_map.mp hv
    have := @ab_val_le (gP G) (gD G) b ok.1.1 (ok.1.2.1.2.1 b hb)
    omega
  intro k
  induction k with
  | zero =>
    intro i v5 hi
    have e : i = 100 := by omega
    subst e
    refine ⟨v5, ?_⟩
    rw [b91_66, if_pos (nI_lt (by decide) (by decide))]
  | succ k ih =>
    intro i v5 hi
    have k118 := s118q (S := S) (d := d) (p := i) hw (vs := ab_vs (gP G) (gD G)) (by omega) h11 (fun j hj => hv j (by omega)) hvb (by omega)
    have htk : ab_tk (ab_vs (gP G) (gD G)) i ≤ 6 := Nat.le_trans tk_le (by omega)
    have emin : (if nI (ab_tk (ab_vs (gP G) (gD G)) i) < nI (ab_lo (gD G)) then nI (ab_tk (ab_vs (gP G) (gD G)) i) else nI (ab_lo (gD G))) = nI (min (ab_lo (gD G)) (ab_tk (ab_vs (gP G) (gD G)) i)) := min_if (by omega) (by omega)
    have hm9 : min (ab_lo (gD G)) (ab_tk (ab_vs (gP G) (gD G)) i) ≤ 9 := Nat.le_trans (Nat.min_le_left _ _) hlo
    have hmul : i * min (ab_lo (gD G)) (ab_tk (ab_vs (gP G) (gD G)) i) ≤ 100 * 9 := Nat.mul_le_mul (by omega) hm9
    have ho := @o1_le (gP G) (gD G) hlo i (by omega)
    have es : ab_o1 (gP G) (gD G) (i + 1) = ab_op (ab_lo (gD G)) (ab_vs (gP G) (gD G)) (ab_o1 (gP G) (gD G) i) i := by
      unfold ab_o1
      rw [List.range_succ, List.foldl_append]
      rfl
    obtain ⟨v, hv2⟩ := ih (i + 1) (.int (nI (i * min (ab_lo (gD G)) (ab_tk (ab_vs (gP G) (gD G)) i)))) (by omega)
    refine ⟨v, ?_⟩
    rw [← hv2, es, b91_66, if_neg (nI_nlt (by omega) (by omega)), b91_73 (wx_o0 hw) (wx_s0_0 hw) (by rw [wx_g0_0 hw]; exact wx_o6 hw) (wx_k0 hw), wx_g0_0 hw, h13, k118, hp_bd, hp_tsc, b91_88, emin, nI_mul]
    unfold ab_op
    by_cases h : (ab_o1 (gP G) (gD G) i).2 < i * min (ab_lo (gD G)) (ab_tk (ab_vs (gP G) (gD G)) i)
    · rw [if_neg (nI_ge h (by omega)), if_pos h, b91_100, nI_add]
    · rw [if_pos (nI_le (by omega) (by omega)), if_neg h, b91_106, nI_add]
theorem c_18 (ok : gb_ok G) (hR : RC S G) : oC S (d + 4) 91 [.ref 0, .int x] (.int (an_18 G x)) G := by
  have hw := hR.1
  unfold an_18
  by_cases hx : x = nI 0 ∨ x = nI 1
  · obtain ⟨T, g1, g2, g3⟩ := s91_vals (d := d) (x := x) ok (ab_row (gD G)).length 0 S hR (Nat.zero_add _) (fun j hj => absurd hj (Nat.not_lt_zero j))
    obtain ⟨v, g4⟩ := s91_best (d := d + 3) (x := x) ok g2.1 g3 100 0 .null rfl
    have g4 : mm_ex (d + 4) 91 66 [.ref 0, .int x, .int (nI 0), .int (nI 0), .int (nI 0), .null] [] T = _ := g4
    have st : mm_cl (d + 4) 91 [.ref 0, .int x] S = mm_ex (d + 4) 91 112 [.ref 0, .int x, .int (nI (ab_o1 (gP G) (gD G) 100).1), .int (nI (ab_o1 (gP G) (gD G) 100).2), .int (nI 100), v] [] T := by
      have h1 : mm_cl (d + 4) 91 [.ref 0, .int x] S = mm_ex (d + 4) 91 11 [.ref 0, .int x, .null, .null, .null, .null] [] S := by
        rw [e91, b91_0]
        by_cases x0 : x = nI 0
        · rw [if_pos x0]
        · rw [if_neg x0, b91_4, if_pos (hx.resolve_left x0)]
      rw [h1, b91_11, g1, b91_59, g4]
    by_cases x0 : x = nI 0
    · rw [if_pos x0]
      refine oC_Q g2 ?_
      rw [st, b91_112, if_pos x0, b91_116]
    · rw [if_neg x0, if_pos (hx.resolve_left x0)]
      refine oC_Q g2 ?_
      rw [st, b91_112, if_neg x0, b91_120]
  · rw [if_neg (fun e => hx (Or.inl e)), if_neg (fun e => hx (Or.inr e))]
    refine oC_id hR ?_
    rw [e91, b91_0, if_neg (fun e => hx (Or.inl e)), b91_4, if_neg (fun e => hx (Or.inr e)), b91_9]
-- one leaves
theorem lv_Dk (hD : cd_D S a c D) (hk : k < (ab_row D).length) : cd_D (cd_lv S a (ab_row D).length k ((ab_row D).length - 1)) a c (gD_row D ((ab_row D).eraseIdx k)) := by
  obtain ⟨h1, h2, h3, h4, h5, h6, h7, h8⟩ := hD
  have hlen : ((ab_row D).eraseIdx k).length = (ab_row D).length - 1 := List.length_eraseIdx_of_lt hk
  refine ⟨?_, fun p hp => ?_, fun b hb => (lv_m (by decide) (by decide)).trans (h3 b hb), fun b hb => (lv_m (by decide) (by decide)).trans (h4 b hb), (lv_0 (by decide)).trans h5, (lv_0 (by decide)).trans h6, (lv_0 (by decide)).trans h7, (lv_0 (by decide)).trans h8⟩
  · rw [lv_11]
    show _ = nI ((ab_row D).eraseIdx k).length
    rw [hlen]
  · have hp : p < ((ab_row D).eraseIdx k).length := hp
    rw [hlen] at hp
    show _ = nI (((ab_row D).eraseIdx k).getD p 0)
    rw [List.getD_eq_getElem?_getD, List.getElem?_eraseIdx]
    by_cases h : p < k
    · rw [lv_6b h, if_pos h, ← List.getD_eq_getElem?_getD]
      exact h2 p (by omega)
    · rw [lv_6 (by omega) hp, if_neg h, ← List.getD_eq_getElem?_getD]
      exact h2 (p + 1) (by omega)
theorem s14k (hA : cd_A S a P D) (hk : k < (ab_row D).length) : ∃ T, mm_cl d 14 [.ref a, .int (nI k)] S = some (none, T) ∧ cd_fr a S T ∧ cd_A T a P (gD_row D ((ab_row D).eraseIdx k)) := by
  obtain ⟨hw, ha, hP, hD, oP, oD⟩ := hA
  have fr := lv_fr (S := S) (a := a) (n := (ab_row D).length) (k := k) (i := (ab_row D).length - 1)
  refine ⟨_, s14 hw ha hD.1 hk (row_le oP oD), fr, fr_W fr hw, ha, fr_P ha ha fr hP, lv_Dk hD hk, oP, okD_row oD ?_ (fun b hb => oD.2.1 b ((List.eraseIdx_sublist _ _).subset hb))⟩
  exact List.Sublist.nodup (List.eraseIdx_sublist _ _) oD.1
theorem c_19l (ok : gb_ok G) (hR : RC S G) (hD : cd_A S 24 (gP G) D) (hE : cd_A S 33 (gP G) E) {b : Nat} (hb : b < gK G) {x2 : Int32} : ∀ (l : List Nat) (i : Nat) (s : Int32) (v5 : Value), ab_row (gD G) = (ab_row (gD G)).take i ++ l → i + l.length = (ab_row (gD G)).length → ∃ v, mm_ex d 92 65 [.ref 0, .int (nI b), .int x2, .int s, .int (nI i), v5] [] S = mm_ex d 92 125 [.ref 0, .int (nI b), .int x2, .int (ab_au (gP G) D E b l s), .int (nI (ab_row (gD G)).length), v] [] S := by
  have hw := hR.1
  have hl6 : (ab_row (gD G)).length ≤ 6 := row_le ok.1.1 ok.1.2.1
  have hk6 : gK G ≤ 6 := ok.1.1.1
  have h11 : mm_M S 6 11 = nI (ab_row (gD G)).length := hR.2.1.2.1.1
  intro l
  induction l with
  | nil =>
    intro i s v5 _ hi
    have e : i = (ab_row (gD G)).length := by simpa using hi
    subst e
    refine ⟨v5, ?_⟩
    rw [b92_65 (wx_o0 hw) (wx_s0_0 hw) (by rw [wx_g0_0 hw]; exact wx_o6 hw), wx_g0_0 hw, h11, if_pos (nI_le (Nat.le_refl _) (by omega))]
    rfl
  | cons o l ih =>
    intro i s v5 hf hi
    rw [List.length_cons] at hi
    have hif : i < (ab_row (gD G)).length := by omega
    have hfi : (ab_row (gD G)).getD i 0 = o := by
      rw [List.getD_eq_getElem?_getD]
      conv => lhs; rw [hf]
      rw [List.getElem?_append_right (by rw [List.length_take]; omega), List.length_take, Nat.min_eq_left (by omega), Nat.sub_self]
      rfl
    have hom : o ∈ ab_row (gD G) := by rw [hf]; exact List.mem_append.mpr (Or.inr List.mem_cons_self)
    have hok : o < ab_kn (gP G) := ok.1.2.1.2.1 o hom
    have hok6 : o < 6 := Nat.lt_of_lt_of_le hok hk6
    have h12 : mm_M S 12 i = nI o := by rw [← hfi]; exact hR.2.1.2.1.2.1 i hif
    have cl : (nI i).toNatClampNeg = i := nI_clamp (by omega)
    have hbi : mm_inb (nI i) 6 = true := hp_inb (by omega) (by omega)
    have co : (nI o).toNatClampNeg = o := nI_clamp (by omega)
    have hoi : mm_inb (nI o) 6 = true := hp_inb (by omega) (by omega)
    have e2 : (nI o = nI b) = (o = b) := propext (nI_eq (by omega) (by omega))
    have g29 : mm_M S 29 o = ab_ga D o := hD.2.2.2.1.2.2.2.1 o hok
    have g38 : mm_M S 38 o = ab_ga E o := hE.2.2.2.1.2.2.2.1 o hok
    have hf' : ab_row (gD G) = (ab_row (gD G)).take (i + 1) ++ l := by
      rw [List.take_add_one]
      conv => lhs; rw [hf]
      rw [List.append_assoc]
      congr 1
      have : (ab_row (gD G))[i]? = some o := by
        rw [List.getD_eq_getElem?_getD, List.getElem?_eq_getElem hif] at hfi
        rw [List.getElem?_eq_getElem hif]
        exact congrArg some hfi
      rw [this]
      rfl
    have st : mm_ex d 92 65 [.ref 0, .int (nI b), .int x2, .int s, .int (nI i), v5] [] S = if nI o = nI b then mm_ex d 92 119 [.ref 0, .int (nI b), .int x2, .int s, .int (nI i), .int (nI o)] [] S else mm_ex d 92 95 [.ref 0, .int (nI b), .int x2, .int s, .int (nI i), .int (nI o)] [] S := by
      rw [b92_65 (wx_o0 hw) (wx_s0_0 hw) (by rw [wx_g0_0 hw]; exact wx_o6 hw), wx_g0_0 hw, h11, if_neg (nI_ge hif (by omega)), b92_77 (wx_o0 hw) (wx_s0_0 hw) (by rw [wx_g0_0 hw]; exact wx_o6 hw) (by rw [wx_g0_0 hw]; exact wx_s6_5 hw) (by rw [wx_g0_0 hw, wx_g6_5 hw, wx_N12 hw]; exact hbi) (by rw [wx_g0_0 hw, wx_g6_5 hw]; exact wx_a12 hw), wx_g0_0 hw, wx_g6_5 hw, cl, h12]
    have es : ab_au (gP G) D E b (o :: l) s = ab_au (gP G) D E b l (if o = b then s else s + (ab_ga D o - ab_ga E o)) := rfl
    by_cases h : o = b
    · obtain ⟨v, hv⟩ := ih (i + 1) s (.int (nI o)) hf' (by omega)
      refine ⟨v, ?_⟩
      rw [st, if_pos (by rw [e2]; exact h), b92_119, nI_add, hv, es, if_pos h]
    · obtain ⟨v, hv⟩ := ih (i + 1) (s + (ab_ga D o - ab_ga E o)) (.int (nI o)) hf' (by omega)
      refine ⟨v, ?_⟩
      rw [st, if_neg (by rw [e2]; exact h), b92_95 (wx_o0 hw) (wx_s0_2 hw) (by rw [wx_g0_2 hw]; exact wx_o24 hw) (by rw [wx_g0_2 hw]; exact wx_s24_4 hw) (by rw [wx_g0_2 hw, wx_g24_4 hw, wx_N29 hw]; exact hoi) (by rw [wx_g0_2 hw, wx_g24_4 hw]; exact wx_a29 hw) (wx_s0_3 hw) (by rw [wx_g0_3 hw]; exact wx_o33 hw) (by rw [wx_g0_3 hw]; exact wx_s33_4 hw) (by rw [wx_g0_3 hw, wx_g33_4 hw, wx_N38 hw]; exact hoi) (by rw [wx_g0_3 hw, wx_g33_4 hw]; exact wx_a38 hw), wx_g0_2 hw, wx_g24_4 hw, wx_g0_3 hw, wx_g33_4 hw, co, g29, g38, nI_add, hv, es, if_neg h]
theorem A_sf {F : Nat → Nat → Prop} (h : sf_f F S T) (hw : mm_W T) (ho : sf_o F S) (ha : mm_dy a) (h0 : ∀ m j, m ≤ 8 → ¬ F (a + m) j) (hA : cd_A S a P D) : cd_A T a P D := ⟨hw, hA.2.1, tr_P h ho (fun m j hm => h0 m j (by omega)) hA.2.2.1, tr_D h (fun m j hm => h0 m j (by omega)) hA.2.2.2.1, hA.2.2.2.2⟩
theorem dc_o (ha : mm_dy a) : sf_o (cd_dc a) S := by
  refine ⟨fun c j hc _ e => ?_, fun s m j hs hm e => ?_⟩
  · unfold cd_dc at e; unfold mm_dy at ha; omega
  · unfold cd_dc at e; unfold mm_sh at hs; unfold mm_dy at ha; omega
theorem gdy_o (ha : mm_dy a) : sf_o (gc_dy a) S := by
  refine ⟨fun c j hc _ e => ?_, fun s m j hs hm e => ?_⟩
  · unfold gc_dy at e; unfold mm_dy at ha; omega
  · unfold gc_dy at e; unfold mm_sh at hs; unfold mm_dy at ha; omega
/-- another day's turns leave a day -/
theorem A_fr (ha : mm_dy a) (hc : mm_dy c) (h : cd_fr c S T) (hac : a ≠ c) (hA : cd_A S a P D) : cd_A T a P D := A_sf (sf_cd h) (fr_W h hA.1) (dc_o hc) ha (fun m j hm e => by unfold cd_dc at e; unfold mm_dy at ha hc; omega) hA
theorem A_cD (ha : mm_dy a) (hc : mm_dy c) (hac : a ≠ c) (hA : cd_A S a P D) : cd_A (mm_cD S c b) a P D := A_sf cD_sf (w_cD hc hA.1) (gdy_o hc) ha (fun m j hm e => by unfold gc_dy at e; unfold mm_dy at ha hc; omega) hA
theorem c_19 (ok : gb_ok G) (hR : RC S G) : oC S (d + 7) 92 [.ref 0, .int x] (.int (an_19 G x)) G := by
  have hw := hR.1
  have hk : gK G ≤ 6 := ok.1.1.1
  have hA := RC_A ok hR
  have hl6 : (ab_row (gD G)).length ≤ 6 := row_le ok.1.1 ok.1.2.1
  unfold an_19
  rcases kw_c hk x with ⟨e, h⟩ | ⟨b, hb, e, rfl⟩
  · have k := s8n (d := d + 6) ok hR e
    rw [e]
    refine oC_id hR ?_
    rw [e92, b92_0 (wx_o0 hw) (wx_s0_0 hw) (by rw [wx_g0_0 hw]; exact wx_k6 hw), wx_g0_0 hw, k, hp_bd, hp_ts, b92_8, if_pos rfl, b92_11]
  have k := s8s (d := d + 6) ok hR hb
  have k12 := s12b (d := d + 6) hA hb
  rw [e]
  have st : mm_cl (d + 7) 92 [.ref 0, .int (nI b)] S = mm_ex (d + 7) 92 22 [.ref 0, .int (nI b), .null, .null, .null, .null] [.int (cd_fo (ab_at b (ab_row (gD G))))] S := by
    rw [e92, b92_0 (wx_o0 hw) (wx_s0_0 hw) (by rw [wx_g0_0 hw]; exact wx_k6 hw), wx_g0_0 hw, k, hp_bd, hp_ts, b92_8, if_neg i01, b92_14 (wx_o0 hw) (wx_s0_0 hw) (by rw [wx_g0_0 hw]; exact wx_k6 hw), wx_g0_0 hw, k12, hp_bd, hp_ts]
  cases hat : ab_at b (ab_row (gD G)) with
  | none =>
    refine oC_id hR ?_
    rw [st, hat, b92_22, if_neg (by decide), b92_27]
    simp only [hat]
  | some p =>
    have hp := (at_some hat).1
    obtain ⟨T1, g1, g2, g3⟩ := s113q (d := d) ok hR
    obtain ⟨f1, f2, f3⟩ := t_copy (d := d + 5) (a := 33) ok g2.1 (Or.inr rfl)
    obtain ⟨T3, h1, h2, h3⟩ := s14k (d := d + 6) f3 hp
    obtain ⟨T4, j1, j2, j3⟩ := s23 (d := d + 1) h3
    have w1 := g2.1.1
    have w2 := f3.1
    have w3 := h3.1
    have w4 := j3.1
    have q4 := QC_tr g2 (QC_tr f2 (QC_fr ok f2.1 (Or.inr rfl) (fr_tr h2 j2)))
    have A24 : cd_A T4 24 (gP G) (ab_fin (gP G) (gD G)) := A_fr dy24 dy33 (fr_tr h2 j2) (by decide) (A_cD dy24 dy33 (by decide) g3)
    obtain ⟨v, hv⟩ := c_19l (d := d + 7) ok q4.1 A24 j3 hb (x2 := nI p) (ab_row (gD G)) 0 (nI 0) .null (by simp) (Nat.zero_add _)
    refine oC_Q q4 ?_
    rw [st, hat]
    show mm_ex (d + 7) 92 22 _ [.int (nI p)] S = _
    rw [b92_22, if_pos (nI_le (Nat.zero_le _) (by omega)), b92_30 (wx_k0 hw), g1, hp_bd, hp_tn, b92_34 (wx_o0 w1) (wx_s0_3 w1) (wx_s0_0 w1) (by rw [wx_g0_3 w1]; exact wx_k33 w1), wx_g0_3 w1, wx_g0_0 w1, f1, hp_bd, hp_tn, b92_45 (wx_o0 w2) (wx_s0_3 w2) (by rw [wx_g0_3 w2]; exact wx_k33 w2), wx_g0_3 w2, h1, hp_bd, hp_tn, b92_53 (wx_o0 w3) (wx_s0_3 w3) (by rw [wx_g0_3 w3]; exact wx_k33 w3), wx_g0_3 w3, j1, hp_bd, hp_tn, b92_60, hv, b92_125]
    simp only [hat]
end Q2
