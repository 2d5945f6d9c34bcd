/-! ===== sure, in the class ===== -/
def sb (x : Int32) (k : Nat) : Bool := decide (((x >>> (nI k &&& 31)) &&& nI 1) = nI 1)
def ab_wg (s n : Nat) (x : Int32) : Int64 := (List.range n).foldl (fun w k => w * (if sb x k = true then (nI s).toInt64 else (nI 10 - nI s).toInt64)) 1
def ab_wh (P : ab_P) (x : Int32) : Nat → ab_D → Nat → Int32 → Int32
  | 0, D, _, b => if ab_com D = true then -1 else b
  | k + 1, D, n, b => if ab_com D = true then (if ab_ha P D = 1 then (if sb x n = true then ab_wh P x k (ab_does P D 2) (n + 1) b else ab_wh P x k (ab_does P D 1) (n + 1) (b ||| (nI 1 <<< (nI ((ab_row D).headD 0) &&& 31)))) else ab_wh P x k (ab_does P D (ab_ha P D)) n b) else b
def ab_sr (P : ab_P) (D : ab_D) (s b : Nat) (x : Int32) : Nat → Nat → Int64 → Int64 → Int64
  | 0, _, l, a => ab_lt l a x
  | k + 1, i, l, a => if lg_cmp (ab_wg s (ab_row D).length (nI i)) 0 ≤ nI 0 then ab_sr P D s b x k (i + 1) l a else if nI 0 ≤ ab_wh P (nI i) 12 D 0 (nI 0) then (if sb (ab_wh P (nI i) 12 D 0 (nI 0)) b = true then ab_sr P D s b x k (i + 1) (l + ab_wg s (ab_row D).length (nI i)) (a + ab_wg s (ab_row D).length (nI i)) else ab_sr P D s b x k (i + 1) l (a + ab_wg s (ab_row D).length (nI i))) else -9223372036854775808
def an_21 (G : gb_G) (x p : Int32) : Int64 := match ab_kw (gK G) x with
  | none => -9223372036854775808
  | some b => if p = nI 0 ∨ p = nI 1 then ab_sr (gP G) (gD G) (gx_s G.1) b p (2 ^ (ab_row (gD G)).length) 0 0 0 else -9223372036854775808
section SU
variable {S T U : mm_S} {G : gb_G} {P : ab_P} {D E : ab_D} {a b c d n k i j t l e s : Nat} {x w y z p : Int32} {r : List Nat}
theorem sb_t (h : sb x k = true) : ((x >>> (nI k &&& 31)) &&& nI 1) = nI 1 := of_decide_eq_true h
theorem sb_f (h : ¬ sb x k = true) : ¬ (((x >>> (nI k &&& 31)) &&& nI 1) = nI 1) := fun e => h (decide_eq_true e)
theorem s124q (hR : RC S G) (ok : gb_ok G) : mm_cl d 124 [.ref 0, .int x] S = some (some (.long (ab_wg (gx_s G.1) (ab_row (gD G)).length x)), S) := by
  have hw := hR.1
  have hl6 : (ab_row (gD G)).length ≤ 6 := row_le ok.1.1 ok.1.2.1
  have h11 : mm_M S 6 11 = nI (ab_row (gD G)).length := hR.2.1.2.1.1
  have h16 : mm_M S 6 16 = nI (gx_s G.1) := hR.2.1.2.2.1
  have loop : ∀ k i, i + k = (ab_row (gD G)).length → mm_ex d 124 5 [.ref 0, .int x, .long (ab_wg (gx_s G.1) i x), .null, .int (nI i)] [] S = some (some (.long (ab_wg (gx_s G.1) (ab_row (gD G)).length x)), S) := by
    intro k
    induction k with
    | zero =>
      intro i hi
      have e : i = (ab_row (gD G)).length := by omega
      rw [b124_5 (wx_o0 hw) (wx_s0_0 hw) (by rw [wx_g0_0 hw]; exact wx_o6 hw), wx_g0_0 hw, h11, if_pos (nI_le (by omega) (by omega)), b124_58, e]
    | succ k ih =>
      intro i hi
      have e : ab_wg (gx_s G.1) (i + 1) x = ab_wg (gx_s G.1) i x * (if sb x i = true then (nI (gx_s G.1)).toInt64 else (nI 10 - nI (gx_s G.1)).toInt64) := by
        unfold ab_wg
        rw [List.range_succ, List.foldl_append]
        rfl
      have h := ih (i + 1) (by omega)
      rw [e] at h
      rw [b124_5 (wx_o0 hw) (wx_s0_0 hw) (by rw [wx_g0_0 hw]; exact wx_o6 hw), wx_g0_0 hw, h11, if_neg (nI_ge (by omega) (by omega)), b124_17]
      by_cases hb : sb x i = true
      · rw [if_pos hb] at h
        rw [if_pos (sb_t hb), b124_28 (wx_o0 hw) (wx_s0_0 hw) (by rw [wx_g0_0 hw]; exact wx_o6 hw), wx_g0_0 hw, h16, nI_add, h]
      · rw [if_neg hb] at h
        rw [if_neg (sb_f hb), b124_39 (wx_o0 hw) (wx_s0_0 hw) (by rw [wx_g0_0 hw]; exact wx_o6 hw), wx_g0_0 hw, h16, nI_add, h]
  rw [e124, b124_0]
  exact loop _ 0 (Nat.zero_add _)
theorem s125_loop : ∀ (k t : Nat) (S : mm_S) (D : ab_D) (n : Nat) (b : Int32) (v5 v6 : Value), cd_A S 24 P D → t + k = 12 → n ≤ t → ∃ T, mm_ex (d + 5) 125 18 [.ref 0, .int x, .int (nI n), .int b, .int (nI t), v5, v6] [] S = some (some (.int (ab_wh P x k D n b)), T) ∧ cd_fr 24 S T := by
  intro k
  induction k with
  | zero =>
    intro t S D n b v5 v6 hA ht hn
    have hw := hA.1
    refine ⟨S, ?_, fr_rf⟩
    have e : ab_wh P x 0 D n b = if ab_com D = true then -1 else b := rfl
    rw [b125_18, if_pos (nI_le (by omega) (by omega)), b125_118 (wx_o0 hw) (wx_s0_2 hw) (by rw [wx_g0_2 hw]; exact wx_k24 hw), wx_g0_2 hw, s20w hA, hp_bd, hp_ts, b125_125, e]
    cases hc : ab_com D with
    | false => rw [if_pos (by decide), b125_132, if_neg (by decide)]
    | true => rw [if_neg (by decide), b125_128, if_pos rfl]
  | succ k ih =>
    intro t S D n b v5 v6 hA ht hn
    have hw := hA.1
    have e : ab_wh P x (k + 1) D n b = if ab_com D = true then (if ab_ha P D = 1 then (if sb x n = true then ab_wh P x k (ab_does P D 2) (n + 1) b else ab_wh P x k (ab_does P D 1) (n + 1) (b ||| (nI 1 <<< (nI ((ab_row D).headD 0) &&& 31)))) else ab_wh P x k (ab_does P D (ab_ha P D)) n b) else b := rfl
    have st : mm_ex (d + 5) 125 18 [.ref 0, .int x, .int (nI n), .int b, .int (nI t), v5, v6] [] S = mm_ex (d + 5) 125 32 [.ref 0, .int x, .int (nI n), .int b, .int (nI t), v5, v6] [.int (if ab_com D = true then nI 1 else nI 0)] S := by
      rw [b125_18, if_neg (nI_ge (by omega) (by omega)), b125_25 (wx_o0 hw) (wx_s0_2 hw) (by rw [wx_g0_2 hw]; exact wx_k24 hw), wx_g0_2 hw, s20w hA, hp_bd, hp_ts]
    cases hc : ab_com D with
    | false =>
      refine ⟨S, ?_, fr_rf⟩
      rw [st, b125_32, hc, if_pos (by decide), b125_118 (wx_o0 hw) (wx_s0_2 hw) (by rw [wx_g0_2 hw]; exact wx_k24 hw), wx_g0_2 hw, s20w hA, hp_bd, hp_ts, b125_125, hc, if_pos (by decide), b125_132, e, hc, if_neg (by decide)]
    | true =>
      obtain ⟨h, r, hr, hlo⟩ := com_row hc
      have hb : h < ab_kn P := hA.2.2.2.2.2.2.1 h (by rw [hr]; exact List.mem_cons_self)
      have hh6 := Nat.lt_of_lt_of_le hb hA.2.2.2.2.1.1
      have ehd : (ab_row D).headD 0 = h := by rw [hr]; rfl
      have hlen : 0 < (ab_row D).length := by rw [hr]; exact Nat.succ_pos _
      have eha : ab_ha P D = ab_act P D h ((ab_row D).length - 1) := by unfold ab_ha; rw [hr]; rfl
      have edo : ∀ act, ab_does P D act = ab_do P D h r act := fun act => by unfold ab_does; rw [hr]
      have ok3 := @ab_act_ok P D h ((ab_row D).length - 1) hA.2.2.2.2.1 hA.2.2.2.2.2 hb
      obtain ⟨T1, e1, g1, g2, g3, g4⟩ := s19w (d := d + 1) hA hb
      have w1 := g3.1.1
      have hc7 := (cw_k g3).1
      have sd := sdo (d := d + 1) g3 hlen
      have rk := by_k hc7 g3.2.2.1
      have cl : (nI h).toNatClampNeg = h := nI_clamp (by omega)
      have hbi : mm_inb (nI h) 6 = true := hp_inb hh6 (by omega)
      have he : mm_R T1 25 h = some e1 := g4
      have st2 : mm_ex (d + 5) 125 18 [.ref 0, .int x, .int (nI n), .int b, .int (nI t), v5, v6] [] S = mm_ex (d + 5) 125 70 [.ref 0, .int x, .int (nI n), .int b, .int (nI t), .int (nI h), v6] [.int (nI (ab_ha P D))] T1 := by
        rw [st, b125_32, hc, if_neg (by decide), b125_35 (wx_o0 hw) (wx_s0_2 hw) (by rw [wx_g0_2 hw]; exact wx_k24 hw), wx_g0_2 hw, s11h hA hc, ehd, hp_bd, hp_ts, b125_42 (wx_o0 hw) (wx_s0_2 hw) (by rw [wx_g0_2 hw]; exact wx_k24 hw), wx_g0_2 hw, g1, hp_bd, hp_tn, eha]
        rcases k7c hc7 with hk | hk | hk | hk | hk | hk | hk <;> rw [hk] at sd rk
        · rw [b125_53_k0 (wx_o0 w1) (wx_s0_2 w1) (by rw [wx_g0_2 w1]; exact wx_o24 w1) (by rw [wx_g0_2 w1]; exact wx_s24_0 w1) (by rw [wx_g0_2 w1, wx_g24_0 w1, wx_N25 w1]; exact hbi) (by rw [wx_g0_2 w1, wx_g24_0 w1]; exact wx_a25 w1) (by rw [wx_g0_2 w1, wx_g24_0 w1, cl]; exact hp_rs he) (by rw [wx_g0_2 w1, wx_g24_0 w1, cl, hp_rg he]; exact rk), wx_g0_2 w1, wx_g24_0 w1, cl, hp_rg he, show mm_cl (d + 4) 2 [.ref e1, .ref 24] T1 = _ from sd, hp_bd, hp_ts]
        · rw [b125_53_k4 (wx_o0 w1) (wx_s0_2 w1) (by rw [wx_g0_2 w1]; exact wx_o24 w1) (by rw [wx_g0_2 w1]; exact wx_s24_0 w1) (by rw [wx_g0_2 w1, wx_g24_0 w1, wx_N25 w1]; exact hbi) (by rw [wx_g0_2 w1, wx_g24_0 w1]; exact wx_a25 w1) (by rw [wx_g0_2 w1, wx_g24_0 w1, cl]; exact hp_rs he) (by rw [wx_g0_2 w1, wx_g24_0 w1, cl, hp_rg he]; exact rk), wx_g0_2 w1, wx_g24_0 w1, cl, hp_rg he, show mm_cl (d + 4) 32 [.ref e1, .ref 24] T1 = _ from sd, hp_bd, hp_ts]
        · rw [b125_53_k10 (wx_o0 w1) (wx_s0_2 w1) (by rw [wx_g0_2 w1]; exact wx_o24 w1) (by rw [wx_g0_2 w1]; exact wx_s24_0 w1) (by rw [wx_g0_2 w1, wx_g24_0 w1, wx_N25 w1]; exact hbi) (by rw [wx_g0_2 w1, wx_g24_0 w1]; exact wx_a25 w1) (by rw [wx_g0_2 w1, wx_g24_0 w1, cl]; exact hp_rs he) (by rw [wx_g0_2 w1, wx_g24_0 w1, cl, hp_rg he]; exact rk), wx_g0_2 w1, wx_g24_0 w1, cl, hp_rg he, show mm_cl (d + 4) 70 [.ref e1, .ref 24] T1 = _ from sd, hp_bd, hp_ts]
        · rw [b125_53_k2 (wx_o0 w1) (wx_s0_2 w1) (by rw [wx_g0_2 w1]; exact wx_o24 w1) (by rw [wx_g0_2 w1]; exact wx_s24_0 w1) (by rw [wx_g0_2 w1, wx_g24_0 w1, wx_N25 w1]; exact hbi) (by rw [wx_g0_2 w1, wx_g24_0 w1]; exact wx_a25 w1) (by rw [wx_g0_2 w1, wx_g24_0 w1, cl]; exact hp_rs he) (by rw [wx_g0_2 w1, wx_g24_0 w1, cl, hp_rg he]; exact rk), wx_g0_2 w1, wx_g24_0 w1, cl, hp_rg he, show mm_cl (d + 4) 26 [.ref e1, .ref 24] T1 = _ from sd, hp_bd, hp_ts]
        · rw [b125_53_k7 (wx_o0 w1) (wx_s0_2 w1) (by rw [wx_g0_2 w1]; exact wx_o24 w1) (by rw [wx_g0_2 w1]; exact wx_s24_0 w1) (by rw [wx_g0_2 w1, wx_g24_0 w1, wx_N25 w1]; exact hbi) (by rw [wx_g0_2 w1, wx_g24_0 w1]; exact wx_a25 w1) (by rw [wx_g0_2 w1, wx_g24_0 w1, cl]; exact hp_rs he) (by rw [wx_g0_2 w1, wx_g24_0 w1, cl, hp_rg he]; exact rk), wx_g0_2 w1, wx_g24_0 w1, cl, hp_rg he, show mm_cl (d + 4) 56 [.ref e1, .ref 24] T1 = _ from sd, hp_bd, hp_ts]
        · rw [b125_53_k3 (wx_o0 w1) (wx_s0_2 w1) (by rw [wx_g0_2 w1]; exact wx_o24 w1) (by rw [wx_g0_2 w1]; exact wx_s24_0 w1) (by rw [wx_g0_2 w1, wx_g24_0 w1, wx_N25 w1]; exact hbi) (by rw [wx_g0_2 w1, wx_g24_0 w1]; exact wx_a25 w1) (by rw [wx_g0_2 w1, wx_g24_0 w1, cl]; exact hp_rs he) (by rw [wx_g0_2 w1, wx_g24_0 w1, cl, hp_rg he]; exact rk), wx_g0_2 w1, wx_g24_0 w1, cl, hp_rg he, show mm_cl (d + 4) 29 [.ref e1, .ref 24] T1 = _ from sd, hp_bd, hp_ts]
        · rw [b125_53_k9 (wx_o0 w1) (wx_s0_2 w1) (by rw [wx_g0_2 w1]; exact wx_o24 w1) (by rw [wx_g0_2 w1]; exact wx_s24_0 w1) (by rw [wx_g0_2 w1, wx_g24_0 w1, wx_N25 w1]; exact hbi) (by rw [wx_g0_2 w1, wx_g24_0 w1]; exact wx_a25 w1) (by rw [wx_g0_2 w1, wx_g24_0 w1, cl]; exact hp_rs he) (by rw [wx_g0_2 w1, wx_g24_0 w1, cl, hp_rg he]; exact rk), wx_g0_2 w1, wx_g24_0 w1, cl, hp_rg he, show mm_cl (d + 4) 66 [.ref e1, .ref 24] T1 = _ from sd, hp_bd, hp_ts]
      -- what a turn carried out leaves
      have carry : ∀ act, (act = 1 ∨ act = 2 ∨ act = 3) → (act = 3 → ab_may P D h = true) → ∃ T2, mm_cl (d + 4) 22 [.ref 24, .int (nI act)] T1 = some (none, T2) ∧ cd_fr 24 T1 T2 ∧ cd_A T2 24 P (ab_does P D act) := by
        intro act ha hm
        rw [edo]
        exact s22w (d := d + 3) g3.1 hr g3.2.2.2.1 g3.2.2.2.2 ha hlo hm
      rw [e, hc, if_pos rfl]
      by_cases h1 : ab_ha P D = 1
      · rw [if_pos h1]
        by_cases hs : sb x n = true
        · obtain ⟨T2, f1, f2, f3⟩ := carry 2 (Or.inr (Or.inl rfl)) (fun q => by cases q)
          obtain ⟨T3, j1, j2⟩ := ih (t + 1) T2 (ab_does P D 2) (n + 1) b (.int (nI h)) (.int (nI 2)) f3 (by omega) (by omega)
          refine ⟨T3, ?_, fr_tr g2 (fr_tr f2 j2)⟩
          rw [if_pos hs, st2, b125_70, if_pos (by rw [h1]), b125_78, if_pos (sb_t hs), b125_87 (wx_o0 w1) (wx_s0_2 w1) (by rw [wx_g0_2 w1]; exact wx_k24 w1), wx_g0_2 w1, f1, hp_bd, hp_tn, nI_add, b125_112, nI_add]
          exact j1
        · obtain ⟨T2, f1, f2, f3⟩ := carry 1 (Or.inl rfl) (fun q => by cases q)
          obtain ⟨T3, j1, j2⟩ := ih (t + 1) T2 (ab_does P D 1) (n + 1) (b ||| (nI 1 <<< (nI h &&& 31))) (.int (nI h)) (.int (nI 1)) f3 (by omega) (by omega)
          refine ⟨T3, ?_, fr_tr g2 (fr_tr f2 j2)⟩
          rw [if_neg hs, st2, b125_70, h1, if_pos rfl, b125_78, if_neg (sb_f hs), b125_93 (wx_o0 w1) (wx_s0_2 w1) (by rw [wx_g0_2 w1]; exact wx_k24 w1), wx_g0_2 w1, f1, hp_bd, hp_tn, nI_add, b125_112, nI_add, ehd]
          exact j1
      · rw [if_neg h1]
        obtain ⟨T2, f1, f2, f3⟩ := carry (ab_ha P D) (by rw [eha] at h1 ⊢; omega) (by rw [eha]; exact ok3.2.2)
        obtain ⟨T3, j1, j2⟩ := ih (t + 1) T2 (ab_does P D (ab_ha P D)) n b (.int (nI h)) (.int (nI (ab_ha P D))) f3 (by omega) (by omega)
        refine ⟨T3, ?_, fr_tr g2 (fr_tr f2 j2)⟩
        have h3 : ab_ha P D ≤ 3 := by rw [eha]; exact ok3.2.1
        rw [st2, b125_70, if_neg (fun q => h1 ((nI_eq (by omega) (by decide)).mp q)), b125_103 (wx_o0 w1) (wx_s0_2 w1) (by rw [wx_g0_2 w1]; exact wx_k24 w1), wx_g0_2 w1, f1, hp_bd, hp_tn, b125_112, nI_add]
        exact j1
theorem s125q (ok : gb_ok G) (hR : RC S G) : ∃ T, mm_cl (d + 5) 125 [.ref 0, .int x] S = some (some (.int (ab_wh (gP G) x 12 (gD G) 0 (nI 0))), T) ∧ QC S T G := by
  have hw := hR.1
  obtain ⟨g1, g2, g3⟩ := t_copy (d := d + 3) (a := 24) ok hR (Or.inl rfl)
  obtain ⟨T, g4, g5⟩ := s125_loop (d := d) (x := x) 12 0 _ (gD G) 0 (nI 0) .null .null g3 rfl (Nat.le_refl _)
  refine ⟨T, ?_, QC_tr g2 (QC_fr ok g2.1 (Or.inl rfl) g5)⟩
  rw [e125, b125_0 (wx_o0 hw) (wx_s0_2 hw) (wx_s0_0 hw) (by rw [wx_g0_2 hw]; exact wx_k24 hw), wx_g0_2 hw, wx_g0_0 hw, g1, hp_bd, hp_tn, b125_11, g4]
theorem c94_loop (ok : gb_ok G) (hb : b < 6) {m : Nat} (hm : m ≤ 64) : ∀ (k i : Nat) (S : mm_S) (j4 j6 : Int64) (v9 v11 : Value), RC S G → i + k = m → ∃ T, mm_ex (d + 6) 94 43 [.ref 0, .int (nI b), .int x, .int (nI m), .long j4, .null, .long j6, .null, .int (nI i), v9, .null, v11] [] S = some (some (.long (ab_sr (gP G) (gD G) (gx_s G.1) b x k i j4 j6)), T) ∧ QC S T G := by
  intro k
  induction k with
  | zero =>
    intro i S j4 j6 v9 v11 hR hi
    refine ⟨S, ?_, QC_rf hR⟩
    rw [b94_43, if_pos (nI_le (by omega) (by omega)), b94_111, s126q, hp_bd, hp_ts, b94_119]
    rfl
  | succ k ih =>
    intro i S j4 j6 v9 v11 hR hi
    have hw := hR.1
    have e : ab_sr (gP G) (gD G) (gx_s G.1) b x (k + 1) i j4 j6 = if lg_cmp (ab_wg (gx_s G.1) (ab_row (gD G)).length (nI i)) 0 ≤ nI 0 then ab_sr (gP G) (gD G) (gx_s G.1) b x k (i + 1) j4 j6 else if nI 0 ≤ ab_wh (gP G) (nI i) 12 (gD G) 0 (nI 0) then (if sb (ab_wh (gP G) (nI i) 12 (gD G) 0 (nI 0)) b = true then ab_sr (gP G) (gD G) (gx_s G.1) b x k (i + 1) (j4 + ab_wg (gx_s G.1) (ab_row (gD G)).length (nI i)) (j6 + ab_wg (gx_s G.1) (ab_row (gD G)).length (nI i)) else ab_sr (gP G) (gD G) (gx_s G.1) b x k (i + 1) j4 (j6 + ab_wg (gx_s G.1) (ab_row (gD G)).length (nI i))) else -9223372036854775808 := rfl
    have st : mm_ex (d + 6) 94 43 [.ref 0, .int (nI b), .int x, .int (nI m), .long j4, .null, .long j6, .null, .int (nI i), v9, .null, v11] [] S = if lg_cmp (ab_wg (gx_s G.1) (ab_row (gD G)).length (nI i)) 0 ≤ nI 0 then mm_ex (d + 6) 94 105 [.ref 0, .int (nI b), .int x, .int (nI m), .long j4, .null, .long j6, .null, .int (nI i), .long (ab_wg (gx_s G.1) (ab_row (gD G)).length (nI i)), .null, v11] [] S else mm_ex (d + 6) 94 64 [.ref 0, .int (nI b), .int x, .int (nI m), .long j4, .null, .long j6, .null, .int (nI i), .long (ab_wg (gx_s G.1) (ab_row (gD G)).length (nI i)), .null, v11] [] S := by
      rw [b94_43, if_neg (nI_ge (by omega) (by omega)), b94_49 (wx_k0 hw), s124q hR ok, hp_bd, hp_ts, b94_55]
    rw [e]
    by_cases h1 : lg_cmp (ab_wg (gx_s G.1) (ab_row (gD G)).length (nI i)) 0 ≤ nI 0
    · rw [if_pos h1] at st ⊢
      obtain ⟨T, g1, g2⟩ := ih (i + 1) S j4 j6 (.long (ab_wg (gx_s G.1) (ab_row (gD G)).length (nI i))) v11 hR (by omega)
      refine ⟨T, ?_, g2⟩
      rw [st, b94_105, nI_add, g1]
    rw [if_neg h1] at st ⊢
    obtain ⟨T1, f1, f2⟩ := s125q (d := d) (x := nI i) ok hR
    rw [b94_64 (wx_k0 hw), f1, hp_bd, hp_ts, b94_70] at st
    by_cases h2 : nI 0 ≤ ab_wh (gP G) (nI i) 12 (gD G) 0 (nI 0)
    · rw [if_pos h2] at st ⊢
      rw [b94_81] at st
      by_cases h3 : sb (ab_wh (gP G) (nI i) 12 (gD G) 0 (nI 0)) b = true
      · rw [if_pos h3]
        obtain ⟨T, g1, g2⟩ := ih (i + 1) T1 (j4 + ab_wg (gx_s G.1) (ab_row (gD G)).length (nI i)) (j6 + ab_wg (gx_s G.1) (ab_row (gD G)).length (nI i)) (.long (ab_wg (gx_s G.1) (ab_row (gD G)).length (nI i))) (.int (ab_wh (gP G) (nI i) 12 (gD G) 0 (nI 0))) f2.1 (by omega)
        refine ⟨T, ?_, QC_tr f2 g2⟩
        rw [st, if_pos (sb_t h3), b94_98, nI_add, g1]
      · rw [if_neg h3]
        obtain ⟨T, g1, g2⟩ := ih (i + 1) T1 j4 (j6 + ab_wg (gx_s G.1) (ab_row (gD G)).length (nI i)) (.long (ab_wg (gx_s G.1) (ab_row (gD G)).length (nI i))) (.int (ab_wh (gP G) (nI i) 12 (gD G) 0 (nI 0))) f2.1 (by omega)
        refine ⟨T, ?_, QC_tr f2 g2⟩
        rw [st, if_neg (sb_f h3), b94_105, nI_add, g1]
    · rw [if_neg h2] at st ⊢
      refine ⟨T1, ?_, f2⟩
      rw [st, b94_77]
theorem sh_2 : ∀ n, n ≤ 6 → nI 1 <<< (nI n &&& 31) = nI (2 ^ n) := by decide
theorem c_21 (ok : gb_ok G) (hR : RC S G) : oC S (d + 6) 94 [.ref 0, .int x, .int p] (.long (an_21 G x p)) G := by
  have hw := hR.1
  have hk : gK G ≤ 6 := ok.1.1.1
  have hl6 : (ab_row (gD G)).length ≤ 6 := row_le ok.1.1 ok.1.2.1
  have h11 : mm_M S 6 11 = nI (ab_row (gD G)).length := hR.2.1.2.1.1
  unfold an_21
  rcases kw_c hk x with ⟨e, h⟩ | ⟨b, hb, e, rfl⟩
  · have k := s8n (d := d + 5) ok hR e
    rw [e]
    refine oC_id hR ?_
    rw [e94, b94_0 (wx_o0 hw) (wx_s0_0 hw) (by rw [wx_g0_0 hw]; exact wx_k6 hw), wx_g0_0 hw, k, hp_bd, hp_ts, b94_8, if_pos rfl, b94_20]
  have k := s8s (d := d + 5) ok hR hb
  rw [e]
  simp only
  have st : mm_cl (d + 6) 94 [.ref 0, .int (nI b), .int p] S = mm_ex (d + 6) 94 11 [.ref 0, .int (nI b), .int p, .null, .null, .null, .null, .null, .null, .null, .null, .null] [] S := by
    rw [e94, b94_0 (wx_o0 hw) (wx_s0_0 hw) (by rw [wx_g0_0 hw]; exact wx_k6 hw), wx_g0_0 hw, k, hp_bd, hp_ts, b94_8, if_neg i01]
  by_cases hx : p = nI 0 ∨ p = nI 1
  · rw [if_pos hx]
    have hp2 : 2 ^ (ab_row (gD G)).length ≤ 64 := by
      have : 2 ^ (ab_row (gD G)).length ≤ 2 ^ 6 := Nat.pow_le_pow_right (by decide) hl6
      omega
    obtain ⟨T, g1, g2⟩ := c94_loop (d := d) (x := p) ok (b := b) (by omega) hp2 (2 ^ (ab_row (gD G)).length) 0 S 0 0 .null .null hR (Nat.zero_add _)
    refine oC_Q g2 ?_
    have st2 : mm_cl (d + 6) 94 [.ref 0, .int (nI b), .int p] S = mm_ex (d + 6) 94 24 [.ref 0, .int (nI b), .int p, .null, .null, .null, .null, .null, .null, .null, .null, .null] [] S := by
      rw [st, b94_11]
      by_cases x0 : p = nI 0
      · rw [if_pos x0]
      · rw [if_neg x0, b94_15, if_pos (hx.resolve_left x0)]
    rw [st2, b94_24 (wx_o0 hw) (wx_s0_0 hw) (by rw [wx_g0_0 hw]; exact wx_o6 hw), wx_g0_0 hw, h11, sh_2 _ hl6, g1]
  · rw [if_neg hx]
    refine oC_id hR ?_
    rw [st, b94_11, if_neg (fun e => hx (Or.inl e)), b94_15, if_neg (fun e => hx (Or.inr e)), b94_20]
end SU
