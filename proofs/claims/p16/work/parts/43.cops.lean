/-! ===== calls of the class ===== -/
def gc_tt (c _j : Nat) : Prop := c = 73 ∨ c = 74
def gc_pp (c _j : Nat) : Prop := 76 ≤ c ∧ c ≤ 87
def gc_rr (c _j : Nat) : Prop := c = 88
def gc_6m (c j : Nat) : Prop := c = 13 ∨ (c = 6 ∧ (j = 16 ∨ j = 17))
section XU
variable {F : Nat → Nat → Prop} {S T : mm_S} {G : gb_G} {X : gb_X} {b i n : Nat} {v : Int32} {o : Option Nat} {l : List Nat} {D : ab_D}
theorem X_fr (hX : gc_X S 6 X) (hv : v = cd_fo o) : gc_X (mm_uM S 8 b v) 6 (gX_P X (gP_fr (gx_P X) b o)) := by
  obtain ⟨⟨p1, p2, p3, p4, p5, s, p6, p7, p8⟩, hD, q1, q2, q3, q4⟩ := hX
  have f : sf_f (fun c j => c = 8 ∧ j = b) S (mm_uM S 8 b v) := sf_uM ⟨rfl, rfl⟩
  refine ⟨⟨(rdn (by omega)).trans p1, (rdn (by omega)).trans p2, fun i hi => ?_, fun i hi => (rdn (by omega)).trans (p4 i hi), fun i hi => ?_, s, p6, p7, tr_cs f (fun m j hm (h : s + m = 8 ∧ j = b) => by unfold mm_sh at p7; omega) p8⟩, tr_D f (fun m j hm (h : 6 + m = 8 ∧ j = b) => by omega) hD, (rdn (by omega)).trans q1, (rdn (by omega)).trans q2, fun i hi => (rdn (by omega)).trans (q3 i hi), q4⟩
  · show mm_M (mm_uM S 8 b v) 8 i = cd_fo (ab_up1 (ab_fr (gx_P X)) b o i)
    rw [rdk]; unfold ab_up1
    by_cases h : i = b
    · rw [if_pos h, if_pos h, hv]
    · rw [if_neg h, if_neg h]; exact p3 i hi
  · obtain ⟨e, he, hb2⟩ := p5 i hi
    exact ⟨e, he, tr_by f (fun j _ (h : e = 8 ∧ j = b) => by have := hb2.1; omega) hb2⟩
theorem X_te (hX : gc_X S 6 X) (hv : v = nI n) : gc_X (mm_uM S 9 b v) 6 (gX_P X (gP_te (gx_P X) b n)) := by
  obtain ⟨⟨p1, p2, p3, p4, p5, s, p6, p7, p8⟩, hD, q1, q2, q3, q4⟩ := hX
  have f : sf_f (fun c j => c = 9 ∧ j = b) S (mm_uM S 9 b v) := sf_uM ⟨rfl, rfl⟩
  refine ⟨⟨(rdn (by omega)).trans p1, (rdn (by omega)).trans p2, fun i hi => (rdn (by omega)).trans (p3 i hi), fun i hi => ?_, fun i hi => ?_, s, p6, p7, tr_cs f (fun m j hm (h : s + m = 9 ∧ j = b) => by unfold mm_sh at p7; omega) p8⟩, tr_D f (fun m j hm (h : 6 + m = 9 ∧ j = b) => by omega) hD, (rdn (by omega)).trans q1, (rdn (by omega)).trans q2, fun i hi => (rdn (by omega)).trans (q3 i hi), q4⟩
  · show mm_M (mm_uM S 9 b v) 9 i = nI (ab_up1 (ab_te (gx_P X)) b n i)
    rw [rdk]; unfold ab_up1
    by_cases h : i = b
    · rw [if_pos h, if_pos h, hv]
    · rw [if_neg h, if_neg h]; exact p4 i hi
  · obtain ⟨e, he, hb2⟩ := p5 i hi
    exact ⟨e, he, tr_by f (fun j _ (h : e = 9 ∧ j = b) => by have := hb2.1; omega) hb2⟩
theorem X_D (h : sf_f F S T) (hF : ∀ c j, F c j → (c = 6 ∧ ((11 ≤ j ∧ j ≤ 15) ∨ j = 18 ∨ j = 19)) ∨ c = 10 ∨ c = 11 ∨ c = 12 ∨ c = 14) (hX : gc_X S 6 X) (hD : cd_D T 6 (ab_kn (gx_P X)) D) : gc_X T 6 (gX_D X D) := by
  obtain ⟨hP, -, q1, q2, q3, q4⟩ := hX
  have ho : sf_o F S := by
    refine ⟨fun c j hc _ e => ?_, fun s m j hs hm e => ?_⟩
    · have := hF _ _ e; omega
    · have := hF _ _ e; unfold mm_sh at hs; omega
  have hx : ∀ c j, ¬ ((c = 6 ∧ ((11 ≤ j ∧ j ≤ 15) ∨ j = 18 ∨ j = 19)) ∨ c = 10 ∨ c = 11 ∨ c = 12 ∨ c = 14) → ¬ F c j := fun c j n e => n (hF c j e)
  exact ⟨tr_P h ho (fun m j hm => hx _ _ (by omega)) hP, hD, (h.1 _ _ (hx _ _ (by omega))).1.trans q1, (h.1 _ _ (hx _ _ (by omega))).1.trans q2, fun i hi => (h.1 _ _ (hx _ _ (by omega))).1.trans (q3 i hi), (h.1 _ _ (hx _ _ (by omega))).2.2.trans q4⟩
theorem X_m (h : sf_f gc_6m S T) (hX : gc_X S 6 X) : cd_P T 6 (gx_P X) ∧ cd_D T 6 (ab_kn (gx_P X)) (gx_D X) ∧ mm_R T 6 8 = some (gc_ad (gx_h X)) := by
  have ho : sf_o gc_6m S := by
    refine ⟨fun c j hc _ e => ?_, fun s m j hs hm e => ?_⟩
    · unfold gc_6m at e; omega
    · unfold gc_6m at e; unfold mm_sh at hs; omega
  exact ⟨tr_P h ho (fun m j hm => by unfold gc_6m; omega) hX.1, tr_D h (fun m j hm => by unfold gc_6m; omega) hX.2.1, (h.1 _ _ (by unfold gc_6m; omega)).2.2.trans hX.2.2.2.2.2⟩
theorem RC_t (ok : gb_ok G) (h : sf_f gc_tt S T) (hw : mm_W T) (hR : RC S G) (ht : gc_t T l) : RC T (gS_t G l) := by
  have ho : sf_o gc_tt S := by
    refine ⟨fun c j hc _ e => ?_, fun s m j hs hm e => ?_⟩
    · unfold gc_tt at e; omega
    · unfold gc_tt at e; unfold mm_sh at hs; omega
  obtain ⟨-, h1, h2, h3, h4, h5, h6, h7, h8⟩ := hR
  refine ⟨hw, tr_X h ho (fun m j hm => ?_) h1, tr_q h (fun j => ?_) ?_ h2, tr_q h (fun j => ?_) ?_ h3, tr_i h ho ?_ (fun c j a b => ?_) h4, tr_s ok.2.2.1 h ho ?_ h5, ht, tr_p h (fun c j a b => ?_) h7, tr_r h (fun j => ?_) h8⟩ <;> (unfold gc_tt; omega)
theorem RC_p (ok : gb_ok G) {f : Nat → Int32 × Nat × (Nat → Int64)} (h : sf_f gc_pp S T) (hw : mm_W T) (hR : RC S G) (ht : gc_p T f) : RC T (gS_p G f) := by
  have ho : sf_o gc_pp S := by
    refine ⟨fun c j hc _ e => ?_, fun s m j hs hm e => ?_⟩
    · unfold gc_pp at e; omega
    · unfold gc_pp at e; unfold mm_sh at hs; omega
  obtain ⟨-, h1, h2, h3, h4, h5, h6, h7, h8⟩ := hR
  refine ⟨hw, tr_X h ho (fun m j hm => ?_) h1, tr_q h (fun j => ?_) ?_ h2, tr_q h (fun j => ?_) ?_ h3, tr_i h ho ?_ (fun c j a b => ?_) h4, tr_s ok.2.2.1 h ho ?_ h5, tr_t h ?_ (fun j => ?_) h6, ht, tr_r h (fun j => ?_) h8⟩ <;> (unfold gc_pp; omega)
theorem RC_r (ok : gb_ok G) (h : sf_f gc_rr S T) (hw : mm_W T) (hR : RC S G) (ht : gc_r T l) : RC T (gS_r G l) := by
  have ho : sf_o gc_rr S := by
    refine ⟨fun c j hc _ e => ?_, fun s m j hs hm e => ?_⟩
    · unfold gc_rr at e; omega
    · unfold gc_rr at e; unfold mm_sh at hs; omega
  obtain ⟨-, h1, h2, h3, h4, h5, h6, h7, h8⟩ := hR
  refine ⟨hw, tr_X h ho (fun m j hm => ?_) h1, tr_q h (fun j => ?_) ?_ h2, tr_q h (fun j => ?_) ?_ h3, tr_i h ho ?_ (fun c j a b => ?_) h4, tr_s ok.2.2.1 h ho ?_ h5, tr_t h ?_ (fun j => ?_) h6, tr_p h (fun c j a b => ?_) h7, ht⟩ <;> (unfold gc_rr; omega)
theorem tt_0 (h : sf_f gc_tt S T) : sf_f gc_0 S T := sf_mo h (fun c j h => by unfold gc_tt at h; unfold gc_0; omega)
theorem pp_0 (h : sf_f gc_pp S T) : sf_f gc_0 S T := sf_mo h (fun c j h => by unfold gc_pp at h; unfold gc_0; omega)
theorem rr_0 (h : sf_f gc_rr S T) : sf_f gc_0 S T := sf_mo h (fun c j h => by unfold gc_rr at h; unfold gc_0; omega)
theorem m6_6 (h : sf_f gc_6m S T) : sf_f gc_6 S T := sf_mo h (fun c j h => by unfold gc_6m at h; unfold gc_6; omega)
theorem ok_D (ok : gb_ok G) (h : ab_okD (gP G) D) : gb_ok (gX_D G.1 D, G.2) := ⟨⟨ok.1.1, h, ok.1.2.2⟩, ok.2⟩
theorem okD_back (ok : gb_ok G) (hb : b < gK G) (hn : b ∉ ab_row (gD G)) : ab_okD (gP G) (gD_row (gD G) (ab_row (gD G) ++ [b])) := by
  obtain ⟨h1, h2, h3, h4, h5⟩ := ok.1.2.1
  refine ⟨?_, ?_, h3, h4, h5⟩
  · show (ab_row (gD G) ++ [b]).Nodup
    rw [List.nodup_append]
    refine ⟨h1, by simp, ?_⟩
    intro x hx y hy e
    have : y = b := by simpa using hy
    subst e this
    exact hn hx
  · intro x hx
    have hx : x ∈ ab_row (gD G) ++ [b] := hx
    rcases List.mem_append.mp hx with h | h
    · exact h2 x h
    · have : x = b := by simpa using h
      subst this; exact hb
theorem at_app : ∀ {r : List Nat}, b ∉ r → ab_at b (r ++ [b]) = some r.length := by
  intro r
  induction r with
  | nil => intro _; unfold ab_at; simp
  | cons y r ih =>
    intro h
    have h1 : ¬ y = b := fun e => h (by rw [e]; exact List.mem_cons_self)
    show (if y = b then some 0 else (ab_at b (r ++ [b])).map (· + 1)) = _
    rw [if_neg h1, ih (fun e => h (List.mem_cons_of_mem _ e))]
    rfl
end XU
section C1
variable {S T : mm_S} {G : gb_G} {d b n : Nat} {x y w p t i o j : Int32}
theorem c_3 (ok : gb_ok G) (hR : RC S G) : oC S (d + 1) 76 [.ref 0, .int x, .int y] (.int (op_3 G x y).1) (op_3 G x y).2 := by
  have hw := hR.1
  have hk : gK G ≤ 6 := ok.1.1.1
  rcases kw_c hk x with ⟨e, h⟩ | ⟨b, hb, e, rfl⟩
  · have k := s8n (d := d) ok hR e
    have eo : op_3 G x y = (-1, G) := by unfold op_3; simp only [e]
    rw [eo]
    refine oC_id hR ?_
    by_cases hy : y = -1 <;> simp only [b76_0, b76_5, b76_9, b76_19, b76_22, b76_26, b76_34, b76_37, b76_39, b76_44, b76_47, b76_59, e76, wx_o0 hw, wx_k0 hw, wx_q0 hw, wx_g0_0 hw, wx_s0_0 hw, wx_g0_1 hw, wx_s0_1 hw, wx_g0_2 hw, wx_s0_2 hw, wx_g0_3 hw, wx_s0_3 hw, wx_g0_4 hw, wx_s0_4 hw, wx_N42 hw, wx_a42 hw, wx_K42 hw, wx_g0_5 hw, wx_s0_5 hw, wx_g0_6 hw, wx_s0_6 hw, wx_N75 hw, wx_a75 hw, wx_K75 hw, wx_g0_7 hw, wx_s0_7 hw, wx_N88 hw, wx_a88 hw, wx_g0_8 hw, wx_s0_8 hw, wx_N89 hw, wx_a89 hw, wx_g0_9 hw, wx_s0_9 hw, wx_N90 hw, wx_a90 hw, wx_g0_10 hw, wx_s0_10 hw, wx_N91 hw, wx_a91 hw, wx_o6 hw, wx_k6 hw, wx_q6 hw, wx_g6_0 hw, wx_s6_0 hw, wx_N7 hw, wx_a7 hw, wx_K7 hw, wx_g6_1 hw, wx_s6_1 hw, wx_N8 hw, wx_a8 hw, wx_g6_2 hw, wx_s6_2 hw, wx_N9 hw, wx_a9 hw, wx_g6_3 hw, wx_s6_3 hw, wx_N10 hw, wx_a10 hw, wx_g6_4 hw, wx_s6_4 hw, wx_N11 hw, wx_a11 hw, wx_g6_5 hw, wx_s6_5 hw, wx_N12 hw, wx_a12 hw, wx_g6_6 hw, wx_s6_6 hw, wx_N13 hw, wx_a13 hw, wx_g6_7 hw, wx_s6_7 hw, wx_N14 hw, wx_a14 hw, List.not_mem_nil, false_implies, implies_true, nI_clamp, nI_add, Nat.reducePow, hp_bd, hp_bdi, hp_ts, hp_tn, hp_tsc, hp_tnc, Nat.reduceAdd, Nat.reduceSub, Nat.reduceMul, Nat.reduceLT, Nat.reduceLeDiff, Nat.reduceEqDiff, reduceIte, not_true_eq_false, not_false_eq_true, and_true, true_and, and_self, and_false, false_and, or_true, true_or, or_false, false_or, decide_true, decide_false, Bool.and_true, Bool.true_and, Bool.not_false, Bool.or_false, Bool.false_or, Bool.or_true, Bool.true_or, i01, k, hy]
  · have k := s8s (d := d) ok hR hb
    have cl : (nI b).toNatClampNeg = b := nI_clamp (by omega)
    have hbi : mm_inb (nI b) 6 = true := hp_inb (by omega) (by omega)
    have hg : mm_M S 8 b = cd_fo (ab_fr (gP G) b) := hR.2.1.1.2.2.1 b hb
    have f1 : ∀ k, ab_fr (gP G) b = some k → k < 2 ^ 31 := fun k h => by have := (ok.1.1.2.2.2.2.1 b k hb h).1; have hk : ab_kn (gP G) ≤ 6 := hk; have : k < ab_kn (gP G) := this; omega
    have k108 := fo_108 (d := d) (S := S) f1
    have nb : ¬ (-1 : Int32) = nI b := by
      intro e
      have h1 := congrArg Int32.toInt e
      rw [nI_toInt (by omega)] at h1
      have h2 : (-1 : Int32).toInt = -1 := rfl
      omega
    by_cases hy : y = -1
    · subst hy
      have eo : op_3 G (nI b) (-1) = (md_fo (ab_fr (gP G) b), gX_P G.1 (gP_fr (gP G) b none), G.2) := by unfold op_3; simp only [e, if_true]
      rw [eo]
      refine oC_6 ok hR (T := mm_uM S 8 b (-1)) ?_ (sf_uM (by unfold gc_6; omega)) hw (X_fr hR.2.1 rfl) hR.2.2.1 (sz_s rfl rfl)
      simp only [b76_0, b76_5, b76_9, b76_19, b76_22, b76_26, b76_34, b76_37, b76_39, b76_44, b76_47, b76_59, e76, wx_o0 hw, wx_k0 hw, wx_q0 hw, wx_g0_0 hw, wx_s0_0 hw, wx_g0_1 hw, wx_s0_1 hw, wx_g0_2 hw, wx_s0_2 hw, wx_g0_3 hw, wx_s0_3 hw, wx_g0_4 hw, wx_s0_4 hw, wx_N42 hw, wx_a42 hw, wx_K42 hw, wx_g0_5 hw, wx_s0_5 hw, wx_g0_6 hw, wx_s0_6 hw, wx_N75 hw, wx_a75 hw, wx_K75 hw, wx_g0_7 hw, wx_s0_7 hw, wx_N88 hw, wx_a88 hw, wx_g0_8 hw, wx_s0_8 hw, wx_N89 hw, wx_a89 hw, wx_g0_9 hw, wx_s0_9 hw, wx_N90 hw, wx_a90 hw, wx_g0_10 hw, wx_s0_10 hw, wx_N91 hw, wx_a91 hw, wx_o6 hw, wx_k6 hw, wx_q6 hw, wx_g6_0 hw, wx_s6_0 hw, wx_N7 hw, wx_a7 hw, wx_K7 hw, wx_g6_1 hw, wx_s6_1 hw, wx_N8 hw, wx_a8 hw, wx_g6_2 hw, wx_s6_2 hw, wx_N9 hw, wx_a9 hw, wx_g6_3 hw, wx_s6_3 hw, wx_N10 hw, wx_a10 hw, wx_g6_4 hw, wx_s6_4 hw, wx_N11 hw, wx_a11 hw, wx_g6_5 hw, wx_s6_5 hw, wx_N12 hw, wx_a12 hw, wx_g6_6 hw, wx_s6_6 hw, wx_N13 hw, wx_a13 hw, wx_g6_7 hw, wx_s6_7 hw, wx_N14 hw, wx_a14 hw, List.not_mem_nil, false_implies, implies_true, nI_clamp, nI_add, Nat.reducePow, hp_bd, hp_bdi, hp_ts, hp_tn, hp_tsc, hp_tnc, Nat.reduceAdd, Nat.reduceSub, Nat.reduceMul, Nat.reduceLT, Nat.reduceLeDiff, Nat.reduceEqDiff, reduceIte, not_true_eq_false, not_false_eq_true, and_true, true_and, and_self, and_false, false_and, or_true, true_or, or_false, false_or, decide_true, decide_false, Bool.and_true, Bool.true_and, Bool.not_false, Bool.or_false, Bool.false_or, Bool.or_true, Bool.true_or, i01, k, cl, hbi, hg, k108, nb]
    · rcases kw_c hk y with ⟨ey, hy2⟩ | ⟨q, hq, ey, rfl⟩
      · have k2 := s8n (d := d) ok hR ey
        have eo : op_3 G (nI b) y = (-1, G) := by unfold op_3; simp only [e, ey, hy, if_false]
        rw [eo]
        refine oC_id hR ?_
        simp only [b76_0, b76_5, b76_9, b76_19, b76_22, b76_26, b76_34, b76_37, b76_39, b76_44, b76_47, b76_59, e76, wx_o0 hw, wx_k0 hw, wx_q0 hw, wx_g0_0 hw, wx_s0_0 hw, wx_g0_1 hw, wx_s0_1 hw, wx_g0_2 hw, wx_s0_2 hw, wx_g0_3 hw, wx_s0_3 hw, wx_g0_4 hw, wx_s0_4 hw, wx_N42 hw, wx_a42 hw, wx_K42 hw, wx_g0_5 hw, wx_s0_5 hw, wx_g0_6 hw, wx_s0_6 hw, wx_N75 hw, wx_a75 hw, wx_K75 hw, wx_g0_7 hw, wx_s0_7 hw, wx_N88 hw, wx_a88 hw, wx_g0_8 hw, wx_s0_8 hw, wx_N89 hw, wx_a89 hw, wx_g0_9 hw, wx_s0_9 hw, wx_N90 hw, wx_a90 hw, wx_g0_10 hw, wx_s0_10 hw, wx_N91 hw, wx_a91 hw, wx_o6 hw, wx_k6 hw, wx_q6 hw, wx_g6_0 hw, wx_s6_0 hw, wx_N7 hw, wx_a7 hw, wx_K7 hw, wx_g6_1 hw, wx_s6_1 hw, wx_N8 hw, wx_a8 hw, wx_g6_2 hw, wx_s6_2 hw, wx_N9 hw, wx_a9 hw, wx_g6_3 hw, wx_s6_3 hw, wx_N10 hw, wx_a10 hw, wx_g6_4 hw, wx_s6_4 hw, wx_N11 hw, wx_a11 hw, wx_g6_5 hw, wx_s6_5 hw, wx_N12 hw, wx_a12 hw, wx_g6_6 hw, wx_s6_6 hw, wx_N13 hw, wx_a13 hw, wx_g6_7 hw, wx_s6_7 hw, wx_N14 hw, wx_a14 hw, List.not_mem_nil, false_implies, implies_true, nI_clamp, nI_add, Nat.reducePow, hp_bd, hp_bdi, hp_ts, hp_tn, hp_tsc, hp_tnc, Nat.reduceAdd, Nat.reduceSub, Nat.reduceMul, Nat.reduceLT, Nat.reduceLeDiff, Nat.reduceEqDiff, reduceIte, not_true_eq_false, not_false_eq_true, and_true, true_and, and_self, and_false, false_and, or_true, true_or, or_false, false_or, decide_true, decide_false, Bool.and_true, Bool.true_and, Bool.not_false, Bool.or_false, Bool.false_or, Bool.or_true, Bool.true_or, i01, k, k2, hy]
      · have k2 := s8s (d := d) ok hR hq
        have e2 : (nI q = nI b) = (q = b) := propext (nI_eq (by omega) (by omega))
        have hyb : q = b → ¬ nI b = -1 := fun e => e ▸ hy
        by_cases hqb : q = b
        · have hyb := hyb hqb
          have eo : op_3 G (nI b) (nI q) = (-2, G) := by unfold op_3; simp only [e, ey, hy, hyb, if_false, hqb, if_true]
          rw [eo]
          refine oC_id hR ?_
          simp only [b76_0, b76_5, b76_9, b76_19, b76_22, b76_26, b76_34, b76_37, b76_39, b76_44, b76_47, b76_59, e76, wx_o0 hw, wx_k0 hw, wx_q0 hw, wx_g0_0 hw, wx_s0_0 hw, wx_g0_1 hw, wx_s0_1 hw, wx_g0_2 hw, wx_s0_2 hw, wx_g0_3 hw, wx_s0_3 hw, wx_g0_4 hw, wx_s0_4 hw, wx_N42 hw, wx_a42 hw, wx_K42 hw, wx_g0_5 hw, wx_s0_5 hw, wx_g0_6 hw, wx_s0_6 hw, wx_N75 hw, wx_a75 hw, wx_K75 hw, wx_g0_7 hw, wx_s0_7 hw, wx_N88 hw, wx_a88 hw, wx_g0_8 hw, wx_s0_8 hw, wx_N89 hw, wx_a89 hw, wx_g0_9 hw, wx_s0_9 hw, wx_N90 hw, wx_a90 hw, wx_g0_10 hw, wx_s0_10 hw, wx_N91 hw, wx_a91 hw, wx_o6 hw, wx_k6 hw, wx_q6 hw, wx_g6_0 hw, wx_s6_0 hw, wx_N7 hw, wx_a7 hw, wx_K7 hw, wx_g6_1 hw, wx_s6_1 hw, wx_N8 hw, wx_a8 hw, wx_g6_2 hw, wx_s6_2 hw, wx_N9 hw, wx_a9 hw, wx_g6_3 hw, wx_s6_3 hw, wx_N10 hw, wx_a10 hw, wx_g6_4 hw, wx_s6_4 hw, wx_N11 hw, wx_a11 hw, wx_g6_5 hw, wx_s6_5 hw, wx_N12 hw, wx_a12 hw, wx_g6_6 hw, wx_s6_6 hw, wx_N13 hw, wx_a13 hw, wx_g6_7 hw, wx_s6_7 hw, wx_N14 hw, wx_a14 hw, List.not_mem_nil, false_implies, implies_true, nI_clamp, nI_add, Nat.reducePow, hp_bd, hp_bdi, hp_ts, hp_tn, hp_tsc, hp_tnc, Nat.reduceAdd, Nat.reduceSub, Nat.reduceMul, Nat.reduceLT, Nat.reduceLeDiff, Nat.reduceEqDiff, reduceIte, not_true_eq_false, not_false_eq_true, and_true, true_and, and_self, and_false, false_and, or_true, true_or, or_false, false_or, decide_true, decide_false, Bool.and_true, Bool.true_and, Bool.not_false, Bool.or_false, Bool.false_or, Bool.or_true, Bool.true_or, i01, k, k2, hy, hyb, e2, hqb]
        · have eo : op_3 G (nI b) (nI q) = (md_fo (ab_fr (gP G) b), gX_P G.1 (gP_fr (gP G) b (some q)), G.2) := by unfold op_3; simp only [e, ey, hy, if_false, hqb]
          rw [eo]
          refine oC_6 ok hR (T := mm_uM S 8 b (nI q)) ?_ (sf_uM (by unfold gc_6; omega)) hw (X_fr hR.2.1 rfl) hR.2.2.1 (sz_s rfl rfl)
          simp only [b76_0, b76_5, b76_9, b76_19, b76_22, b76_26, b76_34, b76_37, b76_39, b76_44, b76_47, b76_59, e76, wx_o0 hw, wx_k0 hw, wx_q0 hw, wx_g0_0 hw, wx_s0_0 hw, wx_g0_1 hw, wx_s0_1 hw, wx_g0_2 hw, wx_s0_2 hw, wx_g0_3 hw, wx_s0_3 hw, wx_g0_4 hw, wx_s0_4 hw, wx_N42 hw, wx_a42 hw, wx_K42 hw, wx_g0_5 hw, wx_s0_5 hw, wx_g0_6 hw, wx_s0_6 hw, wx_N75 hw, wx_a75 hw, wx_K75 hw, wx_g0_7 hw, wx_s0_7 hw, wx_N88 hw, wx_a88 hw, wx_g0_8 hw, wx_s0_8 hw, wx_N89 hw, wx_a89 hw, wx_g0_9 hw, wx_s0_9 hw, wx_N90 hw, wx_a90 hw, wx_g0_10 hw, wx_s0_10 hw, wx_N91 hw, wx_a91 hw, wx_o6 hw, wx_k6 hw, wx_q6 hw, wx_g6_0 hw, wx_s6_0 hw, wx_N7 hw, wx_a7 hw, wx_K7 hw, wx_g6_1 hw, wx_s6_1 hw, wx_N8 hw, wx_a8 hw, wx_g6_2 hw, wx_s6_2 hw, wx_N9 hw, wx_a9 hw, wx_g6_3 hw, wx_s6_3 hw, wx_N10 hw, wx_a10 hw, wx_g6_4 hw, wx_s6_4 hw, wx_N11 hw, wx_a11 hw, wx_g6_5 hw, wx_s6_5 hw, wx_N12 hw, wx_a12 hw, wx_g6_6 hw, wx_s6_6 hw, wx_N13 hw, wx_a13 hw, wx_g6_7 hw, wx_s6_7 hw, wx_N14 hw, wx_a14 hw, List.not_mem_nil, false_implies, implies_true, nI_clamp, nI_add, Nat.reducePow, hp_bd, hp_bdi, hp_ts, hp_tn, hp_tsc, hp_tnc, Nat.reduceAdd, Nat.reduceSub, Nat.reduceMul, Nat.reduceLT, Nat.reduceLeDiff, Nat.reduceEqDiff, reduceIte, not_true_eq_false, not_false_eq_true, and_true, true_and, and_self, and_false, false_and, or_true, true_or, or_false, false_or, decide_true, decide_false, Bool.and_true, Bool.true_and, Bool.not_false, Bool.or_false, Bool.false_or, Bool.or_true, Bool.true_or, i01, k, k2, cl, hbi, hg, k108, hy, e2, hqb]
theorem RC_by (ok : gb_ok G) (hR : RC S G) (hb : b < gK G) : ∃ e, mm_R S 7 b = some e ∧ mm_rg S 7 b = e ∧ (mm_R S 7 b).isSome = true ∧ mm_obj S e 0 = true ∧ mm_rk S e = cd_kc (ab_ki (gP G) b) ∧ cd_by S e b (ab_ki (gP G) b) (ab_v (gP G) b) (ab_wo (gP G) b) := by
  obtain ⟨e, he, hy⟩ := hR.2.1.1.2.2.2.2.1 b hb
  have hk := (ok.1.1.2.2.2.1 b hb).1
  exact ⟨e, he, hp_rg he, hp_rs he, by_o hk hy, by_k hk hy, hy⟩
theorem c_4 (ok : gb_ok G) (hR : RC S G) : oC S (d + 1) 77 [.ref 0, .int x, .int p, .int w] (.int (op_4 G x p w).1) (op_4 G x p w).2 := by
  have hw := hR.1
  have hk : gK G ≤ 6 := ok.1.1.1
  rcases kw_c hk x with ⟨e, h⟩ | ⟨b, hb, e, rfl⟩
  · have k := s8n (d := d) ok hR e
    have eo : op_4 G x p w = (-1, G) := by unfold op_4; simp only [e]
    rw [eo]
    refine oC_id hR ?_
    simp only [b77_0, b77_8, b77_11, b77_15, b77_20, b77_22, b77_26, b77_31, b77_34, b77_51, b77_54, e77, wx_o0 hw, wx_k0 hw, wx_q0 hw, wx_g0_0 hw, wx_s0_0 hw, wx_g0_1 hw, wx_s0_1 hw, wx_g0_2 hw, wx_s0_2 hw, wx_g0_3 hw, wx_s0_3 hw, wx_g0_4 hw, wx_s0_4 hw, wx_N42 hw, wx_a42 hw, wx_K42 hw, wx_g0_5 hw, wx_s0_5 hw, wx_g0_6 hw, wx_s0_6 hw, wx_N75 hw, wx_a75 hw, wx_K75 hw, wx_g0_7 hw, wx_s0_7 hw, wx_N88 hw, wx_a88 hw, wx_g0_8 hw, wx_s0_8 hw, wx_N89 hw, wx_a89 hw, wx_g0_9 hw, wx_s0_9 hw, wx_N90 hw, wx_a90 hw, wx_g0_10 hw, wx_s0_10 hw, wx_N91 hw, wx_a91 hw, wx_o6 hw, wx_k6 hw, wx_q6 hw, wx_g6_0 hw, wx_s6_0 hw, wx_N7 hw, wx_a7 hw, wx_K7 hw, wx_g6_1 hw, wx_s6_1 hw, wx_N8 hw, wx_a8 hw, wx_g6_2 hw, wx_s6_2 hw, wx_N9 hw, wx_a9 hw, wx_g6_3 hw, wx_s6_3 hw, wx_N10 hw, wx_a10 hw, wx_g6_4 hw, wx_s6_4 hw, wx_N11 hw, wx_a11 hw, wx_g6_5 hw, wx_s6_5 hw, wx_N12 hw, wx_a12 hw, wx_g6_6 hw, wx_s6_6 hw, wx_N13 hw, wx_a13 hw, wx_g6_7 hw, wx_s6_7 hw, wx_N14 hw, wx_a14 hw, List.not_mem_nil, false_implies, implies_true, nI_clamp, nI_add, Nat.reducePow, hp_bd, hp_bdi, hp_ts, hp_tn, hp_tsc, hp_tnc, Nat.reduceAdd, Nat.reduceSub, Nat.reduceMul, Nat.reduceLT, Nat.reduceLeDiff, Nat.reduceEqDiff, reduceIte, not_true_eq_false, not_false_eq_true, and_true, true_and, and_self, and_false, false_and, or_true, true_or, or_false, false_or, decide_true, decide_false, Bool.and_true, Bool.true_and, Bool.not_false, Bool.or_false, Bool.false_or, Bool.or_true, Bool.true_or, i01, k]
  · have k := s8s (d := d) ok hR hb
    have cl : (nI b).toNatClampNeg = b := nI_clamp (by omega)
    have hbi : mm_inb (nI b) 6 = true := hp_inb (by omega) (by omega)
    obtain ⟨q, hq, rgq, rsq, oq, kq, hy⟩ := RC_by ok hR hb
    have m0 : mm_M S q 0 = nI (ab_ki (gP G) b) := hy.2.2.2.1
    have hk7 := (ok.1.1.2.2.2.1 b hb).1
    have e6 : (nI (ab_ki (gP G) b) = nI 6) = (ab_ki (gP G) b = 6) := propext (nI_eq (by have : ab_ki (gP G) b < 7 := hk7; omega) (by decide))
    rcases kw_d (n := 2) (m := 3) rfl (by decide) p with ⟨ep, a1, a2, a3, a4, a5, a6⟩ | ⟨ep, a1, a2, a3, a4, a5, a6⟩ | ⟨p, hp, ep, rfl, a1, a2, a3, a4, a5, a6⟩
    · have eo : op_4 G (nI b) p w = (-1, G) := by unfold op_4; simp only [e, ep]
      rw [eo]
      refine oC_id hR ?_
      simp only [b77_0, b77_8, b77_11, b77_15, b77_20, b77_22, b77_26, b77_31, b77_34, b77_51, b77_54, e77, wx_o0 hw, wx_k0 hw, wx_q0 hw, wx_g0_0 hw, wx_s0_0 hw, wx_g0_1 hw, wx_s0_1 hw, wx_g0_2 hw, wx_s0_2 hw, wx_g0_3 hw, wx_s0_3 hw, wx_g0_4 hw, wx_s0_4 hw, wx_N42 hw, wx_a42 hw, wx_K42 hw, wx_g0_5 hw, wx_s0_5 hw, wx_g0_6 hw, wx_s0_6 hw, wx_N75 hw, wx_a75 hw, wx_K75 hw, wx_g0_7 hw, wx_s0_7 hw, wx_N88 hw, wx_a88 hw, wx_g0_8 hw, wx_s0_8 hw, wx_N89 hw, wx_a89 hw, wx_g0_9 hw, wx_s0_9 hw, wx_N90 hw, wx_a90 hw, wx_g0_10 hw, wx_s0_10 hw, wx_N91 hw, wx_a91 hw, wx_o6 hw, wx_k6 hw, wx_q6 hw, wx_g6_0 hw, wx_s6_0 hw, wx_N7 hw, wx_a7 hw, wx_K7 hw, wx_g6_1 hw, wx_s6_1 hw, wx_N8 hw, wx_a8 hw, wx_g6_2 hw, wx_s6_2 hw, wx_N9 hw, wx_a9 hw, wx_g6_3 hw, wx_s6_3 hw, wx_N10 hw, wx_a10 hw, wx_g6_4 hw, wx_s6_4 hw, wx_N11 hw, wx_a11 hw, wx_g6_5 hw, wx_s6_5 hw, wx_N12 hw, wx_a12 hw, wx_g6_6 hw, wx_s6_6 hw, wx_N13 hw, wx_a13 hw, wx_g6_7 hw, wx_s6_7 hw, wx_N14 hw, wx_a14 hw, List.not_mem_nil, false_implies, implies_true, nI_clamp, nI_add, Nat.reducePow, hp_bd, hp_bdi, hp_ts, hp_tn, hp_tsc, hp_tnc, Nat.reduceAdd, Nat.reduceSub, Nat.reduceMul, Nat.reduceLT, Nat.reduceLeDiff, Nat.reduceEqDiff, reduceIte, not_true_eq_false, not_false_eq_true, and_true, true_and, and_self, and_false, false_and, or_true, true_or, or_false, false_or, decide_true, decide_false, Bool.and_true, Bool.true_and, Bool.not_false, Bool.or_false, Bool.false_or, Bool.or_true, Bool.true_or, i01, k, a1, a6]
    · have eo : op_4 G (nI b) p w = (-1, G) := by unfold op_4; simp only [e, ep]
      rw [eo]
      refine oC_id hR ?_
      simp only [b77_0, b77_8, b77_11, b77_15, b77_20, b77_22, b77_26, b77_31, b77_34, b77_51, b77_54, e77, wx_o0 hw, wx_k0 hw, wx_q0 hw, wx_g0_0 hw, wx_s0_0 hw, wx_g0_1 hw, wx_s0_1 hw, wx_g0_2 hw, wx_s0_2 hw, wx_g0_3 hw, wx_s0_3 hw, wx_g0_4 hw, wx_s0_4 hw, wx_N42 hw, wx_a42 hw, wx_K42 hw, wx_g0_5 hw, wx_s0_5 hw, wx_g0_6 hw, wx_s0_6 hw, wx_N75 hw, wx_a75 hw, wx_K75 hw, wx_g0_7 hw, wx_s0_7 hw, wx_N88 hw, wx_a88 hw, wx_g0_8 hw, wx_s0_8 hw, wx_N89 hw, wx_a89 hw, wx_g0_9 hw, wx_s0_9 hw, wx_N90 hw, wx_a90 hw, wx_g0_10 hw, wx_s0_10 hw, wx_N91 hw, wx_a91 hw, wx_o6 hw, wx_k6 hw, wx_q6 hw, wx_g6_0 hw, wx_s6_0 hw, wx_N7 hw, wx_a7 hw, wx_K7 hw, wx_g6_1 hw, wx_s6_1 hw, wx_N8 hw, wx_a8 hw, wx_g6_2 hw, wx_s6_2 hw, wx_N9 hw, wx_a9 hw, wx_g6_3 hw, wx_s6_3 hw, wx_N10 hw, wx_a10 hw, wx_g6_4 hw, wx_s6_4 hw, wx_N11 hw, wx_a11 hw, wx_g6_5 hw, wx_s6_5 hw, wx_N12 hw, wx_a12 hw, wx_g6_6 hw, wx_s6_6 hw, wx_N13 hw, wx_a13 hw, wx_g6_7 hw, wx_s6_7 hw, wx_N14 hw, wx_a14 hw, List.not_mem_nil, false_implies, implies_true, nI_clamp, nI_add, Nat.reducePow, hp_bd, hp_bdi, hp_ts, hp_tn, hp_tsc, hp_tnc, Nat.reduceAdd, Nat.reduceSub, Nat.reduceMul, Nat.reduceLT, Nat.reduceLeDiff, Nat.reduceEqDiff, reduceIte, not_true_eq_false, not_false_eq_true, and_true, true_and, and_self, and_false, false_and, or_true, true_or, or_false, false_or, decide_true, decide_false, Bool.and_true, Bool.true_and, Bool.not_false, Bool.or_false, Bool.false_or, Bool.or_true, Bool.true_or, i01, k, a1, a6]
    · rcases kw_d (n := 3) (m := 4) rfl (by decide) w with ⟨ew, c1, c2, c3, c4, c5, c6⟩ | ⟨ew, c1, c2, c3, c4, c5, c6⟩ | ⟨w, hw4, ew, rfl, c1, c2, c3, c4, c5, c6⟩
      · have eo : op_4 G (nI b) (nI p) w = (-2, G) := by unfold op_4; simp only [e, ep, ew]
        rw [eo]
        refine oC_id hR ?_
        simp only [b77_0, b77_8, b77_11, b77_15, b77_20, b77_22, b77_26, b77_31, b77_34, b77_51, b77_54, e77, wx_o0 hw, wx_k0 hw, wx_q0 hw, wx_g0_0 hw, wx_s0_0 hw, wx_g0_1 hw, wx_s0_1 hw, wx_g0_2 hw, wx_s0_2 hw, wx_g0_3 hw, wx_s0_3 hw, wx_g0_4 hw, wx_s0_4 hw, wx_N42 hw, wx_a42 hw, wx_K42 hw, wx_g0_5 hw, wx_s0_5 hw, wx_g0_6 hw, wx_s0_6 hw, wx_N75 hw, wx_a75 hw, wx_K75 hw, wx_g0_7 hw, wx_s0_7 hw, wx_N88 hw, wx_a88 hw, wx_g0_8 hw, wx_s0_8 hw, wx_N89 hw, wx_a89 hw, wx_g0_9 hw, wx_s0_9 hw, wx_N90 hw, wx_a90 hw, wx_g0_10 hw, wx_s0_10 hw, wx_N91 hw, wx_a91 hw, wx_o6 hw, wx_k6 hw, wx_q6 hw, wx_g6_0 hw, wx_s6_0 hw, wx_N7 hw, wx_a7 hw, wx_K7 hw, wx_g6_1 hw, wx_s6_1 hw, wx_N8 hw, wx_a8 hw, wx_g6_2 hw, wx_s6_2 hw, wx_N9 hw, wx_a9 hw, wx_g6_3 hw, wx_s6_3 hw, wx_N10 hw, wx_a10 hw, wx_g6_4 hw, wx_s6_4 hw, wx_N11 hw, wx_a11 hw, wx_g6_5 hw, wx_s6_5 hw, wx_N12 hw, wx_a12 hw, wx_g6_6 hw, wx_s6_6 hw, wx_N13 hw, wx_a13 hw, wx_g6_7 hw, wx_s6_7 hw, wx_N14 hw, wx_a14 hw, List.not_mem_nil, false_implies, implies_true, nI_clamp, nI_add, Nat.reducePow, hp_bd, hp_bdi, hp_ts, hp_tn, hp_tsc, hp_tnc, Nat.reduceAdd, Nat.reduceSub, Nat.reduceMul, Nat.reduceLT, Nat.reduceLeDiff, Nat.reduceEqDiff, reduceIte, not_true_eq_false, not_false_eq_true, and_true, true_and, and_self, and_false, false_and, or_true, true_or, or_false, false_or, decide_true, decide_false, Bool.and_true, Bool.true_and, Bool.not_false, Bool.or_false, Bool.false_or, Bool.or_true, Bool.true_or, i01, k, a1, a6, c1, c4]
      · have eo : op_4 G (nI b) (nI p) w = (-2, G) := by unfold op_4; simp only [e, ep, ew]
        rw [eo]
        refine oC_id hR ?_
        simp only [b77_0, b77_8, b77_11, b77_15, b77_20, b77_22, b77_26, b77_31, b77_34, b77_51, b77_54, e77, wx_o0 hw, wx_k0 hw, wx_q0 hw, wx_g0_0 hw, wx_s0_0 hw, wx_g0_1 hw, wx_s0_1 hw, wx_g0_2 hw, wx_s0_2 hw, wx_g0_3 hw, wx_s0_3 hw, wx_g0_4 hw, wx_s0_4 hw, wx_N42 hw, wx_a42 hw, wx_K42 hw, wx_g0_5 hw, wx_s0_5 hw, wx_g0_6 hw, wx_s0_6 hw, wx_N75 hw, wx_a75 hw, wx_K75 hw, wx_g0_7 hw, wx_s0_7 hw, wx_N88 hw, wx_a88 hw, wx_g0_8 hw, wx_s0_8 hw, wx_N89 hw, wx_a89 hw, wx_g0_9 hw, wx_s0_9 hw, wx_N90 hw, wx_a90 hw, wx_g0_10 hw, wx_s0_10 hw, wx_N91 hw, wx_a91 hw, wx_o6 hw, wx_k6 hw, wx_q6 hw, wx_g6_0 hw, wx_s6_0 hw, wx_N7 hw, wx_a7 hw, wx_K7 hw, wx_g6_1 hw, wx_s6_1 hw, wx_N8 hw, wx_a8 hw, wx_g6_2 hw, wx_s6_2 hw, wx_N9 hw, wx_a9 hw, wx_g6_3 hw, wx_s6_3 hw, wx_N10 hw, wx_a10 hw, wx_g6_4 hw, wx_s6_4 hw, wx_N11 hw, wx_a11 hw, wx_g6_5 hw, wx_s6_5 hw, wx_N12 hw, wx_a12 hw, wx_g6_6 hw, wx_s6_6 hw, wx_N13 hw, wx_a13 hw, wx_g6_7 hw, wx_s6_7 hw, wx_N14 hw, wx_a14 hw, List.not_mem_nil, false_implies, implies_true, nI_clamp, nI_add, Nat.reducePow, hp_bd, hp_bdi, hp_ts, hp_tn, hp_tsc, hp_tnc, Nat.reduceAdd, Nat.reduceSub, Nat.reduceMul, Nat.reduceLT, Nat.reduceLeDiff, Nat.reduceEqDiff, reduceIte, not_true_eq_false, not_false_eq_true, and_true, true_and, and_self, and_false, false_and, or_true, true_or, or_false, false_or, decide_true, decide_false, Bool.and_true, Bool.true_and, Bool.not_false, Bool.or_false, Bool.false_or, Bool.or_true, Bool.true_or, i01, k, a1, a6, c1, c4]
      · by_cases h6 : ab_ki (gP G) b = 6
        · have eo : op_4 G (nI b) (nI p) (nI w) = (nI (ab_te (gP G) (3 * b + p)), gX_P G.1 (gP_te (gP G) (3 * b + p) w), G.2) := by unfold op_4; simp only [e, ep, ew, h6, if_true]
          have cl2 : (nI (b * 3 + p)).toNatClampNeg = 3 * b + p := by rw [nI_clamp (by omega)]; omega
          have hbi2 : mm_inb (nI (b * 3 + p)) 18 = true := hp_inb (by omega) (by omega)
          have hg : mm_M S 9 (3 * b + p) = nI (ab_te (gP G) (3 * b + p)) := hR.2.1.1.2.2.2.1 _ (by have hb : b < ab_kn (gx_P (gb_x G)) := hb; omega)
          rw [eo]
          refine oC_6 ok hR (T := mm_uM S 9 (3 * b + p) (nI w)) ?_ (sf_uM (by unfold gc_6; omega)) hw (X_te hR.2.1 rfl) hR.2.2.1 (sz_s rfl rfl)
          simp only [b77_0, b77_8, b77_11, b77_15, b77_20, b77_22, b77_26, b77_31, b77_34, b77_51, b77_54, e77, wx_o0 hw, wx_k0 hw, wx_q0 hw, wx_g0_0 hw, wx_s0_0 hw, wx_g0_1 hw, wx_s0_1 hw, wx_g0_2 hw, wx_s0_2 hw, wx_g0_3 hw, wx_s0_3 hw, wx_g0_4 hw, wx_s0_4 hw, wx_N42 hw, wx_a42 hw, wx_K42 hw, wx_g0_5 hw, wx_s0_5 hw, wx_g0_6 hw, wx_s0_6 hw, wx_N75 hw, wx_a75 hw, wx_K75 hw, wx_g0_7 hw, wx_s0_7 hw, wx_N88 hw, wx_a88 hw, wx_g0_8 hw, wx_s0_8 hw, wx_N89 hw, wx_a89 hw, wx_g0_9 hw, wx_s0_9 hw, wx_N90 hw, wx_a90 hw, wx_g0_10 hw, wx_s0_10 hw, wx_N91 hw, wx_a91 hw, wx_o6 hw, wx_k6 hw, wx_q6 hw, wx_g6_0 hw, wx_s6_0 hw, wx_N7 hw, wx_a7 hw, wx_K7 hw, wx_g6_1 hw, wx_s6_1 hw, wx_N8 hw, wx_a8 hw, wx_g6_2 hw, wx_s6_2 hw, wx_N9 hw, wx_a9 hw, wx_g6_3 hw, wx_s6_3 hw, wx_N10 hw, wx_a10 hw, wx_g6_4 hw, wx_s6_4 hw, wx_N11 hw, wx_a11 hw, wx_g6_5 hw, wx_s6_5 hw, wx_N12 hw, wx_a12 hw, wx_g6_6 hw, wx_s6_6 hw, wx_N13 hw, wx_a13 hw, wx_g6_7 hw, wx_s6_7 hw, wx_N14 hw, wx_a14 hw, List.not_mem_nil, false_implies, implies_true, nI_clamp, nI_add, Nat.reducePow, hp_bd, hp_bdi, hp_ts, hp_tn, hp_tsc, hp_tnc, Nat.reduceAdd, Nat.reduceSub, Nat.reduceMul, Nat.reduceLT, Nat.reduceLeDiff, Nat.reduceEqDiff, reduceIte, not_true_eq_false, not_false_eq_true, and_true, true_and, and_self, and_false, false_and, or_true, true_or, or_false, false_or, decide_true, decide_false, Bool.and_true, Bool.true_and, Bool.not_false, Bool.or_false, Bool.false_or, Bool.or_true, Bool.true_or, i01, k, a1, a6, c1, c4, cl, hbi, rgq, rsq, oq, m0, h6, nI_mul, cl2, hbi2, hg]
        · have eo : op_4 G (nI b) (nI p) (nI w) = (-3, G) := by unfold op_4; simp only [e, ep, ew, h6, if_false]
          rw [eo]
          refine oC_id hR ?_
          simp only [b77_0, b77_8, b77_11, b77_15, b77_20, b77_22, b77_26, b77_31, b77_34, b77_51, b77_54, e77, wx_o0 hw, wx_k0 hw, wx_q0 hw, wx_g0_0 hw, wx_s0_0 hw, wx_g0_1 hw, wx_s0_1 hw, wx_g0_2 hw, wx_s0_2 hw, wx_g0_3 hw, wx_s0_3 hw, wx_g0_4 hw, wx_s0_4 hw, wx_N42 hw, wx_a42 hw, wx_K42 hw, wx_g0_5 hw, wx_s0_5 hw, wx_g0_6 hw, wx_s0_6 hw, wx_N75 hw, wx_a75 hw, wx_K75 hw, wx_g0_7 hw, wx_s0_7 hw, wx_N88 hw, wx_a88 hw, wx_g0_8 hw, wx_s0_8 hw, wx_N89 hw, wx_a89 hw, wx_g0_9 hw, wx_s0_9 hw, wx_N90 hw, wx_a90 hw, wx_g0_10 hw, wx_s0_10 hw, wx_N91 hw, wx_a91 hw, wx_o6 hw, wx_k6 hw, wx_q6 hw, wx_g6_0 hw, wx_s6_0 hw, wx_N7 hw, wx_a7 hw, wx_K7 hw, wx_g6_1 hw, wx_s6_1 hw, wx_N8 hw, wx_a8 hw, wx_g6_2 hw, wx_s6_2 hw, wx_N9 hw, wx_a9 hw, wx_g6_3 hw, wx_s6_3 hw, wx_N10 hw, wx_a10 hw, wx_g6_4 hw, wx_s6_4 hw, wx_N11 hw, wx_a11 hw, wx_g6_5 hw, wx_s6_5 hw, wx_N12 hw, wx_a12 hw, wx_g6_6 hw, wx_s6_6 hw, wx_N13 hw, wx_a13 hw, wx_g6_7 hw, wx_s6_7 hw, wx_N14 hw, wx_a14 hw, List.not_mem_nil, false_implies, implies_true, nI_clamp, nI_add, Nat.reducePow, hp_bd, hp_bdi, hp_ts, hp_tn, hp_tsc, hp_tnc, Nat.reduceAdd, Nat.reduceSub, Nat.reduceMul, Nat.reduceLT, Nat.reduceLeDiff, Nat.reduceEqDiff, reduceIte, not_true_eq_false, not_false_eq_true, and_true, true_and, and_self, and_false, false_and, or_true, true_or, or_false, false_or, decide_true, decide_false, Bool.and_true, Bool.true_and, Bool.not_false, Bool.or_false, Bool.false_or, Bool.or_true, Bool.true_or, i01, k, a1, a6, c1, c4, cl, hbi, rgq, rsq, oq, m0, e6, h6]
theorem c_5 (ok : gb_ok G) (hR : RC S G) : oC S (d + 1) 78 [.ref 0, .int x] (.int (op_5 G x).1) (op_5 G x).2 := by
  have hw := hR.1
  have hk : gK G ≤ 6 := ok.1.1.1
  have hA := RC_A ok hR
  rcases kw_c hk x with ⟨e, h⟩ | ⟨b, hb, e, rfl⟩
  · have k := s8n (d := d) ok hR e
    have eo : op_5 G x = (-1, G) := by unfold op_5; simp only [e]
    rw [eo]
    refine oC_id hR ?_
    simp only [b78_0, b78_8, b78_11, b78_13, b78_21, b78_24, b78_27, b78_35, b78_43, e78, wx_o0 hw, wx_k0 hw, wx_q0 hw, wx_g0_0 hw, wx_s0_0 hw, wx_g0_1 hw, wx_s0_1 hw, wx_g0_2 hw, wx_s0_2 hw, wx_g0_3 hw, wx_s0_3 hw, wx_g0_4 hw, wx_s0_4 hw, wx_N42 hw, wx_a42 hw, wx_K42 hw, wx_g0_5 hw, wx_s0_5 hw, wx_g0_6 hw, wx_s0_6 hw, wx_N75 hw, wx_a75 hw, wx_K75 hw, wx_g0_7 hw, wx_s0_7 hw, wx_N88 hw, wx_a88 hw, wx_g0_8 hw, wx_s0_8 hw, wx_N89 hw, wx_a89 hw, wx_g0_9 hw, wx_s0_9 hw, wx_N90 hw, wx_a90 hw, wx_g0_10 hw, wx_s0_10 hw, wx_N91 hw, wx_a91 hw, wx_o6 hw, wx_k6 hw, wx_q6 hw, wx_g6_0 hw, wx_s6_0 hw, wx_N7 hw, wx_a7 hw, wx_K7 hw, wx_g6_1 hw, wx_s6_1 hw, wx_N8 hw, wx_a8 hw, wx_g6_2 hw, wx_s6_2 hw, wx_N9 hw, wx_a9 hw, wx_g6_3 hw, wx_s6_3 hw, wx_N10 hw, wx_a10 hw, wx_g6_4 hw, wx_s6_4 hw, wx_N11 hw, wx_a11 hw, wx_g6_5 hw, wx_s6_5 hw, wx_N12 hw, wx_a12 hw, wx_g6_6 hw, wx_s6_6 hw, wx_N13 hw, wx_a13 hw, wx_g6_7 hw, wx_s6_7 hw, wx_N14 hw, wx_a14 hw, List.not_mem_nil, false_implies, implies_true, nI_clamp, nI_add, Nat.reducePow, hp_bd, hp_bdi, hp_ts, hp_tn, hp_tsc, hp_tnc, Nat.reduceAdd, Nat.reduceSub, Nat.reduceMul, Nat.reduceLT, Nat.reduceLeDiff, Nat.reduceEqDiff, reduceIte, not_true_eq_false, not_false_eq_true, and_true, true_and, and_self, and_false, false_and, or_true, true_or, or_false, false_or, decide_true, decide_false, Bool.and_true, Bool.true_and, Bool.not_false, Bool.or_false, Bool.false_or, Bool.or_true, Bool.true_or, i01, k]
  · have k := s8s (d := d) ok hR hb
    have k12 := s12b (d := d) hA hb
    have hl := row_le hA.2.2.2.2.1 hA.2.2.2.2.2
    have f2 : ∀ k, ab_at b (ab_row (gD G)) = some k → k < 2 ^ 31 := fun k h => by have := at_lt hl h; omega
    by_cases hm : b ∈ ab_row (gD G)
    · have eo : op_5 G (nI b) = (-3, G) := by unfold op_5; simp only [e, hm, if_true]
      have hn : ¬ (cd_fo (ab_at b (ab_row (gD G))) < nI 0) := by rw [fo_neg f2, at_none]; exact fun h => h hm
      rw [eo]
      refine oC_id hR ?_
      simp only [b78_0, b78_8, b78_11, b78_13, b78_21, b78_24, b78_27, b78_35, b78_43, e78, wx_o0 hw, wx_k0 hw, wx_q0 hw, wx_g0_0 hw, wx_s0_0 hw, wx_g0_1 hw, wx_s0_1 hw, wx_g0_2 hw, wx_s0_2 hw, wx_g0_3 hw, wx_s0_3 hw, wx_g0_4 hw, wx_s0_4 hw, wx_N42 hw, wx_a42 hw, wx_K42 hw, wx_g0_5 hw, wx_s0_5 hw, wx_g0_6 hw, wx_s0_6 hw, wx_N75 hw, wx_a75 hw, wx_K75 hw, wx_g0_7 hw, wx_s0_7 hw, wx_N88 hw, wx_a88 hw, wx_g0_8 hw, wx_s0_8 hw, wx_N89 hw, wx_a89 hw, wx_g0_9 hw, wx_s0_9 hw, wx_N90 hw, wx_a90 hw, wx_g0_10 hw, wx_s0_10 hw, wx_N91 hw, wx_a91 hw, wx_o6 hw, wx_k6 hw, wx_q6 hw, wx_g6_0 hw, wx_s6_0 hw, wx_N7 hw, wx_a7 hw, wx_K7 hw, wx_g6_1 hw, wx_s6_1 hw, wx_N8 hw, wx_a8 hw, wx_g6_2 hw, wx_s6_2 hw, wx_N9 hw, wx_a9 hw, wx_g6_3 hw, wx_s6_3 hw, wx_N10 hw, wx_a10 hw, wx_g6_4 hw, wx_s6_4 hw, wx_N11 hw, wx_a11 hw, wx_g6_5 hw, wx_s6_5 hw, wx_N12 hw, wx_a12 hw, wx_g6_6 hw, wx_s6_6 hw, wx_N13 hw, wx_a13 hw, wx_g6_7 hw, wx_s6_7 hw, wx_N14 hw, wx_a14 hw, List.not_mem_nil, false_implies, implies_true, nI_clamp, nI_add, Nat.reducePow, hp_bd, hp_bdi, hp_ts, hp_tn, hp_tsc, hp_tnc, Nat.reduceAdd, Nat.reduceSub, Nat.reduceMul, Nat.reduceLT, Nat.reduceLeDiff, Nat.reduceEqDiff, reduceIte, not_true_eq_false, not_false_eq_true, and_true, true_and, and_self, and_false, false_and, or_true, true_or, or_false, false_or, decide_true, decide_false, Bool.and_true, Bool.true_and, Bool.not_false, Bool.or_false, Bool.false_or, Bool.or_true, Bool.true_or, i01, k, k12, hn]
    · have eo : op_5 G (nI b) = (nI (ab_row (gD G)).length, gX_D G.1 (gD_row (gD G) (ab_row (gD G) ++ [b])), G.2) := by unfold op_5; simp only [e, hm, if_false]
      have hn : cd_fo (ab_at b (ab_row (gD G))) < nI 0 := by rw [fo_neg f2, at_none]; exact hm
      have oD := okD_back ok hb hm
      have hl2 : (ab_row (gD G)).length + 1 ≤ 6 := by
        have := row_le ok.1.1 oD
        have e2 : ab_row (gD_row (gD G) (ab_row (gD G) ++ [b])) = ab_row (gD G) ++ [b] := rfl
        rw [e2, List.length_append] at this
        exact this
      have k13 := s13 (d := d) (x := nI b) hw dy6 hA.2.2.2.1.1 (by omega)
      have fT : sf_f (fun c j => c = 12 ∨ (c = 6 ∧ j = 11)) S (mm_uM (mm_uM S (6 + 6) (ab_row (gD G)).length (nI b)) 6 11 (nI ((ab_row (gD G)).length + 1))) := sf_tr (sf_uM (Or.inl rfl)) (sf_uM (Or.inr ⟨rfl, rfl⟩))
      have wT : mm_W (mm_uM (mm_uM S (6 + 6) (ab_row (gD G)).length (nI b)) 6 11 (nI ((ab_row (gD G)).length + 1))) := hw
      have DT : cd_D (mm_uM (mm_uM S (6 + 6) (ab_row (gD G)).length (nI b)) 6 11 (nI ((ab_row (gD G)).length + 1))) 6 (gK G) (gD_row (gD G) (ab_row (gD G) ++ [b])) := by
        obtain ⟨h1, h2, h3, h4, h5, h6, h7, h8⟩ := hR.2.1.2.1
        refine ⟨?_, fun p hp => ?_, fun b hb => (rdn (by omega)).trans ((rdn (by omega)).trans (h3 b hb)), fun b hb => (rdn (by omega)).trans ((rdn (by omega)).trans (h4 b hb)), (rdn (by omega)).trans ((rdn (by omega)).trans h5), (rdn (by omega)).trans ((rdn (by omega)).trans h6), (rdn (by omega)).trans ((rdn (by omega)).trans h7), (rdn (by omega)).trans ((rdn (by omega)).trans h8)⟩
        · rw [rds]
          show _ = nI (ab_row (gD G) ++ [b]).length
          rw [List.length_append]; rfl
        · have hp : p < (ab_row (gD G) ++ [b]).length := hp
          rw [List.length_append] at hp
          rw [rdn (by omega), rdk]
          show _ = nI ((ab_row (gD G) ++ [b]).getD p 0)
          by_cases e : p = (ab_row (gD G)).length
          · rw [if_pos e, e, List.getD_eq_getElem?_getD, List.getElem?_append_right (Nat.le_refl _), Nat.sub_self]; rfl
          · have hp2 : p < (ab_row (gD G)).length := by
              have : [b].length = 1 := rfl
              omega
            rw [if_neg e, List.getD_eq_getElem?_getD, List.getElem?_append_left hp2, ← List.getD_eq_getElem?_getD]
            exact h2 p hp2
      have XT := X_D (X := gb_x G) fT (fun c j (h : c = 12 ∨ (c = 6 ∧ j = 11)) => by omega) hR.2.1 DT
      have AT : cd_A (mm_uM (mm_uM S (6 + 6) (ab_row (gD G)).length (nI b)) 6 11 (nI ((ab_row (gD G)).length + 1))) 6 (gP G) (gD_row (gD G) (ab_row (gD G) ++ [b])) := ⟨wT, dy6, XT.1, DT, ok.1.1, oD⟩
      have k12T := s12b (d := d) AT hb
      have ea : ab_at b (ab_row (gD_row (gD G) (ab_row (gD G) ++ [b]))) = some (ab_row (gD G)).length := at_app hm
      rw [ea] at k12T
      rw [eo]
      refine oC_6 ok hR ?_ (sf_mo fT (fun c j (h : c = 12 ∨ (c = 6 ∧ j = 11)) => by unfold gc_6; omega)) wT XT hR.2.2.1 (sz_s rfl rfl)
      rw [e78, b78_0 (wx_o0 hw) (wx_s0_0 hw) (by rw [wx_g0_0 hw]; exact wx_k6 hw), wx_g0_0 hw, k, hp_bd, hp_ts, b78_8, if_neg i01, b78_13 (wx_o0 hw) (wx_s0_0 hw) (by rw [wx_g0_0 hw]; exact wx_k6 hw), wx_g0_0 hw, k12, hp_bd, hp_ts, b78_21, if_pos hn, b78_27 (wx_o0 hw) (wx_s0_0 hw) (by rw [wx_g0_0 hw]; exact wx_k6 hw), wx_g0_0 hw, k13, hp_bd, hp_tn, b78_35 (wx_o0 wT) (wx_s0_0 wT) (by rw [wx_g0_0 wT]; exact wx_k6 wT), wx_g0_0 wT, k12T, hp_bd, hp_ts, b78_43]
      rfl
theorem c_6 (ok : gb_ok G) (hR : RC S G) : oC S d 79 [.ref 0, .int x, .int y] (.int (op_6 G x y).1) (op_6 G x y).2 := by
  have hw := hR.1
  have h12 : mm_M S 6 12 = nI (ab_pr (gD G)) := hR.2.1.2.1.2.2.2.2.1
  have h13 : mm_M S 6 13 = nI (ab_lo (gD G)) := hR.2.1.2.1.2.2.2.2.2.1
  by_cases x0 : x = nI 0
  · subst x0
    rcases kw_d (n := 999) (m := 1000) rfl (by decide) y with ⟨ep, a1, a2, a3, a4, a5, a6⟩ | ⟨ep, a1, a2, a3, a4, a5, a6⟩ | ⟨n, hp, ep, rfl, a1, a2, a3, a4, a5, a6⟩
    · have eo : op_6 G (nI 0) y = (-2, G) := by unfold op_6; simp only [ep, if_true]
      rw [eo]
      refine oC_id hR ?_
      simp only [b79_0, b79_4, b79_9, b79_11, b79_15, b79_20, b79_26, b79_31, b79_34, b79_38, b79_57, e79, wx_o0 hw, wx_k0 hw, wx_q0 hw, wx_g0_0 hw, wx_s0_0 hw, wx_g0_1 hw, wx_s0_1 hw, wx_g0_2 hw, wx_s0_2 hw, wx_g0_3 hw, wx_s0_3 hw, wx_g0_4 hw, wx_s0_4 hw, wx_N42 hw, wx_a42 hw, wx_K42 hw, wx_g0_5 hw, wx_s0_5 hw, wx_g0_6 hw, wx_s0_6 hw, wx_N75 hw, wx_a75 hw, wx_K75 hw, wx_g0_7 hw, wx_s0_7 hw, wx_N88 hw, wx_a88 hw, wx_g0_8 hw, wx_s0_8 hw, wx_N89 hw, wx_a89 hw, wx_g0_9 hw, wx_s0_9 hw, wx_N90 hw, wx_a90 hw, wx_g0_10 hw, wx_s0_10 hw, wx_N91 hw, wx_a91 hw, wx_o6 hw, wx_k6 hw, wx_q6 hw, wx_g6_0 hw, wx_s6_0 hw, wx_N7 hw, wx_a7 hw, wx_K7 hw, wx_g6_1 hw, wx_s6_1 hw, wx_N8 hw, wx_a8 hw, wx_g6_2 hw, wx_s6_2 hw, wx_N9 hw, wx_a9 hw, wx_g6_3 hw, wx_s6_3 hw, wx_N10 hw, wx_a10 hw, wx_g6_4 hw, wx_s6_4 hw, wx_N11 hw, wx_a11 hw, wx_g6_5 hw, wx_s6_5 hw, wx_N12 hw, wx_a12 hw, wx_g6_6 hw, wx_s6_6 hw, wx_N13 hw, wx_a13 hw, wx_g6_7 hw, wx_s6_7 hw, wx_N14 hw, wx_a14 hw, List.not_mem_nil, false_implies, implies_true, nI_clamp, nI_add, Nat.reducePow, hp_bd, hp_bdi, hp_ts, hp_tn, hp_tsc, hp_tnc, Nat.reduceAdd, Nat.reduceSub, Nat.reduceMul, Nat.reduceLT, Nat.reduceLeDiff, Nat.reduceEqDiff, reduceIte, not_true_eq_false, not_false_eq_true, and_true, true_and, and_self, and_false, false_and, or_true, true_or, or_false, false_or, decide_true, decide_false, Bool.and_true, Bool.true_and, Bool.not_false, Bool.or_false, Bool.false_or, Bool.or_true, Bool.true_or, a1, a4]
    · have eo : op_6 G (nI 0) y = (-2, G) := by unfold op_6; simp only [ep, if_true]
      rw [eo]
      refine oC_id hR ?_
      simp only [b79_0, b79_4, b79_9, b79_11, b79_15, b79_20, b79_26, b79_31, b79_34, b79_38, b79_57, e79, wx_o0 hw, wx_k0 hw, wx_q0 hw, wx_g0_0 hw, wx_s0_0 hw, wx_g0_1 hw, wx_s0_1 hw, wx_g0_2 hw, wx_s0_2 hw, wx_g0_3 hw, wx_s0_3 hw, wx_g0_4 hw, wx_s0_4 hw, wx_N42 hw, wx_a42 hw, wx_K42 hw, wx_g0_5 hw, wx_s0_5 hw, wx_g0_6 hw, wx_s0_6 hw, wx_N75 hw, wx_a75 hw, wx_K75 hw, wx_g0_7 hw, wx_s0_7 hw, wx_N88 hw, wx_a88 hw, wx_g0_8 hw, wx_s0_8 hw, wx_N89 hw, wx_a89 hw, wx_g0_9 hw, wx_s0_9 hw, wx_N90 hw, wx_a90 hw, wx_g0_10 hw, wx_s0_10 hw, wx_N91 hw, wx_a91 hw, wx_o6 hw, wx_k6 hw, wx_q6 hw, wx_g6_0 hw, wx_s6_0 hw, wx_N7 hw, wx_a7 hw, wx_K7 hw, wx_g6_1 hw, wx_s6_1 hw, wx_N8 hw, wx_a8 hw, wx_g6_2 hw, wx_s6_2 hw, wx_N9 hw, wx_a9 hw, wx_g6_3 hw, wx_s6_3 hw, wx_N10 hw, wx_a10 hw, wx_g6_4 hw, wx_s6_4 hw, wx_N11 hw, wx_a11 hw, wx_g6_5 hw, wx_s6_5 hw, wx_N12 hw, wx_a12 hw, wx_g6_6 hw, wx_s6_6 hw, wx_N13 hw, wx_a13 hw, wx_g6_7 hw, wx_s6_7 hw, wx_N14 hw, wx_a14 hw, List.not_mem_nil, false_implies, implies_true, nI_clamp, nI_add, Nat.reducePow, hp_bd, hp_bdi, hp_ts, hp_tn, hp_tsc, hp_tnc, Nat.reduceAdd, Nat.reduceSub, Nat.reduceMul, Nat.reduceLT, Nat.reduceLeDiff, Nat.reduceEqDiff, reduceIte, not_true_eq_false, not_false_eq_true, and_true, true_and, and_self, and_false, false_and, or_true, true_or, or_false, false_or, decide_true, decide_false, Bool.and_true, Bool.true_and, Bool.not_false, Bool.or_false, Bool.false_or, Bool.or_true, Bool.true_or, a1, a4]
    · have eo : op_6 G (nI 0) (nI n) = (nI (ab_pr (gD G)), gX_D G.1 (gD_pr (gD G) n), G.2) := by unfold op_6; simp only [ep, if_true]
      rw [eo]
      have fT : sf_f (fun c j => c = 6 ∧ j = 12) S (mm_uM S 6 12 (nI n)) := sf_uM ⟨rfl, rfl⟩
      have DT : cd_D (mm_uM S 6 12 (nI n)) 6 (gK G) (gD_pr (gD G) n) := by
        obtain ⟨h1, h2, h3, h4, h5, h6, h7, h8⟩ := hR.2.1.2.1
        exact ⟨(rdn (by omega)).trans h1, fun p hp => (rdn (by omega)).trans (h2 p hp), fun p hp => (rdn (by omega)).trans (h3 p hp), fun p hp => (rdn (by omega)).trans (h4 p hp), rds, (rdn (by omega)).trans h6, (rdn (by omega)).trans h7, (rdn (by omega)).trans h8⟩
      refine oC_6 ok hR (T := mm_uM S 6 12 (nI n)) ?_ (sf_uM (by unfold gc_6; omega)) hw (X_D fT (fun c j (h : c = 6 ∧ j = 12) => by omega) hR.2.1 DT) hR.2.2.1 (sz_s rfl rfl)
      simp only [b79_0, b79_4, b79_9, b79_11, b79_15, b79_20, b79_26, b79_31, b79_34, b79_38, b79_57, e79, wx_o0 hw, wx_k0 hw, wx_q0 hw, wx_g0_0 hw, wx_s0_0 hw, wx_g0_1 hw, wx_s0_1 hw, wx_g0_2 hw, wx_s0_2 hw, wx_g0_3 hw, wx_s0_3 hw, wx_g0_4 hw, wx_s0_4 hw, wx_N42 hw, wx_a42 hw, wx_K42 hw, wx_g0_5 hw, wx_s0_5 hw, wx_g0_6 hw, wx_s0_6 hw, wx_N75 hw, wx_a75 hw, wx_K75 hw, wx_g0_7 hw, wx_s0_7 hw, wx_N88 hw, wx_a88 hw, wx_g0_8 hw, wx_s0_8 hw, wx_N89 hw, wx_a89 hw, wx_g0_9 hw, wx_s0_9 hw, wx_N90 hw, wx_a90 hw, wx_g0_10 hw, wx_s0_10 hw, wx_N91 hw, wx_a91 hw, wx_o6 hw, wx_k6 hw, wx_q6 hw, wx_g6_0 hw, wx_s6_0 hw, wx_N7 hw, wx_a7 hw, wx_K7 hw, wx_g6_1 hw, wx_s6_1 hw, wx_N8 hw, wx_a8 hw, wx_g6_2 hw, wx_s6_2 hw, wx_N9 hw, wx_a9 hw, wx_g6_3 hw, wx_s6_3 hw, wx_N10 hw, wx_a10 hw, wx_g6_4 hw, wx_s6_4 hw, wx_N11 hw, wx_a11 hw, wx_g6_5 hw, wx_s6_5 hw, wx_N12 hw, wx_a12 hw, wx_g6_6 hw, wx_s6_6 hw, wx_N13 hw, wx_a13 hw, wx_g6_7 hw, wx_s6_7 hw, wx_N14 hw, wx_a14 hw, List.not_mem_nil, false_implies, implies_true, nI_clamp, nI_add, Nat.reducePow, hp_bd, hp_bdi, hp_ts, hp_tn, hp_tsc, hp_tnc, Nat.reduceAdd, Nat.reduceSub, Nat.reduceMul, Nat.reduceLT, Nat.reduceLeDiff, Nat.reduceEqDiff, reduceIte, not_true_eq_false, not_false_eq_true, and_true, true_and, and_self, and_false, false_and, or_true, true_or, or_false, false_or, decide_true, decide_false, Bool.and_true, Bool.true_and, Bool.not_false, Bool.or_false, Bool.false_or, Bool.or_true, Bool.true_or, a1, a4, h12]
  · by_cases x1 : x = nI 1
    · subst x1
      rcases kw_d (n := 9) (m := 10) rfl (by decide) y with ⟨ep, a1, a2, a3, a4, a5, a6⟩ | ⟨ep, a1, a2, a3, a4, a5, a6⟩ | ⟨n, hp, ep, rfl, a1, a2, a3, a4, a5, a6⟩
      · have eo : op_6 G (nI 1) y = (-2, G) := by unfold op_6; simp only [ep, i01, if_true, if_false]
        rw [eo]
        refine oC_id hR ?_
        simp only [b79_0, b79_4, b79_9, b79_11, b79_15, b79_20, b79_26, b79_31, b79_34, b79_38, b79_57, e79, wx_o0 hw, wx_k0 hw, wx_q0 hw, wx_g0_0 hw, wx_s0_0 hw, wx_g0_1 hw, wx_s0_1 hw, wx_g0_2 hw, wx_s0_2 hw, wx_g0_3 hw, wx_s0_3 hw, wx_g0_4 hw, wx_s0_4 hw, wx_N42 hw, wx_a42 hw, wx_K42 hw, wx_g0_5 hw, wx_s0_5 hw, wx_g0_6 hw, wx_s0_6 hw, wx_N75 hw, wx_a75 hw, wx_K75 hw, wx_g0_7 hw, wx_s0_7 hw, wx_N88 hw, wx_a88 hw, wx_g0_8 hw, wx_s0_8 hw, wx_N89 hw, wx_a89 hw, wx_g0_9 hw, wx_s0_9 hw, wx_N90 hw, wx_a90 hw, wx_g0_10 hw, wx_s0_10 hw, wx_N91 hw, wx_a91 hw, wx_o6 hw, wx_k6 hw, wx_q6 hw, wx_g6_0 hw, wx_s6_0 hw, wx_N7 hw, wx_a7 hw, wx_K7 hw, wx_g6_1 hw, wx_s6_1 hw, wx_N8 hw, wx_a8 hw, wx_g6_2 hw, wx_s6_2 hw, wx_N9 hw, wx_a9 hw, wx_g6_3 hw, wx_s6_3 hw, wx_N10 hw, wx_a10 hw, wx_g6_4 hw, wx_s6_4 hw, wx_N11 hw, wx_a11 hw, wx_g6_5 hw, wx_s6_5 hw, wx_N12 hw, wx_a12 hw, wx_g6_6 hw, wx_s6_6 hw, wx_N13 hw, wx_a13 hw, wx_g6_7 hw, wx_s6_7 hw, wx_N14 hw, wx_a14 hw, List.not_mem_nil, false_implies, implies_true, nI_clamp, nI_add, Nat.reducePow, hp_bd, hp_bdi, hp_ts, hp_tn, hp_tsc, hp_tnc, Nat.reduceAdd, Nat.reduceSub, Nat.reduceMul, Nat.reduceLT, Nat.reduceLeDiff, Nat.reduceEqDiff, reduceIte, not_true_eq_false, not_false_eq_true, and_true, true_and, and_self, and_false, false_and, or_true, true_or, or_false, false_or, decide_true, decide_false, Bool.and_true, Bool.true_and, Bool.not_false, Bool.or_false, Bool.false_or, Bool.or_true, Bool.true_or, i01, a1, a4]
      · have eo : op_6 G (nI 1) y = (-2, G) := by unfold op_6; simp only [ep, i01, if_true, if_false]
        rw [eo]
        refine oC_id hR ?_
        simp only [b79_0, b79_4, b79_9, b79_11, b79_15, b79_20, b79_26, b79_31, b79_34, b79_38, b79_57, e79, wx_o0 hw, wx_k0 hw, wx_q0 hw, wx_g0_0 hw, wx_s0_0 hw, wx_g0_1 hw, wx_s0_1 hw, wx_g0_2 hw, wx_s0_2 hw, wx_g0_3 hw, wx_s0_3 hw, wx_g0_4 hw, wx_s0_4 hw, wx_N42 hw, wx_a42 hw, wx_K42 hw, wx_g0_5 hw, wx_s0_5 hw, wx_g0_6 hw, wx_s0_6 hw, wx_N75 hw, wx_a75 hw, wx_K75 hw, wx_g0_7 hw, wx_s0_7 hw, wx_N88 hw, wx_a88 hw, wx_g0_8 hw, wx_s0_8 hw, wx_N89 hw, wx_a89 hw, wx_g0_9 hw, wx_s0_9 hw, wx_N90 hw, wx_a90 hw, wx_g0_10 hw, wx_s0_10 hw, wx_N91 hw, wx_a91 hw, wx_o6 hw, wx_k6 hw, wx_q6 hw, wx_g6_0 hw, wx_s6_0 hw, wx_N7 hw, wx_a7 hw, wx_K7 hw, wx_g6_1 hw, wx_s6_1 hw, wx_N8 hw, wx_a8 hw, wx_g6_2 hw, wx_s6_2 hw, wx_N9 hw, wx_a9 hw, wx_g6_3 hw, wx_s6_3 hw, wx_N10 hw, wx_a10 hw, wx_g6_4 hw, wx_s6_4 hw, wx_N11 hw, wx_a11 hw, wx_g6_5 hw, wx_s6_5 hw, wx_N12 hw, wx_a12 hw, wx_g6_6 hw, wx_s6_6 hw, wx_N13 hw, wx_a13 hw, wx_g6_7 hw, wx_s6_7 hw, wx_N14 hw, wx_a14 hw, List.not_mem_nil, false_implies, implies_true, nI_clamp, nI_add, Nat.reducePow, hp_bd, hp_bdi, hp_ts, hp_tn, hp_tsc, hp_tnc, Nat.reduceAdd, Nat.reduceSub, Nat.reduceMul, Nat.reduceLT, Nat.reduceLeDiff, Nat.reduceEqDiff, reduceIte, not_true_eq_false, not_false_eq_true, and_true, true_and, and_self, and_false, false_and, or_true, true_or, or_false, false_or, decide_true, decide_false, Bool.and_true, Bool.true_and, Bool.not_false, Bool.or_false, Bool.false_or, Bool.or_true, Bool.true_or, i01, a1, a4]
      · have eo : op_6 G (nI 1) (nI n) = (nI (ab_lo (gD G)), gX_D G.1 (gD_lo (gD G) n), G.2) := by unfold op_6; simp only [ep, i01, if_true, if_false]
        rw [eo]
        have fT : sf_f (fun c j => c = 6 ∧ j = 13) S (mm_uM S 6 13 (nI n)) := sf_uM ⟨rfl, rfl⟩
        have DT : cd_D (mm_uM S 6 13 (nI n)) 6 (gK G) (gD_lo (gD G) n) := by
          obtain ⟨h1, h2, h3, h4, h5, h6, h7, h8⟩ := hR.2.1.2.1
          exact ⟨(rdn (by omega)).trans h1, fun p hp => (rdn (by omega)).trans (h2 p hp), fun p hp => (rdn (by omega)).trans (h3 p hp), fun p hp => (rdn (by omega)).trans (h4 p hp), (rdn (by omega)).trans h5, rds, (rdn (by omega)).trans h7, (rdn (by omega)).trans h8⟩
        refine oC_6 ok hR (T := mm_uM S 6 13 (nI n)) ?_ (sf_uM (by unfold gc_6; omega)) hw (X_D fT (fun c j (h : c = 6 ∧ j = 13) => by omega) hR.2.1 DT) hR.2.2.1 (sz_s rfl rfl)
        simp only [b79_0, b79_4, b79_9, b79_11, b79_15, b79_20, b79_26, b79_31, b79_34, b79_38, b79_57, e79, wx_o0 hw, wx_k0 hw, wx_q0 hw, wx_g0_0 hw, wx_s0_0 hw, wx_g0_1 hw, wx_s0_1 hw, wx_g0_2 hw, wx_s0_2 hw, wx_g0_3 hw, wx_s0_3 hw, wx_g0_4 hw, wx_s0_4 hw, wx_N42 hw, wx_a42 hw, wx_K42 hw, wx_g0_5 hw, wx_s0_5 hw, wx_g0_6 hw, wx_s0_6 hw, wx_N75 hw, wx_a75 hw, wx_K75 hw, wx_g0_7 hw, wx_s0_7 hw, wx_N88 hw, wx_a88 hw, wx_g0_8 hw, wx_s0_8 hw, wx_N89 hw, wx_a89 hw, wx_g0_9 hw, wx_s0_9 hw, wx_N90 hw, wx_a90 hw, wx_g0_10 hw, wx_s0_10 hw, wx_N91 hw, wx_a91 hw, wx_o6 hw, wx_k6 hw, wx_q6 hw, wx_g6_0 hw, wx_s6_0 hw, wx_N7 hw, wx_a7 hw, wx_K7 hw, wx_g6_1 hw, wx_s6_1 hw, wx_N8 hw, wx_a8 hw, wx_g6_2 hw, wx_s6_2 hw, wx_N9 hw, wx_a9 hw, wx_g6_3 hw, wx_s6_3 hw, wx_N10 hw, wx_a10 hw, wx_g6_4 hw, wx_s6_4 hw, wx_N11 hw, wx_a11 hw, wx_g6_5 hw, wx_s6_5 hw, wx_N12 hw, wx_a12 hw, wx_g6_6 hw, wx_s6_6 hw, wx_N13 hw, wx_a13 hw, wx_g6_7 hw, wx_s6_7 hw, wx_N14 hw, wx_a14 hw, List.not_mem_nil, false_implies, implies_true, nI_clamp, nI_add, Nat.reducePow, hp_bd, hp_bdi, hp_ts, hp_tn, hp_tsc, hp_tnc, Nat.reduceAdd, Nat.reduceSub, Nat.reduceMul, Nat.reduceLT, Nat.reduceLeDiff, Nat.reduceEqDiff, reduceIte, not_true_eq_false, not_false_eq_true, and_true, true_and, and_self, and_false, false_and, or_true, true_or, or_false, false_or, decide_true, decide_false, Bool.and_true, Bool.true_and, Bool.not_false, Bool.or_false, Bool.false_or, Bool.or_true, Bool.true_or, i01, a1, a4, h13]
    · have eo : op_6 G x y = (-1, G) := by unfold op_6; simp only [x0, x1, if_false]
      rw [eo]
      refine oC_id hR ?_
      simp only [b79_0, b79_4, b79_9, b79_11, b79_15, b79_20, b79_26, b79_31, b79_34, b79_38, b79_57, e79, wx_o0 hw, wx_k0 hw, wx_q0 hw, wx_g0_0 hw, wx_s0_0 hw, wx_g0_1 hw, wx_s0_1 hw, wx_g0_2 hw, wx_s0_2 hw, wx_g0_3 hw, wx_s0_3 hw, wx_g0_4 hw, wx_s0_4 hw, wx_N42 hw, wx_a42 hw, wx_K42 hw, wx_g0_5 hw, wx_s0_5 hw, wx_g0_6 hw, wx_s0_6 hw, wx_N75 hw, wx_a75 hw, wx_K75 hw, wx_g0_7 hw, wx_s0_7 hw, wx_N88 hw, wx_a88 hw, wx_g0_8 hw, wx_s0_8 hw, wx_N89 hw, wx_a89 hw, wx_g0_9 hw, wx_s0_9 hw, wx_N90 hw, wx_a90 hw, wx_g0_10 hw, wx_s0_10 hw, wx_N91 hw, wx_a91 hw, wx_o6 hw, wx_k6 hw, wx_q6 hw, wx_g6_0 hw, wx_s6_0 hw, wx_N7 hw, wx_a7 hw, wx_K7 hw, wx_g6_1 hw, wx_s6_1 hw, wx_N8 hw, wx_a8 hw, wx_g6_2 hw, wx_s6_2 hw, wx_N9 hw, wx_a9 hw, wx_g6_3 hw, wx_s6_3 hw, wx_N10 hw, wx_a10 hw, wx_g6_4 hw, wx_s6_4 hw, wx_N11 hw, wx_a11 hw, wx_g6_5 hw, wx_s6_5 hw, wx_N12 hw, wx_a12 hw, wx_g6_6 hw, wx_s6_6 hw, wx_N13 hw, wx_a13 hw, wx_g6_7 hw, wx_s6_7 hw, wx_N14 hw, wx_a14 hw, List.not_mem_nil, false_implies, implies_true, nI_clamp, nI_add, Nat.reducePow, hp_bd, hp_bdi, hp_ts, hp_tn, hp_tsc, hp_tnc, Nat.reduceAdd, Nat.reduceSub, Nat.reduceMul, Nat.reduceLT, Nat.reduceLeDiff, Nat.reduceEqDiff, reduceIte, not_true_eq_false, not_false_eq_true, and_true, true_and, and_self, and_false, false_and, or_true, true_or, or_false, false_or, decide_true, decide_false, Bool.and_true, Bool.true_and, Bool.not_false, Bool.or_false, Bool.false_or, Bool.or_true, Bool.true_or, x0, x1]
theorem c_7 (ok : gb_ok G) (hR : RC S G) : oC S (d + 1) 80 [.ref 0, .int x] (.int (op_7 G x).1) (op_7 G x).2 := by
  have hw := hR.1
  have hl := ok.2.2.2.2.1
  obtain ⟨ht, ht2⟩ := hR.2.2.2.2.2.2.1
  rcases kw_d (n := 127) (m := 128) rfl (by decide) x with ⟨ep, a1, a2, a3, a4, a5, a6⟩ | ⟨ep, a1, a2, a3, a4, a5, a6⟩ | ⟨n, hp, ep, rfl, a1, a2, a3, a4, a5, a6⟩
  · have eo : op_7 G x = (-2, G) := by unfold op_7; simp only [ep]
    rw [eo]
    refine oC_id hR ?_
    simp only [b80_0, b80_4, b80_10, b80_13, b80_21, b80_24, b80_34, e80, wx_o0 hw, wx_k0 hw, wx_q0 hw, wx_g0_0 hw, wx_s0_0 hw, wx_g0_1 hw, wx_s0_1 hw, wx_g0_2 hw, wx_s0_2 hw, wx_g0_3 hw, wx_s0_3 hw, wx_g0_4 hw, wx_s0_4 hw, wx_N42 hw, wx_a42 hw, wx_K42 hw, wx_g0_5 hw, wx_s0_5 hw, wx_g0_6 hw, wx_s0_6 hw, wx_N75 hw, wx_a75 hw, wx_K75 hw, wx_g0_7 hw, wx_s0_7 hw, wx_N88 hw, wx_a88 hw, wx_g0_8 hw, wx_s0_8 hw, wx_N89 hw, wx_a89 hw, wx_g0_9 hw, wx_s0_9 hw, wx_N90 hw, wx_a90 hw, wx_g0_10 hw, wx_s0_10 hw, wx_N91 hw, wx_a91 hw, wx_o73 hw, wx_k73 hw, wx_q73 hw, wx_g73_1 hw, wx_s73_1 hw, wx_N74 hw, wx_a74 hw, List.not_mem_nil, false_implies, implies_true, nI_clamp, nI_add, Nat.reducePow, hp_bd, hp_bdi, hp_ts, hp_tn, hp_tsc, hp_tnc, Nat.reduceAdd, Nat.reduceSub, Nat.reduceMul, Nat.reduceLT, Nat.reduceLeDiff, Nat.reduceEqDiff, reduceIte, not_true_eq_false, not_false_eq_true, and_true, true_and, and_self, and_false, false_and, or_true, true_or, or_false, false_or, decide_true, decide_false, Bool.and_true, Bool.true_and, Bool.not_false, Bool.or_false, Bool.false_or, Bool.or_true, Bool.true_or, a1, a4]
  · have eo : op_7 G x = (-2, G) := by unfold op_7; simp only [ep]
    rw [eo]
    refine oC_id hR ?_
    simp only [b80_0, b80_4, b80_10, b80_13, b80_21, b80_24, b80_34, e80, wx_o0 hw, wx_k0 hw, wx_q0 hw, wx_g0_0 hw, wx_s0_0 hw, wx_g0_1 hw, wx_s0_1 hw, wx_g0_2 hw, wx_s0_2 hw, wx_g0_3 hw, wx_s0_3 hw, wx_g0_4 hw, wx_s0_4 hw, wx_N42 hw, wx_a42 hw, wx_K42 hw, wx_g0_5 hw, wx_s0_5 hw, wx_g0_6 hw, wx_s0_6 hw, wx_N75 hw, wx_a75 hw, wx_K75 hw, wx_g0_7 hw, wx_s0_7 hw, wx_N88 hw, wx_a88 hw, wx_g0_8 hw, wx_s0_8 hw, wx_N89 hw, wx_a89 hw, wx_g0_9 hw, wx_s0_9 hw, wx_N90 hw, wx_a90 hw, wx_g0_10 hw, wx_s0_10 hw, wx_N91 hw, wx_a91 hw, wx_o73 hw, wx_k73 hw, wx_q73 hw, wx_g73_1 hw, wx_s73_1 hw, wx_N74 hw, wx_a74 hw, List.not_mem_nil, false_implies, implies_true, nI_clamp, nI_add, Nat.reducePow, hp_bd, hp_bdi, hp_ts, hp_tn, hp_tsc, hp_tnc, Nat.reduceAdd, Nat.reduceSub, Nat.reduceMul, Nat.reduceLT, Nat.reduceLeDiff, Nat.reduceEqDiff, reduceIte, not_true_eq_false, not_false_eq_true, and_true, true_and, and_self, and_false, false_and, or_true, true_or, or_false, false_or, decide_true, decide_false, Bool.and_true, Bool.true_and, Bool.not_false, Bool.or_false, Bool.false_or, Bool.or_true, Bool.true_or, a1, a4]
  · by_cases hf : (gb_t G).length = 100
    · have eo : op_7 G (nI n) = (-4, G) := by unfold op_7; simp only [ep, hf, if_true]
      have h1 : (nI (gb_t G).length < nI 100) = False := eq_false (nI_nlt (by omega) (by omega))
      rw [eo]
      refine oC_id hR ?_
      simp only [b80_0, b80_4, b80_10, b80_13, b80_21, b80_24, b80_34, e80, b35_0, b35_9, b35_11, b35_23, e35, wx_o0 hw, wx_k0 hw, wx_q0 hw, wx_g0_0 hw, wx_s0_0 hw, wx_g0_1 hw, wx_s0_1 hw, wx_g0_2 hw, wx_s0_2 hw, wx_g0_3 hw, wx_s0_3 hw, wx_g0_4 hw, wx_s0_4 hw, wx_N42 hw, wx_a42 hw, wx_K42 hw, wx_g0_5 hw, wx_s0_5 hw, wx_g0_6 hw, wx_s0_6 hw, wx_N75 hw, wx_a75 hw, wx_K75 hw, wx_g0_7 hw, wx_s0_7 hw, wx_N88 hw, wx_a88 hw, wx_g0_8 hw, wx_s0_8 hw, wx_N89 hw, wx_a89 hw, wx_g0_9 hw, wx_s0_9 hw, wx_N90 hw, wx_a90 hw, wx_g0_10 hw, wx_s0_10 hw, wx_N91 hw, wx_a91 hw, wx_o73 hw, wx_k73 hw, wx_q73 hw, wx_g73_1 hw, wx_s73_1 hw, wx_N74 hw, wx_a74 hw, List.not_mem_nil, false_implies, implies_true, nI_clamp, nI_add, Nat.reducePow, hp_bd, hp_bdi, hp_ts, hp_tn, hp_tsc, hp_tnc, Nat.reduceAdd, Nat.reduceSub, Nat.reduceMul, Nat.reduceLT, Nat.reduceLeDiff, Nat.reduceEqDiff, reduceIte, not_true_eq_false, not_false_eq_true, and_true, true_and, and_self, and_false, false_and, or_true, true_or, or_false, false_or, decide_true, decide_false, Bool.and_true, Bool.true_and, Bool.not_false, Bool.or_false, Bool.false_or, Bool.or_true, Bool.true_or, a1, a4, ht, h1]
    · have eo : op_7 G (nI n) = (nI ((gb_t G).length + 1), gS_t G (gb_t G ++ [n])) := by unfold op_7; simp only [ep, hf, if_false]
      have h1 : (nI (gb_t G).length < nI 100) = True := eq_true (nI_lt (by omega) (by omega))
      have cl : (nI (gb_t G).length).toNatClampNeg = (gb_t G).length := nI_clamp (by omega)
      have hbi : mm_inb (nI (gb_t G).length) 100 = true := hp_inb (by omega) (by omega)
      have g1 : mm_M (mm_uM S 74 (gb_t G).length (nI n)) 73 0 = nI (gb_t G).length := (rdn (by omega)).trans ht
      have g2 : mm_M (mm_uM (mm_uM S 74 (gb_t G).length (nI n)) 73 0 (nI ((gb_t G).length + 1))) 73 0 = nI ((gb_t G).length + 1) := rds
      have fT : sf_f gc_tt S (mm_uM (mm_uM S 74 (gb_t G).length (nI n)) 73 0 (nI ((gb_t G).length + 1))) := sf_tr (sf_uM (Or.inr rfl)) (sf_uM (Or.inl rfl))
      rw [eo]
      refine ⟨mm_uM (mm_uM S 74 (gb_t G).length (nI n)) 73 0 (nI ((gb_t G).length + 1)), ?_, RC_t ok fT hw hR ⟨?_, fun i hi => ?_⟩, tt_0 fT, sz_s rfl rfl⟩
      · simp only [b80_0, b80_4, b80_10, b80_13, b80_21, b80_24, b80_34, e80, b35_0, b35_9, b35_11, b35_23, e35, wx_o0 hw, wx_k0 hw, wx_q0 hw, wx_g0_0 hw, wx_s0_0 hw, wx_g0_1 hw, wx_s0_1 hw, wx_g0_2 hw, wx_s0_2 hw, wx_g0_3 hw, wx_s0_3 hw, wx_g0_4 hw, wx_s0_4 hw, wx_N42 hw, wx_a42 hw, wx_K42 hw, wx_g0_5 hw, wx_s0_5 hw, wx_g0_6 hw, wx_s0_6 hw, wx_N75 hw, wx_a75 hw, wx_K75 hw, wx_g0_7 hw, wx_s0_7 hw, wx_N88 hw, wx_a88 hw, wx_g0_8 hw, wx_s0_8 hw, wx_N89 hw, wx_a89 hw, wx_g0_9 hw, wx_s0_9 hw, wx_N90 hw, wx_a90 hw, wx_g0_10 hw, wx_s0_10 hw, wx_N91 hw, wx_a91 hw, wx_o73 hw, wx_k73 hw, wx_q73 hw, wx_g73_1 hw, wx_s73_1 hw, wx_N74 hw, wx_a74 hw, List.not_mem_nil, false_implies, implies_true, nI_clamp, nI_add, Nat.reducePow, hp_bd, hp_bdi, hp_ts, hp_tn, hp_tsc, hp_tnc, Nat.reduceAdd, Nat.reduceSub, Nat.reduceMul, Nat.reduceLT, Nat.reduceLeDiff, Nat.reduceEqDiff, reduceIte, not_true_eq_false, not_false_eq_true, and_true, true_and, and_self, and_false, false_and, or_true, true_or, or_false, false_or, decide_true, decide_false, Bool.and_true, Bool.true_and, Bool.not_false, Bool.or_false, Bool.false_or, Bool.or_true, Bool.true_or, hp_MuM, hp_LuL, hp_RuR, hp_McpM, hp_LcpL, hp_LuM, hp_RuM, hp_KuM, hp_NuM, hp_nuM, hp_zuM, hp_ouM, hp_auM, hp_kuM, hp_guM, hp_MuL, hp_RuL, hp_KuL, hp_NuL, hp_nuL, hp_zuL, hp_ouL, hp_auL, hp_kuL, hp_guL, hp_MuR, hp_LuR, hp_KuR, hp_NuR, hp_nuR, hp_zuR, hp_ouR, hp_auR, hp_kuR, hp_LcpM, hp_RcpM, hp_KcpM, hp_NcpM, hp_ncpM, hp_zcpM, hp_ocpM, hp_acpM, hp_kcpM, hp_gcpM, hp_McpL, hp_RcpL, hp_KcpL, hp_NcpL, hp_ncpL, hp_zcpL, hp_ocpL, hp_acpL, hp_kcpL, hp_gcpL, hp_MwM, hp_LwM, hp_RwM, hp_KwM, hp_NwM, hp_nwM, hp_zwM, hp_owM, hp_awM, hp_kwM, hp_gwM, hp_MwR, hp_LwR, hp_RwR, hp_KwR, hp_NwR, hp_nwR, hp_zwR, hp_owR, hp_awR, hp_kwR, hp_MwL, hp_LwL, hp_RwL, hp_KwL, hp_NwL, hp_nwL, hp_zwL, hp_owL, hp_awL, hp_kwL, hp_gwL, hp_w2M, hp_w2R, hp_w2L, a1, a4, ht, h1, cl, hbi, i01, g1, g2]
      · rw [rds, List.length_append]; rfl
      · rw [List.length_append] at hi
        rw [rdn (by omega), rdk]
        by_cases e : i = (gb_t G).length
        · rw [if_pos e, e, List.getD_eq_getElem?_getD, List.getElem?_append_right (Nat.le_refl _), Nat.sub_self]; rfl
        · have hi2 : i < (gb_t G).length := by
            have : [n].length = 1 := rfl
            omega
          rw [if_neg e, List.getD_eq_getElem?_getD, List.getElem?_append_left hi2, ← List.getD_eq_getElem?_getD]
          exact ht2 i hi2
theorem c_9 (ok : gb_ok G) (hR : RC S G) : oC S (d + 1) 82 [.ref 0, .int w] (.int (an_9 G w)) G := by
  have hw := hR.1
  have hA := RC_A ok hR
  refine oC_id hR ?_
  obtain ⟨h1, h2, h3, h4, h5, h6, h7, h8⟩ := hR.2.1.2.1
  obtain ⟨-, p2, p3, p4, p5, s, p6, p7, q1, q2, q3, q4, -⟩ := hR.2.1.1
  have rg : mm_rg S 6 8 = s := hp_rg p6
  have rs : (mm_R S 6 8).isSome = true := hp_rs p6
  have so := ws_o hw p7
  have hl := row_le hA.2.2.2.2.1 hA.2.2.2.2.2
  have efe : ab_fe (gP G) = ab_law (ab_sh (gP G)) 5 0 := ok.1.2.2.2.2.2.2
  have h1 : mm_M S 6 11 = nI (ab_row (gD G)).length := h1
  have h5 : mm_M S 6 12 = nI (ab_pr (gD G)) := h5
  have h6 : mm_M S 6 13 = nI (ab_lo (gD G)) := h6
  have h7 : mm_M S 6 14 = ab_ti (gD G) := h7
  have h8 : mm_M S 6 15 = ab_tu (gD G) := h8
  have k11 := s11 (d := d) hw dy6
  have c11 : mm_cl d 108 [.int (if mm_M S 6 11 ≤ nI 0 then -1 else mm_M S (6 + 6) 0)] S = some (some (.int (if (ab_row (gD G)).length = 0 then -5 else nI ((ab_row (gD G)).getD 0 0))), S) := by
    rw [s108, h1]
    by_cases h0 : (ab_row (gD G)).length = 0
    · have e9 : nI (ab_row (gD G)).length ≤ nI 0 := by rw [h0]; exact nI_le (Nat.le_refl _) (by decide)
      rw [if_pos e9, if_pos h0]; rfl
    · have g := h2 0 (by have : ¬ (ab_row (gx_D (gb_x G))).length = 0 := h0; omega)
      have hh : (ab_row (gD G)).getD 0 0 < 6 := by
        have hm : (ab_row (gD G)).getD 0 0 ∈ ab_row (gD G) := by
          rw [List.getD_eq_getElem?_getD, List.getElem?_eq_getElem (by omega)]
          exact List.getElem_mem _
        have := hA.2.2.2.2.2.2.1 _ hm
        have := ok.1.1.1
        have e : ab_kn (gP G) = ab_kn (gx_P (gb_x G)) := rfl
        omega
      have e9 : ¬ nI (ab_row (gD G)).length ≤ nI 0 := nI_ge (by omega) (by omega)
      have e8 : nI 0 ≤ nI ((ab_row (gx_D (gb_x G))).getD 0 0) := nI_le (Nat.zero_le _) (by have : (ab_row (gx_D (gb_x G))).getD 0 0 < 6 := hh; omega)
      rw [if_neg e9, if_neg h0, show mm_M S (6 + 6) 0 = _ from g, if_pos e8]
      rfl
  unfold an_9
  rw [e82, b82_0, b82_1]
  by_cases w0 : w = nI 0
  · rw [if_pos w0, if_pos w0, b82_56 (wx_o0 hw) (wx_s0_0 hw) (by rw [wx_g0_0 hw]; exact wx_o6 hw) (by rw [wx_g0_0 hw]; exact rs) (by rw [wx_g0_0 hw, rg]; exact so), wx_g0_0 hw, rg, q1]; rfl
  rw [if_neg w0, if_neg w0]
  by_cases w1 : w = nI 1
  · rw [if_pos w1, if_pos w1, b82_67 (wx_o0 hw) (wx_s0_0 hw) (by rw [wx_g0_0 hw]; exact wx_o6 hw) (by rw [wx_g0_0 hw]; exact rs) (by rw [wx_g0_0 hw, rg]; exact so), wx_g0_0 hw, rg, q2]; rfl
  rw [if_neg w1, if_neg w1]
  by_cases w2 : w = nI 2
  · rw [if_pos w2, if_pos w2, b82_78 (wx_o0 hw) (wx_s0_0 hw) (by rw [wx_g0_0 hw]; exact wx_o6 hw) (by rw [wx_g0_0 hw]; exact rs) (by rw [wx_g0_0 hw, rg]; exact so), wx_g0_0 hw, rg, q3]; rfl
  rw [if_neg w2, if_neg w2]
  by_cases w3 : w = nI 3
  · rw [if_pos w3, if_pos w3, b82_89 (wx_o0 hw) (wx_s0_0 hw) (by rw [wx_g0_0 hw]; exact wx_o6 hw) (by rw [wx_g0_0 hw]; exact rs) (by rw [wx_g0_0 hw, rg]; exact so), wx_g0_0 hw, rg, q4, efe]; rfl
  rw [if_neg w3, if_neg w3]
  by_cases w4 : w = nI 4
  · rw [if_pos w4, if_pos w4, b82_100 (wx_o0 hw) (wx_s0_0 hw) (by rw [wx_g0_0 hw]; exact wx_o6 hw), wx_g0_0 hw, h5]
  rw [if_neg w4, if_neg w4]
  by_cases w5 : w = nI 5
  · rw [if_pos w5, if_pos w5, b82_108 (wx_o0 hw) (wx_s0_0 hw) (by rw [wx_g0_0 hw]; exact wx_o6 hw), wx_g0_0 hw, h6]
  rw [if_neg w5, if_neg w5]
  by_cases w6 : w = nI 6
  · rw [if_pos w6, if_pos w6, b82_116 (wx_o0 hw) (wx_s0_0 hw) (by rw [wx_g0_0 hw]; exact wx_o6 hw), wx_g0_0 hw, h7]
  rw [if_neg w6, if_neg w6]
  by_cases w7 : w = nI 7
  · rw [if_pos w7, if_pos w7, b82_124 (wx_o0 hw) (wx_s0_0 hw) (by rw [wx_g0_0 hw]; exact wx_o6 hw), wx_g0_0 hw, h8]
  rw [if_neg w7, if_neg w7]
  by_cases w8 : w = nI 8
  · rw [if_pos w8, if_pos w8, b82_132 (wx_o0 hw) (wx_s0_0 hw) (by rw [wx_g0_0 hw]; exact wx_o6 hw), wx_g0_0 hw, h1]
  rw [if_neg w8, if_neg w8]
  by_cases w9 : w = nI 9
  · rw [if_pos w9, if_pos w9, b82_140 (wx_o0 hw) (wx_s0_0 hw) (by rw [wx_g0_0 hw]; exact wx_k6 hw), wx_g0_0 hw, k11, hp_bd, hp_ts, b82_147, c11, hp_bd, hp_ts, b82_150]
  rw [if_neg w9, if_neg w9, b82_151]
theorem c_11 (ok : gb_ok G) (hR : RC S G) : oC S (d + 5) 84 [.ref 0] (.int (op_11 G).1) (op_11 G).2 := by
  have hw := hR.1
  have hA := RC_A ok hR
  have k20 := s20w (d := d + 4) hA
  cases hc : ab_com (gD G) with
  | false =>
    have eo : op_11 G = (nI 0, G) := by unfold op_11; rw [hc, if_neg (by decide)]
    rw [eo]
    refine oC_id hR ?_
    rw [e84, b84_0 (wx_o0 hw) (wx_s0_0 hw) (by rw [wx_g0_0 hw]; exact wx_k6 hw), wx_g0_0 hw, k20, hp_bd, hp_ts, b84_7, hc, if_pos (by decide), b84_20]
  | true =>
    have eo : op_11 G = (nI (ab_ha (gP G) (gD G)), gX_D G.1 (ab_turn (gP G) (gD G)), G.2) := by unfold op_11; rw [hc, if_pos rfl]
    obtain ⟨T, g1, g2, g3⟩ := s21 (d := d) hA hc
    rw [eo]
    refine oC_6 ok hR (T := T) ?_ (sf_mo (sf_cd g2) (fun c j h => by unfold cd_dc at h; unfold gc_6; omega)) g3.1 (X_D (sf_cd g2) (fun c j h => by unfold cd_dc at h; omega) hR.2.1 g3.2.2.2.1) ?_ (sz_cd g2)
    · rw [e84, b84_0 (wx_o0 hw) (wx_s0_0 hw) (by rw [wx_g0_0 hw]; exact wx_k6 hw), wx_g0_0 hw, k20, hp_bd, hp_ts, b84_7, hc, if_neg (by decide), b84_10 (wx_o0 hw) (wx_s0_0 hw) (by rw [wx_g0_0 hw]; exact wx_k6 hw), wx_g0_0 hw, g1, hp_bd, hp_ts, b84_17]
    · exact tr_q (sf_cd g2) (fun j => by unfold cd_dc; omega) (by unfold cd_dc; omega) hR.2.2.1
end C1
