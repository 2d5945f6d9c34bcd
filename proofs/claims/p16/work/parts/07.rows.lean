/-! ===== arrays, new cells, library calls ===== -/
theorem mm_arr_sp {S : mm_S} {a k : Nat} (h : mm_arr S a k = true) : a < mm_n S ∧ mm_K S a = k := by
  unfold mm_arr at h
  simp only [Bool.and_eq_true, decide_eq_true_eq] at h
  exact h
theorem mm_ce1_i {ca : Nat → ClassId} {aa : Nat → Nat} {S : mm_S} {i : Nat} (h : mm_K S i = 13) : mm_ce1 ca aa S i = .inl (ca 13, mm_N S i, .inl (mm_M S i)) := by
  unfold mm_ce1
  rw [h]; rfl
theorem mm_ce1_z {ca : Nat → ClassId} {aa : Nat → Nat} {S : mm_S} {i : Nat} (h : mm_K S i = 15) : mm_ce1 ca aa S i = .inl (ca 15, mm_N S i, .inl (mm_M S i)) := by
  unfold mm_ce1
  rw [h]; rfl
theorem mm_ce1_j {ca : Nat → ClassId} {aa : Nat → Nat} {S : mm_S} {i : Nat} (h : mm_K S i = 14) : mm_ce1 ca aa S i = .inl (ca 14, mm_N S i, .inr (.inl (mm_L S i))) := by
  unfold mm_ce1
  rw [h]; rfl
theorem mm_ce1_q {ca : Nat → ClassId} {aa : Nat → Nat} {S : mm_S} {i k : Nat} (h : mm_K S i = k) (hk : k = 16 ∨ k = 17 ∨ k = 18) : mm_ce1 ca aa S i = .inl (ca k, mm_N S i, .inr (.inr (.inr (.inr fun j => (mm_R S i j).map aa)))) := by
  unfold mm_ce1
  rw [h]
  rcases hk with rfl | rfl | rfl <;> rfl
theorem mm_isB_sp {a : Nat} (h : mm_isB a = true) : ∃ k : Nat, k < 12 ∧ a = 1000000 + 2 * k + 1 ∧ mm_by a = (mm_sx k).2.2 := by
  unfold mm_isB at h
  simp only [Bool.and_eq_true, decide_eq_true_eq] at h
  obtain ⟨⟨h1, h2⟩, h3⟩ := h
  obtain ⟨b, rfl⟩ := Nat.exists_eq_add_of_le h1
  have h4 : b < 24 := Nat.lt_of_add_lt_add_left (n := 1000000) h2
  have e1 : mm_by (1000000 + b) = (mm_sx (b / 2)).2.2 := by
    have e0 : (1000000 + b) % 1000000 / 2 = b / 2 := by
      rw [Nat.add_mod_left, Nat.mod_eq_of_lt (by omega)]
    exact congrArg (fun k => (mm_sx k).2.2) e0
  have h5 : b % 2 = 1 := by
    have h6 : (1000000 + b) % 2 = b % 2 := by rw [Nat.add_mod]; simp
    rw [← h6]; exact h3
  have h7 : b / 2 < 12 := by omega
  have h8 : b = 2 * (b / 2) + 1 := by omega
  have h9 : 1000000 + b = 1000000 + 2 * (b / 2) + 1 := (congrArg (fun x => 1000000 + x) h8).trans (Nat.add_assoc 1000000 (2 * (b / 2)) 1).symm
  exact ⟨b / 2, h7, h9, e1⟩
theorem mm_sl_get {k : Nat} (h : k < 12) : mm_sl.getD k 0 = (mm_sx k).2.2.length := by
  simp [mm_sl, List.getD_eq_getElem?_getD, h]
theorem mm_sb_get {k : Nat} (h : k < 12) : mm_sb.getD k [] = (mm_sx k).2.2 := by
  simp [mm_sb, List.getD_eq_getElem?_getD, h]
theorem mo_iaload : mm_Ok .iaload := by
  intro p l e R s m args below meth c Q D ca z A t XS d pc len ls st S pc2 ls2 st2 S2 aa H locs lm cells slots F I X hd hl hs hc hz K
  obtain ⟨hx, hb, hml, hown, hts, hnm, hcn, hK, hA, hdf, hdl⟩ := F
  obtain rfl : len = 1 := mm_lk_eq hl rfl (by decide)
  obtain ⟨i, r, rfl, hs1⟩ := mm_i1_inv hs
  obtain ⟨a, r, rfl, hs2⟩ := mm_r1_inv hs1
  clear hs hs1
  by_cases h13 : mm_arr S a 13 = true
  case neg =>
    rw [if_neg h13] at hs2
    obtain ⟨hg, hs⟩ := mm_gd_inv hs2
    obtain ⟨rfl, rfl, rfl, rfl⟩ := mm_go_inv hs
    rw [Bool.and_eq_true, Bool.and_eq_true, decide_eq_true_eq, decide_eq_true_eq] at hg
    obtain ⟨⟨hsc, hg1⟩, hg2⟩ := hg
    have hg : t.2.2.2.2 = 17 ∧ mm_inb i (mm_N S a) = true := ⟨hg1, hg2⟩
    obtain ⟨hX, hbl, hbA⟩ := I.2.2.2.2.2.2.2 hg.1
    subst hsc
    rw [I.2.2.2.2.2.1] at hg
    rw [I.2.2.2.2.2.2.1] at K
    rw [List.map_cons, List.map_cons, mm_ad_ref]
    exact va_sld hx hb hX hbl hbA I.2.2.1 (mm_inb_in hg.2) hd (mm_K0 K I (mm_Xp X fun h => mm_p1 trivial (mm_t1 (mm_t1 h))))
  case pos =>
    rw [if_pos h13] at hs2
    obtain ⟨hg, hs⟩ := mm_gd_inv hs2
    obtain ⟨rfl, rfl, rfl, rfl⟩ := mm_go_inv hs
    obtain ⟨ha, hk⟩ := mm_arr_sp h13
    have hcell := mm_ws_get (ca := ca) (aa := aa) ha
    rw [mm_ce1_i hk] at hcell
    rw [List.map_cons, List.map_cons, mm_ad_ref]
    exact va_iald hx hb hK I.1 a 0 hcell rfl (mm_inb_in hg) hd (mm_K0 K I (mm_Xp X fun h => mm_p1 trivial (mm_t1 (mm_t1 h))))
theorem mo_laload : mm_Ok .laload := by
  intro p l e R s m args below meth c Q D ca z A t XS d pc len ls st S pc2 ls2 st2 S2 aa H locs lm cells slots F I X hd hl hs hc hz K
  obtain ⟨hx, hb, hml, hown, hts, hnm, hcn, hK, hA, hdf, hdl⟩ := F
  obtain rfl : len = 1 := mm_lk_eq hl rfl (by decide)
  obtain ⟨i, r, rfl, hs1⟩ := mm_i1_inv hs
  obtain ⟨a, r, rfl, hs2⟩ := mm_r1_inv hs1
  clear hs hs1
  obtain ⟨hg, hs⟩ := mm_gd_inv hs2
  obtain ⟨rfl, rfl, rfl, rfl⟩ := mm_go_inv hs
  rw [Bool.and_eq_true] at hg
  obtain ⟨ha, hk⟩ := mm_arr_sp hg.1
  have hcell := mm_ws_get (ca := ca) (aa := aa) ha
  rw [mm_ce1_j hk] at hcell
  rw [List.map_cons, List.map_cons, mm_ad_ref]
  exact va_lald hx hb hK I.1 a 1 hcell rfl (mm_inb_in hg.2) hd (mm_K0 K I (mm_Xp X fun h => mm_p1 trivial (mm_t1 (mm_t1 h))))
theorem mo_baload : mm_Ok .baload := by
  intro p l e R s m args below meth c Q D ca z A t XS d pc len ls st S pc2 ls2 st2 S2 aa H locs lm cells slots F I X hd hl hs hc hz K
  obtain ⟨hx, hb, hml, hown, hts, hnm, hcn, hK, hA, hdf, hdl⟩ := F
  obtain rfl : len = 1 := mm_lk_eq hl rfl (by decide)
  obtain ⟨i, r, rfl, hs1⟩ := mm_i1_inv hs
  obtain ⟨a, r, rfl, hs2⟩ := mm_r1_inv hs1
  clear hs hs1
  by_cases h15 : mm_arr S a 15 = true
  case neg =>
    rw [if_neg h15] at hs2
    obtain ⟨hg, hs⟩ := mm_gd_inv hs2
    obtain ⟨rfl, rfl, rfl, rfl⟩ := mm_go_inv hs
    rw [Bool.and_eq_true] at hg
    obtain ⟨hB, hg⟩ := hg
    obtain ⟨k, hk, rfl, hby⟩ := mm_isB_sp hB
    rw [hby] at K hg
    have hE := (I.2.2.2.2.1.1.1 k hk).2.2.2
    rw [mm_sl_get hk, mm_sb_get hk] at hE
    rw [List.map_cons, List.map_cons, mm_ad_ref]
    exact va_tb hx hb hE I.2.2.1 (mm_inb_in hg) rfl hd (mm_K0 K I (mm_Xp X fun h => mm_p1 trivial (mm_t1 (mm_t1 h))))
  case pos =>
    rw [if_pos h15] at hs2
    obtain ⟨hg, hs⟩ := mm_gd_inv hs2
    obtain ⟨rfl, rfl, rfl, rfl⟩ := mm_go_inv hs
    obtain ⟨ha, hk⟩ := mm_arr_sp h15
    have hcell := mm_ws_get (ca := ca) (aa := aa) ha
    rw [mm_ce1_z hk] at hcell
    rw [List.map_cons, List.map_cons, mm_ad_ref]
    exact va_zald hx hb hK I.1 a 2 hcell rfl (mm_inb_in hg) hd (mm_K0 K I (mm_Xp X fun h => mm_p1 trivial (mm_t1 (mm_t1 h))))
theorem mm_arrq_sp {S : mm_S} {a : Nat} (h : (mm_arr S a 16 || mm_arr S a 17 || mm_arr S a 18) = true) : a < mm_n S ∧ (mm_K S a = 16 ∨ mm_K S a = 17 ∨ mm_K S a = 18) := by
  simp only [Bool.or_eq_true] at h
  rcases h with (h | h) | h
  · obtain ⟨h1, h2⟩ := mm_arr_sp h; exact ⟨h1, Or.inl h2⟩
  · obtain ⟨h1, h2⟩ := mm_arr_sp h; exact ⟨h1, Or.inr (Or.inl h2)⟩
  · obtain ⟨h1, h2⟩ := mm_arr_sp h; exact ⟨h1, Or.inr (Or.inr h2)⟩
theorem mm_ats_q {ca : Nat → ClassId} {k : Nat} (hk : k = 16 ∨ k = 17 ∨ k = 18) : (mm_ats ca)[k - 13]? = some (ca k, .object (mm_ce k)) := by
  rcases hk with rfl | rfl | rfl <;> rfl
theorem mo_aaload : mm_Ok .aaload := by
  intro p l e R s m args below meth c Q D ca z A t XS d pc len ls st S pc2 ls2 st2 S2 aa H locs lm cells slots F I X hd hl hs hc hz K
  obtain ⟨hx, hb, hml, hown, hts, hnm, hcn, hK, hA, hdf, hdl⟩ := F
  obtain rfl : len = 1 := mm_lk_eq hl rfl (by decide)
  obtain ⟨i, r, rfl, hs1⟩ := mm_i1_inv hs
  obtain ⟨a, r, rfl, hs2⟩ := mm_r1_inv hs1
  clear hs hs1
  obtain ⟨hg, hs⟩ := mm_gd_inv hs2
  obtain ⟨rfl, rfl, rfl, rfl⟩ := mm_go_inv hs
  rw [Bool.and_eq_true] at hg
  obtain ⟨ha, hk⟩ := mm_arrq_sp hg.1
  have hcell := mm_ws_get (ca := ca) (aa := aa) ha
  rw [mm_ce1_q rfl hk] at hcell
  have hlt : ∀ b, mm_R S a i.toNatClampNeg = some b → b < mm_n S := I.2.2.2.1.1 a ha _
  have K1 := mm_K0 K I (mm_Xp X fun h => mm_p1 (v := mm_rv (mm_R S a i.toNatClampNeg)) (by
    cases hr : mm_R S a i.toNatClampNeg with
    | none => exact trivial
    | some b => exact Or.inl (hlt b hr)) (mm_t1 (mm_t1 h)))
  rw [List.map_cons, mm_ad_rv] at K1
  rw [List.map_cons, List.map_cons, mm_ad_ref]
  exact va_aldq hx hb hK I.1 a (mm_K S a - 13) hcell (mm_ats_q hk) (mm_inb_in hg.2) hd K1
theorem mm_upd_u {f : Nat → Int32} {k : Nat} {x : Int32} : upd f k x = mm_u f k x := rfl
theorem mo_iastore : mm_Ok .iastore := by
  intro p l e R s m args below meth c Q D ca z A t XS d pc len ls st S pc2 ls2 st2 S2 aa H locs lm cells slots F I X hd hl hs hc hz K
  obtain ⟨hx, hb, hml, hown, hts, hnm, hcn, hK, hA, hdf, hdl⟩ := F
  obtain rfl : len = 1 := mm_lk_eq hl rfl (by decide)
  obtain ⟨i, x, r, rfl, hs1⟩ := mm_i2_inv hs
  obtain ⟨a, r, rfl, hs2⟩ := mm_r1_inv hs1
  clear hs hs1
  obtain ⟨hg, hs⟩ := mm_gd_inv hs2
  obtain ⟨rfl, rfl, rfl, rfl⟩ := mm_go_inv hs
  rw [Bool.and_eq_true] at hg
  obtain ⟨ha, hk⟩ := mm_arr_sp hg.1
  have hcell := mm_ws_get (ca := ca) (aa := aa) ha
  rw [mm_ce1_i hk] at hcell
  rw [List.map_cons, List.map_cons, List.map_cons, mm_ad_ref]
  refine va_iast hx hb hK I.1 I.2.1 I.2.2.1 a 0 hcell rfl (mm_inb_in hg.2) hd (fun H1 locs1 a1 a2 a3 => ?_)
  refine K aa H1 locs1 lm cells slots rfl rfl (fun _ _ => rfl) (mm_Ix_sM I ha ?_ a1 a2 a3) ⟨X.1, mm_t1 (mm_t1 (mm_t1 X.2.1)), X.2.2⟩
  rw [mm_ce1_i (S := mm_sM S a _) hk]
  have e1 : mm_M (mm_sM S a (mm_u (mm_M S a) i.toNatClampNeg x)) a = mm_u (mm_M S a) i.toNatClampNeg x := mm_u_self
  rw [e1]; rfl
theorem mo_lastore : mm_Ok .lastore := by
  intro p l e R s m args below meth c Q D ca z A t XS d pc len ls st S pc2 ls2 st2 S2 aa H locs lm cells slots F I X hd hl hs hc hz K
  obtain ⟨hx, hb, hml, hown, hts, hnm, hcn, hK, hA, hdf, hdl⟩ := F
  obtain rfl : len = 1 := mm_lk_eq hl rfl (by decide)
  obtain ⟨x, r, rfl, hs0⟩ := mm_j1_inv hs
  obtain ⟨i, r, rfl, hs1⟩ := mm_i1_inv hs0
  obtain ⟨a, r, rfl, hs2⟩ := mm_r1_inv hs1
  clear hs hs0 hs1
  obtain ⟨hg, hs⟩ := mm_gd_inv hs2
  obtain ⟨rfl, rfl, rfl, rfl⟩ := mm_go_inv hs
  rw [Bool.and_eq_true] at hg
  obtain ⟨ha, hk⟩ := mm_arr_sp hg.1
  have hcell := mm_ws_get (ca := ca) (aa := aa) ha
  rw [mm_ce1_j hk] at hcell
  rw [List.map_cons, List.map_cons, List.map_cons, mm_ad_ref]
  refine va_last hx hb hK I.1 I.2.1 I.2.2.1 a 1 hcell rfl (mm_inb_in hg.2) hd (fun H1 locs1 a1 a2 a3 => ?_)
  refine K aa H1 locs1 lm cells slots rfl rfl (fun _ _ => rfl) (mm_Ix_sL I ?_ a1 a2 a3) ⟨X.1, mm_t1 (mm_t1 (mm_t1 X.2.1)), X.2.2⟩
  rw [mm_ce1_j (S := mm_sL S a _) hk]
  have e1 : mm_L (mm_sL S a (mm_u (mm_L S a) i.toNatClampNeg x)) a = mm_u (mm_L S a) i.toNatClampNeg x := mm_u_self
  rw [e1]; rfl
theorem mo_bastore : mm_Ok .bastore := by
  intro p l e R s m args below meth c Q D ca z A t XS d pc len ls st S pc2 ls2 st2 S2 aa H locs lm cells slots F I X hd hl hs hc hz K
  obtain ⟨hx, hb, hml, hown, hts, hnm, hcn, hK, hA, hdf, hdl⟩ := F
  obtain rfl : len = 1 := mm_lk_eq hl rfl (by decide)
  obtain ⟨i, x, r, rfl, hs1⟩ := mm_i2_inv hs
  obtain ⟨a, r, rfl, hs2⟩ := mm_r1_inv hs1
  clear hs hs1
  obtain ⟨hg, hs⟩ := mm_gd_inv hs2
  obtain ⟨rfl, rfl, rfl, rfl⟩ := mm_go_inv hs
  rw [Bool.and_eq_true] at hg
  obtain ⟨ha, hk⟩ := mm_arr_sp hg.1
  have hcell := mm_ws_get (ca := ca) (aa := aa) ha
  rw [mm_ce1_z hk] at hcell
  rw [List.map_cons, List.map_cons, List.map_cons, mm_ad_ref]
  refine va_zast hx hb hK I.1 I.2.1 I.2.2.1 a 2 hcell rfl (mm_inb_in hg.2) hd (fun H1 locs1 a1 a2 a3 => ?_)
  refine K aa H1 locs1 lm cells slots rfl rfl (fun _ _ => rfl) (mm_Ix_sM I ha ?_ a1 a2 a3) ⟨X.1, mm_t1 (mm_t1 (mm_t1 X.2.1)), X.2.2⟩
  rw [mm_ce1_z (S := mm_sM S a _) hk]
  have e1 : mm_M (mm_sM S a (mm_u (mm_M S a) i.toNatClampNeg (vp_nar .boolean x))) a = mm_u (mm_M S a) i.toNatClampNeg (vp_nar .boolean x) := mm_u_self
  rw [e1]; rfl
theorem mo_aastore : mm_Ok .aastore := by
  intro p l e R s m args below meth c Q D ca z A t XS d pc len ls st S pc2 ls2 st2 S2 aa H locs lm cells slots F I X hd hl hs hc hz K
  obtain ⟨hx, hb, hml, hown, hts, hnm, hcn, hK, hA, hdf, hdl⟩ := F
  obtain rfl : len = 1 := mm_lk_eq hl rfl (by decide)
  obtain ⟨v, r, rfl, hs0⟩ := mm_v1_inv hs
  obtain ⟨i, r, rfl, hs1⟩ := mm_i1_inv hs0
  obtain ⟨a, r, rfl, hs2⟩ := mm_r1_inv hs1
  clear hs hs0 hs1
  obtain ⟨hg, hs⟩ := mm_gd_inv hs2
  clear hs2
  rw [Bool.and_eq_true] at hg
  obtain ⟨ha, hk⟩ := mm_arrq_sp hg.1
  have hcell := mm_ws_get (ca := ca) (aa := aa) ha
  rw [mm_ce1_q rfl hk] at hcell
  have hset : ∀ o : Option Nat, mm_ce1 ca aa (mm_sR S a (mm_u (mm_R S a) i.toNatClampNeg o)) a = .inl (ca (mm_K S a), mm_N S a, .inr (.inr (.inr (.inr (va_up (fun j => (mm_R S a j).map aa) i.toNatClampNeg (o.map aa)))))) := by
    intro o
    rw [mm_ce1_q (S := mm_sR S a _) (k := mm_K S a) rfl hk]
    have e1 : mm_R (mm_sR S a (mm_u (mm_R S a) i.toNatClampNeg o)) a = mm_u (mm_R S a) i.toNatClampNeg o := mm_u_self
    rw [e1]
    refine congrArg (fun f => (Sum.inl (ca (mm_K S a), mm_N S a, .inr (.inr (.inr (.inr f)))) : va_E)) ?_
    funext j
    by_cases hj : j = i.toNatClampNeg
    · simp [mm_u, va_up, hj]
    · simp [mm_u, va_up, hj]
  cases v with
  | null =>
    obtain ⟨rfl, rfl, rfl, rfl⟩ := mm_go_inv hs
    rw [List.map_cons, List.map_cons, List.map_cons, mm_ad_ref]
    refine va_astqN hx hb hK I.1 I.2.1 I.2.2.1 a (mm_K S a - 13) hcell (mm_ats_q hk) (mm_inb_in hg.2) hd (fun H1 locs1 a1 a2 a3 => ?_)
    exact K aa H1 locs1 lm cells slots rfl rfl (fun _ _ => rfl) (mm_Ix_sR I (fun b h => by cases h) (hset none) a1 a2 a3) ⟨X.1, mm_t1 (mm_t1 (mm_t1 X.2.1)), X.2.2⟩
  | ref b =>
    have hb0 : ∃ b0 : Nat, b0 = b := ⟨b, rfl⟩
    obtain ⟨b0, hb0⟩ := hb0
    obtain ⟨ho, hs⟩ := mm_gd_inv hs
    obtain ⟨rfl, rfl, rfl, rfl⟩ := mm_go_inv hs
    obtain ⟨hbn, hb13, hfam⟩ := mm_obj_sp ho
    have hcb := mm_ws_get (ca := ca) (aa := aa) hbn
    rw [mm_ce1_obj hb13] at hcb
    rw [List.map_cons, List.map_cons, List.map_cons, mm_ad_ref, mm_ad_ref]
    have kk : ∀ (H1 : Heap) (locs1 : List Loc), va_P D mm_cl_s ((mm_ws ca aa S).set a (aa a, .inl (ca (mm_K S a), mm_N S a, .inr (.inr (.inr (.inr (va_up (fun j => (mm_R S a j).map aa) i.toNatClampNeg (some (aa b))))))))) H1 → va_D A ((mm_ws ca aa S).set a (aa a, .inl (ca (mm_K S a), mm_N S a, .inr (.inr (.inr (.inr (va_up (fun j => (mm_R S a j).map aa) i.toNatClampNeg (some (aa b))))))))) → va_S A s.heap H1 locs1 → W p l e R s m args below meth c H1 locs1 cells slots Q (F0 m (pc + 1) lm (r.map (mm_ad aa z))) := fun H1 locs1 a1 a2 a3 =>
      K aa H1 locs1 lm cells slots rfl rfl (fun _ _ => rfl) (mm_Ix_sR I (fun b' h => by cases h; exact hbn) (hset (some b)) a1 a2 a3) ⟨X.1, mm_t1 (mm_t1 (mm_t1 X.2.1)), X.2.2⟩
    have hor : mm_ck (mm_K S b) = mm_ce (mm_K S a) ∨ (mm_ck (mm_K S b), mm_ce (mm_K S a)) ∈ mm_E1 := by
      rcases hk with h | h | h
      · rw [h] at hfam ⊢
        exact mm_cb _ hfam
      · rw [h] at hfam ⊢
        have h6 : mm_K S b = 6 := by
          unfold mm_fam at hfam
          simp at hfam
          exact hfam.symm
        rw [h6]
        exact Or.inl rfl
      · rw [h] at hfam ⊢
        have h8 : mm_K S b = 8 := by
          unfold mm_fam at hfam
          simp at hfam
          exact hfam.symm
        rw [h8]
        exact Or.inl rfl
    rcases hor with h | h
    · exact va_astq (r := (mm_ck (mm_K S b), mm_T (mm_K S b), mm_NF (mm_K S b))) hx hb hK I.1 I.2.1 I.2.2.1 a (mm_K S a - 13) b (mm_K S b) hcell (by rw [mm_ats_q hk, ← h]) hcb (mm_cls_get _ hb13) (mm_inb_in hg.2) hd kk
    · exact va_astqO (r := (mm_ck (mm_K S b), mm_T (mm_K S b), mm_NF (mm_K S b))) hx hb hK I.1 I.2.1 I.2.2.1 a (mm_K S a - 13) b (mm_K S b) hcell (mm_ats_q hk) (I.2.2.2.2.1.2.2.2.2.2.2.1 _ h) hcb (mm_cls_get _ hb13) (mm_inb_in hg.2) hd kk
  | _ => cases hs
theorem mo_arraylength : mm_Ok .arraylength := by
  intro p l e R s m args below meth c Q D ca z A t XS d pc len ls st S pc2 ls2 st2 S2 aa H locs lm cells slots F I X hd hl hs hc hz K
  obtain ⟨hx, hb, hml, hown, hts, hnm, hcn, hK, hA, hdf, hdl⟩ := F
  obtain rfl : len = 1 := mm_lk_eq hl rfl (by decide)
  obtain ⟨a, r, rfl, hs2⟩ := mm_r1_inv hs
  clear hs
  by_cases hg : (decide (a < mm_n S) && decide (13 ≤ mm_K S a) && decide (mm_K S a < 19)) = true
  · rw [if_pos hg] at hs2
    obtain ⟨rfl, rfl, rfl, rfl⟩ := mm_go_inv hs2
    simp only [Bool.and_eq_true, decide_eq_true_eq] at hg
    obtain ⟨⟨ha, hk1⟩, hk2⟩ := hg
    have hcell := mm_ws_get (ca := ca) (aa := aa) ha
    have K1 := mm_K0 K I (mm_Xp X fun h => mm_p1 (v := .int (Int32.ofNat (mm_N S a))) trivial (mm_t1 h))
    rw [List.map_cons, mm_ad_ref]
    obtain h | h | h | h : mm_K S a = 13 ∨ mm_K S a = 14 ∨ mm_K S a = 15 ∨ (mm_K S a = 16 ∨ mm_K S a = 17 ∨ mm_K S a = 18) := by omega
    · rw [mm_ce1_i h] at hcell
      exact va_alen hx hb hK I.1 a 0 hcell rfl rfl hd K1
    · rw [mm_ce1_j h] at hcell
      exact va_alen hx hb hK I.1 a 1 hcell rfl rfl hd K1
    · rw [mm_ce1_z h] at hcell
      exact va_alen hx hb hK I.1 a 2 hcell rfl rfl hd K1
    · rw [mm_ce1_q rfl h] at hcell
      exact va_alen hx hb hK I.1 a (mm_K S a - 13) hcell (mm_ats_q h) rfl hd K1
  · rw [if_neg hg] at hs2
    by_cases hB : mm_isB a = true
    · rw [if_pos hB] at hs2
      obtain ⟨rfl, rfl, rfl, rfl⟩ := mm_go_inv hs2
      obtain ⟨k, hk, rfl, hby⟩ := mm_isB_sp hB
      rw [hby] at K
      have hE := (I.2.2.2.2.1.1.1 k hk).2.2.2
      rw [mm_sl_get hk, mm_sb_get hk] at hE
      rw [List.map_cons, mm_ad_ref]
      exact va_tlen hx hb hE I.2.2.1 rfl hd (mm_K0 K I (mm_Xp X fun h => mm_p1 trivial (mm_t1 h)))
    · rw [if_neg hB] at hs2
      obtain ⟨hg, hs⟩ := mm_gd_inv hs2
      obtain ⟨rfl, rfl, rfl, rfl⟩ := mm_go_inv hs
      rw [Bool.and_eq_true, decide_eq_true_eq, decide_eq_true_eq] at hg
      obtain ⟨hsc, hg1⟩ := hg
      obtain ⟨hX, hbl, hbA⟩ := I.2.2.2.2.2.2.2 hg1
      subst hsc
      rw [I.2.2.2.2.2.1] at K
      rw [List.map_cons, mm_ad_ref]
      exact va_slen hx hb hX hbl hbA I.2.2.1 hd (mm_K0 K I (mm_Xp X fun h => mm_p1 trivial (mm_t1 h)))
/-! ===== a new cell ===== -/
theorem mm_Ev_aa {z : Value} {aa bb : Nat → Nat} {A : Nat → Prop} {U : State} {H : Heap} (h : ∀ i, 1000000 ≤ i → bb i = aa i) (E : mm_Ev z aa A U H) : mm_Ev z bb A U H := by
  have e1 : (fun k => bb (1000000 + 2 * k)) = (fun k => aa (1000000 + 2 * k)) := funext fun k => h _ (by omega)
  have e2 : (fun k => bb (1000000 + 2 * k + 1)) = (fun k => aa (1000000 + 2 * k + 1)) := funext fun k => h _ (by omega)
  unfold mm_Ev at E ⊢
  rw [e1, e2]
  refine ⟨E.1, fun k hk => ?_, E.2.2⟩
  rw [h _ (by omega)]
  exact E.2.1 k hk
theorem mm_wf_nw {S : mm_S} {k n : Nat} (h : mm_wf S) (hn : mm_n S < 1000000) : mm_wf (mm_nw S k n) := by
  refine ⟨fun i hi j b hb => ?_, by show mm_n S + 1 ≤ 1000000; omega⟩
  have hi : i < mm_n S + 1 := hi
  show b < mm_n S + 1
  by_cases h1 : i = mm_n S
  · have e1 : mm_R (mm_nw S k n) i = fun _ => none := by rw [h1]; exact mm_u_self
    rw [e1] at hb
    cases hb
  · have e1 : mm_R (mm_nw S k n) i = mm_R S i := mm_u_ne h1
    rw [e1] at hb
    have := h.1 i (by omega) j b hb
    omega
theorem mm_vok_nw {S : mm_S} {k n : Nat} {v : Value} (h : mm_vok S v) : mm_vok (mm_nw S k n) v := by
  cases v <;> try exact trivial
  rename_i i
  rcases h with h | h
  · exact Or.inl (Nat.lt_succ_of_lt h)
  · exact Or.inr h
theorem mm_nw_ok {p : Program} {l : Launch} {e : Env} {R : Room} {s : State} {m : MethodId} {args : Array Value} {below : List Frame} {meth : Method} {c : Code} {Q : State → Prop} {D : va_G} {ca : Nat → ClassId} {z : Value} {A : Nat → Prop} {t : mm_mT} {XS : Nat × (Nat → Int32)} {pc2 : Nat} {ls r : List Value} {S : mm_S} {aa : Nat → Nat} {H H1 : Heap} {locs locs1 : List Loc} {lm : Array Slot} {cells slots k n q : Nat} {e1 : va_E} (hn : mm_n S < 1000000) (I : mm_Ix s D ca z A t XS aa S H locs) (hl : ∀ v ∈ ls, mm_vok S v) (hr : ∀ v ∈ r, mm_vok S v) (hL : mm_Lr aa z ls lm t.2.2.1) (he : mm_ce1 ca aa (mm_nw S k n) (mm_n S) = e1) (h1 : va_P D mm_cl_s (mm_ws ca aa S ++ [(q, e1)]) H1) (h2 : va_D A (mm_ws ca aa S ++ [(q, e1)])) (h3 : va_S A s.heap H1 locs1) (K : mm_Kx p l e R s m args below meth c Q D ca z A t XS aa S cells slots pc2 ls (.ref (mm_n S) :: r) (mm_nw S k n)) : W p l e R s m args below meth c H1 locs1 (cells + 1) (slots + n) Q (F0 m pc2 lm (.ref q :: r.map (mm_ad aa z))) := by
  have hag : ∀ i, i < mm_n S ∨ 1000000 ≤ i → mm_u aa (mm_n S) q i = aa i := fun i hi => mm_u_ne (by omega)
  have hnone : mm_R (mm_nw S k n) (mm_n S) = fun _ => none := mm_u_self
  have he2 : mm_ce1 ca (mm_u aa (mm_n S) q) (mm_nw S k n) (mm_n S) = e1 := by
    rw [mm_ce1_aa (aa := aa) (fun j b h => by rw [hnone] at h; cases h)]
    exact he
  have hpush := mm_ws_push (ca := ca) (aa := aa) (S := S) (k := k) (n := n) (q := q) I.2.2.2.1 he2
  rw [hpush] at h1 h2
  have hne : mm_SC ≠ mm_n S := by show 3000000 ≠ mm_n S; omega
  have K1 := K (mm_u aa (mm_n S) q) H1 locs1 lm (cells + 1) (slots + n) (by show cells + 1 + mm_n S = cells + (mm_n S + 1); omega) (by show slots + n + mm_z S = slots + (mm_z S + n); omega) hag
    ⟨h1, h2, h3, mm_wf_nw I.2.2.2.1 hn, mm_Ev_aa (fun i hi => hag i (Or.inr hi)) I.2.2.2.2.1, (show mm_N (mm_nw S k n) mm_SC = mm_N S mm_SC from mm_u_ne hne).trans I.2.2.2.2.2.1, (show mm_M (mm_nw S k n) mm_SC = mm_M S mm_SC from mm_u_ne hne).trans I.2.2.2.2.2.2.1, fun h => by
      rw [hag mm_SC (Or.inr (by decide))]
      exact I.2.2.2.2.2.2.2 h⟩
    ⟨fun v hv => mm_vok_nw (hl v hv), mm_p1 (Or.inl (Nat.lt_succ_self _)) fun v hv => mm_vok_nw (hr v hv), mm_Lr_aa hL hl hag⟩
  rw [List.map_cons, mm_ad_ref, mm_u_self, mm_map_aa hr hag] at K1
  exact K1
theorem mo_newarray (ty : ArrayType) : mm_Ok (.newarray ty) := by
  intro p l e R s m args below meth c Q D ca z A t XS d pc len ls st S pc2 ls2 st2 S2 aa H locs lm cells slots F I X hd hl hs hc hz K
  obtain ⟨hx, hb, hml, hown, hts, hnm, hcn, hK, hA, hdf, hdl⟩ := F
  obtain rfl : len = 2 := mm_lk_eq hl rfl (by decide)
  obtain ⟨n, r, rfl, hs2⟩ := mm_i1_inv hs
  clear hs
  obtain ⟨hg, hs⟩ := mm_gd_inv hs2
  simp only [Bool.and_eq_true, decide_eq_true_eq, Bool.not_eq_true', decide_eq_false_iff_not] at hg
  obtain ⟨⟨hn0, hn1⟩, hn2⟩ := hg
  have hr := mm_t1 X.2.1
  cases ty with
  | int =>
    obtain ⟨rfl, rfl, rfl, rfl⟩ := mm_go_inv hs
    have hc : cells + (mm_n S + 1) ≤ R.cells + mm_n S := hc
    have hz : slots + (mm_z S + n.toNatClampNeg) ≤ R.slots + mm_z S := hz
    refine va_newa (atype := .int) hx hb (hts _ mm_ar_i) rfl hK I.1 I.2.1 I.2.2.1 hA (a0 := (n.toNatClampNeg, .inl fun _ => 0)) (fun _ => rfl) hn0 rfl (by show n.toNatClampNeg * 4 ≤ 536870912; omega) (by omega) (by omega) hd (fun q cA H1 hK1 a1 a2 a3 => ?_)
    have hcA : cA = ca 13 := Option.some.inj (((hK1.2 6 (cA, .int) rfl).2).symm.trans ((hK.2 0 (ca 13, .int) rfl).2))
    subst hcA
    refine mm_nw_ok hn2 I X.1 hr X.2.2 ?_ a1 a2 a3 K
    have hk : mm_K (mm_nw S 13 n.toNatClampNeg) (mm_n S) = 13 := mm_u_self
    have hN : mm_N (mm_nw S 13 n.toNatClampNeg) (mm_n S) = n.toNatClampNeg := mm_u_self
    have hM : mm_M (mm_nw S 13 n.toNatClampNeg) (mm_n S) = fun _ => 0 := mm_u_self
    rw [mm_ce1_i hk, hN, hM]
  | long =>
    obtain ⟨rfl, rfl, rfl, rfl⟩ := mm_go_inv hs
    have hc : cells + (mm_n S + 1) ≤ R.cells + mm_n S := hc
    have hz : slots + (mm_z S + n.toNatClampNeg) ≤ R.slots + mm_z S := hz
    refine va_newa (atype := .long) hx hb (hts _ mm_ar_j) rfl hK I.1 I.2.1 I.2.2.1 hA (a0 := (n.toNatClampNeg, .inr (.inl fun _ => 0))) (fun _ => rfl) hn0 rfl (by show n.toNatClampNeg * 8 ≤ 536870912; omega) (by omega) (by omega) hd (fun q cA H1 hK1 a1 a2 a3 => ?_)
    have hcA : cA = ca 14 := Option.some.inj (((hK1.2 6 (cA, .long) rfl).2).symm.trans ((hK.2 1 (ca 14, .long) rfl).2))
    subst hcA
    refine mm_nw_ok hn2 I X.1 hr X.2.2 ?_ a1 a2 a3 K
    have hk : mm_K (mm_nw S 14 n.toNatClampNeg) (mm_n S) = 14 := mm_u_self
    have hN : mm_N (mm_nw S 14 n.toNatClampNeg) (mm_n S) = n.toNatClampNeg := mm_u_self
    have hM : mm_L (mm_nw S 14 n.toNatClampNeg) (mm_n S) = fun _ => 0 := mm_u_self
    rw [mm_ce1_j hk, hN, hM]
  | boolean =>
    obtain ⟨rfl, rfl, rfl, rfl⟩ := mm_go_inv hs
    have hc : cells + (mm_n S + 1) ≤ R.cells + mm_n S := hc
    have hz : slots + (mm_z S + n.toNatClampNeg) ≤ R.slots + mm_z S := hz
    refine va_newa (atype := .boolean) hx hb (hts _ mm_ar_z) rfl hK I.1 I.2.1 I.2.2.1 hA (a0 := (n.toNatClampNeg, .inl fun _ => 0)) (fun _ => rfl) hn0 rfl (by show n.toNatClampNeg * 1 ≤ 536870912; omega) (by omega) (by omega) hd (fun q cA H1 hK1 a1 a2 a3 => ?_)
    have hcA : cA = ca 15 := Option.some.inj (((hK1.2 6 (cA, .boolean) rfl).2).symm.trans ((hK.2 2 (ca 15, .boolean) rfl).2))
    subst hcA
    refine mm_nw_ok hn2 I X.1 hr X.2.2 ?_ a1 a2 a3 K
    have hk : mm_K (mm_nw S 15 n.toNatClampNeg) (mm_n S) = 15 := mm_u_self
    have hN : mm_N (mm_nw S 15 n.toNatClampNeg) (mm_n S) = n.toNatClampNeg := mm_u_self
    have hM : mm_M (mm_nw S 15 n.toNatClampNeg) (mm_n S) = fun _ => 0 := mm_u_self
    rw [mm_ce1_z hk, hN, hM]
  | _ => cases hs
theorem mo_anewarray (i : Nat) : mm_Ok (.anewarray i) := by
  intro p l e R s m args below meth c Q D ca z A t XS d pc len ls st S pc2 ls2 st2 S2 aa H locs lm cells slots F I X hd hl hs hc hz K
  obtain ⟨hx, hb, hml, hown, hts, hnm, hcn, hK, hA, hdf, hdl⟩ := F
  obtain rfl : len = 3 := mm_lk_eq hl rfl (by decide)
  obtain ⟨n, r, rfl, hs2⟩ := mm_i1_inv hs
  clear hs
  obtain ⟨hg, hs⟩ := mm_gd_inv hs2
  simp only [Bool.and_eq_true, decide_eq_true_eq, Bool.not_eq_true', decide_eq_false_iff_not] at hg
  obtain ⟨⟨hn0, hn1⟩, hn2⟩ := hg
  have hr := mm_t1 X.2.1
  cases hv : mm_fd mm_AN t.2.2.2.2 i with
  | none => rw [hv] at hs; cases hs
  | some k =>
    rw [hv] at hs
    obtain ⟨rfl, rfl, rfl, rfl⟩ := mm_go_inv hs
    obtain ⟨w1, w2, w3⟩ := mm_AN_ok _ (mm_fd_mem hv)
    have w1 : k = 16 ∨ k = 17 ∨ k = 18 := w1
    have hc : cells + (mm_n S + 1) ≤ R.cells + mm_n S := hc
    have hz : slots + (mm_z S + n.toNatClampNeg) ≤ R.slots + mm_z S := hz
    refine va_newq hx hb hown (hts _ w2) (I.2.2.2.2.1.2.2.2.2.2.2.2.1 _ w3) hK I.1 I.2.1 I.2.2.1 hA hn0 rfl (by omega) (by omega) (by omega) hd (fun q cA H1 hK1 a1 a2 a3 => ?_)
    have hcA : cA = ca k := by
      obtain ⟨_, _, _, _, _, h1⟩ := (hK1.2 6 (cA, .object (mm_ce k)) rfl).2
      obtain ⟨_, _, _, _, _, h2⟩ := (hK.2 (k - 13) (ca k, .object (mm_ce k)) (mm_ats_q w1)).2
      exact Option.some.inj (h1.symm.trans h2)
    subst hcA
    refine mm_nw_ok hn2 I X.1 hr X.2.2 ?_ a1 a2 a3 K
    have hk : mm_K (mm_nw S k n.toNatClampNeg) (mm_n S) = k := mm_u_self
    have hN : mm_N (mm_nw S k n.toNatClampNeg) (mm_n S) = n.toNatClampNeg := mm_u_self
    have hM : mm_R (mm_nw S k n.toNatClampNeg) (mm_n S) = fun _ => none := mm_u_self
    rw [mm_ce1_q hk w1, hN, hM]
    rfl
theorem mo_new (i : Nat) : mm_Ok (.new i) := by
  intro p l e R s m args below meth c Q D ca z A t XS d pc len ls st S pc2 ls2 st2 S2 aa H locs lm cells slots F I X hd hl hs hc hz K
  obtain ⟨hx, hb, hml, hown, hts, hnm, hcn, hK, hA, hdf, hdl⟩ := F
  obtain rfl : len = 3 := mm_lk_eq hl rfl (by decide)
  obtain ⟨hg, hs2⟩ := mm_gd_inv hs
  clear hs
  have hn2 := of_decide_eq_true hg
  cases hv : mm_fd mm_NW t.2.2.2.2 i with
  | none => rw [hv] at hs2; cases hs2
  | some k =>
    rw [hv] at hs2
    obtain ⟨rfl, rfl, rfl, rfl⟩ := mm_go_inv hs2
    obtain ⟨w1, w2, w3, w4⟩ := mm_NW_ok _ (mm_fd_mem hv)
    have w1 : k < 13 := w1
    have hc : cells + (mm_n S + 1) ≤ R.cells + mm_n S := hc
    have hz : slots + (mm_z S + mm_NF k) ≤ R.slots + mm_z S := hz
    have hL : mm_L (mm_nw S k (mm_NF k)) (mm_n S) = fun _ => 0 := mm_u_self
    have hM : mm_M (mm_nw S k (mm_NF k)) (mm_n S) = fun _ => 0 := mm_u_self
    have hR : mm_R (mm_nw S k (mm_NF k)) (mm_n S) = fun _ => none := mm_u_self
    have hfs : ∀ j, j < mm_NF k → defaultValue (mm_ty k j) = vp_V (mm_fs aa (mm_nw S k (mm_NF k)) k (mm_n S)) j := by
      intro j hj
      unfold vp_V
      rw [List.getD_eq_getElem?_getD, mm_fs_get hj, hL, hM, hR]
      rcases mm_tgs k w1 j hj with ⟨h1, h2⟩ | ⟨h1, h2⟩ | ⟨h1, h2⟩ | ⟨h1, h2⟩
      · rw [h1, h2]; rfl
      · rw [h1, h2]; rfl
      · rw [h1, h2]; rfl
      · rw [h1]
        rcases h2 with ⟨n, h2⟩ | ⟨n, h2⟩ <;> rw [h2] <;> rfl
    refine va_new (C := mm_ck k) (T := mm_T k) (N := mm_NF k) (ci := k) hx hb hts (mm_uws _ w1) (mm_ty k) (mm_tys _ w1) hown (hts _ w2) (hts _ w3) (hts _ w4) hK I.1 I.2.1 I.2.2.1 hA (mm_cls_get _ w1) hfs (by omega) (by omega) hd (fun q H1 a1 a2 a3 => ?_)
    refine mm_nw_ok hn2 I X.1 X.2.1 X.2.2 ?_ a1 a2 a3 K
    have hk : mm_K (mm_nw S k (mm_NF k)) (mm_n S) = k := mm_u_self
    rw [mm_ce1_obj (by rw [hk]; exact w1), hk]
theorem mo_instanceof (i : Nat) : mm_Ok (.instanceof i) := by
  intro p l e R s m args below meth c Q D ca z A t XS d pc len ls st S pc2 ls2 st2 S2 aa H locs lm cells slots F I X hd hl hs hc hz K
  obtain ⟨hx, hb, hml, hown, hts, hnm, hcn, hK, hA, hdf, hdl⟩ := F
  obtain rfl : len = 3 := mm_lk_eq hl rfl (by decide)
  obtain ⟨a, r, rfl, hs2⟩ := mm_r1_inv hs
  clear hs
  cases hv : mm_fd mm_IO t.2.2.2.2 i with
  | none => rw [hv] at hs2; cases hs2
  | some q0 =>
    obtain ⟨nm, yes⟩ := q0
    rw [hv] at hs2
    obtain ⟨ho, hs⟩ := mm_gd_inv hs2
    obtain ⟨rfl, rfl, rfl, rfl⟩ := mm_go_inv hs
    obtain ⟨ha, h13, hfam⟩ := mm_obj_sp ho
    obtain ⟨w1, w2, w3⟩ := mm_IO_ok _ (mm_fd_mem hv)
    simp only at w1 w2 w3
    have hcell := mm_ws_get (ca := ca) (aa := aa) ha
    rw [mm_ce1_obj h13] at hcell
    have hr := va_recv hK I.1 (mm_cls_get _ h13) hcell
    rw [List.map_cons, mm_ad_ref]
    have K1 := mm_K0 K I (mm_Xp X fun h => mm_p1 (v := .int (if mm_K S a ∈ yes then 1 else 0)) trivial (mm_t1 h))
    by_cases hy : mm_K S a ∈ yes
    · simp only [if_pos hy] at K1
      rcases w2 _ hy with h | h
      · rw [← h] at w1
        exact va_instE hx hb hown (hts _ w1) hr hd K1
      · exact va_instY hx hb hown (hts _ w1) (I.2.2.2.2.1.2.2.2.2.2.2.1 _ h) hr hd K1
    · simp only [if_neg hy] at K1
      exact va_instNo hx hb hown (hts _ w1) (I.2.2.2.2.1.2.2.2.2.2.1 _ (w3 _ hfam hy)) hr hd K1
theorem mm_lmsz {aa : Nat → Nat} {z : Value} {ls : List Value} {lm : Array Slot} {n : Nat} (h : mm_Lr aa z ls lm n) : lm.size = n := h.2.1
theorem mo_invokestatic (i : Nat) : mm_Ok (.invokestatic i) := by
  intro p l e R s m args below meth c Q D ca z A t XS d pc len ls st S pc2 ls2 st2 S2 aa H locs lm cells slots F I X hd hl hs hc hz K
  obtain ⟨hx, hb, hml, hown, hts, hnm, hcn, hK, hA, hdf, hdl⟩ := F
  obtain rfl : len = 3 := mm_lk_eq hl rfl (by decide)
  have hzc : z.category = 1 := I.2.2.2.2.1.2.2.2.2.1
  have hsz : c.maxLocals = lm.size := by rw [hml, mm_lmsz X.2.2]
  unfold mm_st at hs
  cases hv : mm_fd mm_AC t.2.2.2.2 i with
  | some u =>
    simp only [hv] at hs
    obtain ⟨dp, n, r, rfl, hs1⟩ := mm_i2_inv hs
    obtain ⟨a, r, rfl, hs2⟩ := mm_r1_inv hs1
    obtain ⟨sp, r, rfl, hs3⟩ := mm_i1_inv hs2
    obtain ⟨a0, r, rfl, hs4⟩ := mm_r1_inv hs3
    clear hs hs1 hs2 hs3
    obtain ⟨hg, hs⟩ := mm_gd_inv hs4
    rw [Bool.and_eq_true, decide_eq_true_eq, decide_eq_true_eq] at hg
    obtain ⟨hd1, hcs⟩ := hg
    have hlink := mm_AC_ok _ (mm_fd_mem hv)
    have hnw : nativeFrameWords "java/lang/System" "arraycopy" 5 ≤ 30 := by decide +kernel
    have hroom : ((r.map (mm_ad aa z)).map fun v => v.category).sum + (nativeFrameWords "java/lang/System" "arraycopy" 5 + 11) ≤ R.locals := by
      rw [mm_cs_map hzc]; omega
    have hvr : ∀ v ∈ r, mm_vok S v := mm_t1 (mm_t1 (mm_t1 (mm_t1 (mm_t1 X.2.1))))
    have cpy : ∀ {n0 n1 : Nat}, mm_cpOk sp dp n n0 n1 = true → ¬ sp < 0 ∧ ¬ dp < 0 ∧ ¬ n < 0 ∧ sp.toNatClampNeg + n.toNatClampNeg ≤ n0 ∧ dp.toNatClampNeg + n.toNatClampNeg ≤ n1 := by
      intro n0 n1 h
      unfold mm_cpOk at h
      simp only [Bool.and_eq_true, decide_eq_true_eq, Bool.not_eq_true', decide_eq_false_iff_not] at h
      exact ⟨h.1.1.1.1, h.1.1.1.2, h.1.1.2, h.1.2, h.2⟩
    by_cases h1 : (mm_arr S a0 13 && mm_arr S a 13 && mm_cpOk sp dp n (mm_N S a0) (mm_N S a)) = true
    · rw [if_pos h1] at hs
      obtain ⟨rfl, rfl, rfl, rfl⟩ := mm_go_inv hs
      rw [Bool.and_eq_true, Bool.and_eq_true] at h1
      obtain ⟨ha0, hk0⟩ := mm_arr_sp h1.1.1
      obtain ⟨ha, hk⟩ := mm_arr_sp h1.1.2
      obtain ⟨g1, g2, g3, g4, g5⟩ := cpy h1.2
      have hc0 := mm_ws_get (ca := ca) (aa := aa) ha0
      rw [mm_ce1_i hk0] at hc0
      have hc1 := mm_ws_get (ca := ca) (aa := aa) ha
      rw [mm_ce1_i hk] at hc1
      simp only [List.map_cons]
      rw [mm_ad_ref, mm_ad_ref]
      refine va_copyi hx hb hsz hown (hts _ hlink) (hts _ mm_ac1) (hts _ mm_ac2) (hts _ mm_ac3) hK I.1 I.2.1 I.2.2.1 a0 a 0 0 hc0 hc1 rfl rfl rfl g1 g2 g3 g4 g5 (fun _ _ => rfl) (by omega) hroom hd (fun H1 locs1 a1 a2 a3 => ?_)
      refine K aa H1 locs1 lm cells slots rfl rfl (fun _ _ => rfl) (mm_Ix_sM I ha ?_ a1 a2 a3) ⟨X.1, hvr, X.2.2⟩
      rw [mm_ce1_i (S := mm_sM S a _) hk]
      have e1 : mm_M (mm_sM S a (va_cpy (mm_M S a0) (mm_M S a) sp.toNatClampNeg dp.toNatClampNeg n.toNatClampNeg)) a = va_cpy (mm_M S a0) (mm_M S a) sp.toNatClampNeg dp.toNatClampNeg n.toNatClampNeg := mm_u_self
      rw [e1]; rfl
    · rw [if_neg h1] at hs
      by_cases h1 : (mm_arr S a0 14 && mm_arr S a 14 && mm_cpOk sp dp n (mm_N S a0) (mm_N S a)) = true
      · rw [if_pos h1] at hs
        obtain ⟨rfl, rfl, rfl, rfl⟩ := mm_go_inv hs
        rw [Bool.and_eq_true, Bool.and_eq_true] at h1
        obtain ⟨ha0, hk0⟩ := mm_arr_sp h1.1.1
        obtain ⟨ha, hk⟩ := mm_arr_sp h1.1.2
        obtain ⟨g1, g2, g3, g4, g5⟩ := cpy h1.2
        have hc0 := mm_ws_get (ca := ca) (aa := aa) ha0
        rw [mm_ce1_j hk0] at hc0
        have hc1 := mm_ws_get (ca := ca) (aa := aa) ha
        rw [mm_ce1_j hk] at hc1
        simp only [List.map_cons]
        rw [mm_ad_ref, mm_ad_ref]
        refine va_copyl hx hb hsz hown (hts _ hlink) (hts _ mm_ac1) (hts _ mm_ac2) (hts _ mm_ac3) hK I.1 I.2.1 I.2.2.1 a0 a 1 1 hc0 hc1 rfl rfl rfl g1 g2 g3 g4 g5 (fun _ _ => rfl) (by omega) hroom hd (fun H1 locs1 a1 a2 a3 => ?_)
        refine K aa H1 locs1 lm cells slots rfl rfl (fun _ _ => rfl) (mm_Ix_sL I ?_ a1 a2 a3) ⟨X.1, hvr, X.2.2⟩
        rw [mm_ce1_j (S := mm_sL S a _) hk]
        have e1 : mm_L (mm_sL S a (va_cpy (mm_L S a0) (mm_L S a) sp.toNatClampNeg dp.toNatClampNeg n.toNatClampNeg)) a = va_cpy (mm_L S a0) (mm_L S a) sp.toNatClampNeg dp.toNatClampNeg n.toNatClampNeg := mm_u_self
        rw [e1]; rfl
      · rw [if_neg h1] at hs
        cases hs
  | none =>
    simp only [hv] at hs
    cases hm : mm_fd mm_MX t.2.2.2.2 i with
    | none =>
      simp only [hm] at hs
      cases hq : mm_fd mm_ST t.2.2.2.2 i with
      | none => simp only [hq] at hs; cases hs
      | some q =>
        simp only [hq] at hs
        obtain ⟨-, hs⟩ := mm_gd_inv hs
        cases hs
    | some k =>
      simp only [hm] at hs
      obtain ⟨x, y, r, rfl, hs1⟩ := mm_i2_inv hs
      clear hs
      obtain ⟨hg, hs⟩ := mm_gd_inv hs1
      rw [Bool.and_eq_true, decide_eq_true_eq, decide_eq_true_eq] at hg
      obtain ⟨hd1, hcs⟩ := hg
      obtain ⟨rfl, rfl, rfl, rfl⟩ := mm_go_inv hs
      have hroom : ((r.map (mm_ad aa z)).map fun v => v.category).sum + 13 ≤ R.locals := by
        rw [mm_cs_map hzc]; omega
      have K1 := mm_K0 K I (mm_Xp X fun h => mm_p1 (v := .int (if k = 0 then (if y < x then y else x) else (if x < y then y else x))) trivial (mm_t1 (mm_t1 h)))
      rcases mm_MX_ok _ (mm_fd_mem hm) with ⟨h1, h2⟩ | ⟨h1, h2⟩
      · have h1 : k = 0 := h1
        subst h1
        exact va_mmin hx hb hsz hown (hts _ h2) (hts _ mm_mx_min1) (hts _ mm_mx_0) (hts _ mm_mx_min2) (by omega) hroom (by omega) (by omega) hd K1
      · have h1 : k = 1 := h1
        subst h1
        exact va_mmax hx hb hsz hown (hts _ h2) (hts _ mm_mx_max1) (hts _ mm_mx_0) (hts _ mm_mx_max2) (by omega) hroom (by omega) (by omega) hd K1
theorem mo_invokespecial (i : Nat) : mm_Ok (.invokespecial i) := by
  intro p l e R s m args below meth c Q D ca z A t XS d pc len ls st S pc2 ls2 st2 S2 aa H locs lm cells slots F I X hd hl hs hc hz K
  obtain ⟨hx, hb, hml, hown, hts, hnm, hcn, hK, hA, hdf, hdl⟩ := F
  obtain rfl : len = 3 := mm_lk_eq hl rfl (by decide)
  have hzc : z.category = 1 := I.2.2.2.2.1.2.2.2.2.1
  have hsz : c.maxLocals = lm.size := by rw [hml, mm_lmsz X.2.2]
  unfold mm_st at hs
  cases hv : mm_fd mm_OI t.2.2.2.2 i with
  | some u =>
    simp only [hv] at hs
    obtain ⟨a, r, rfl, hs1⟩ := mm_r1_inv hs
    clear hs
    obtain ⟨hg, hs⟩ := mm_gd_inv hs1
    simp only [Bool.and_eq_true, decide_eq_true_eq] at hg
    obtain ⟨hd1, hcs⟩ := hg
    obtain ⟨rfl, rfl, rfl, rfl⟩ := mm_go_inv hs
    rw [List.map_cons, mm_ad_ref]
    have K1 := mm_K0 K I (mm_Xp X mm_t1)
    have hroom := lv_room (m := m) (pc := pc) (ls := lm) (rest := .ref (aa a) :: r.map (mm_ad aa z)) (st := r.map (mm_ad aa z)) (by rw [mm_cs_map hzc]; exact hcs)
    exact W.objInit hx hb hown (hts _ (mm_OI_ok _ (mm_fd_mem hv))) (hts _ mm_oi1) (hts _ mm_oi2) rfl hsz.symm rfl hd (by omega) (by omega) K1
  | none =>
    simp only [hv] at hs
    cases hq : mm_fd mm_SP t.2.2.2.2 i with
    | none => simp only [hq] at hs; cases hs
    | some q =>
      simp only [hq] at hs
      obtain ⟨-, hs⟩ := mm_gd_inv hs
      obtain ⟨a, r, -, hs⟩ := mm_r1_inv hs
      obtain ⟨-, hs⟩ := mm_gd_inv hs
      cases hs
theorem mo_invokevirtual (i : Nat) : mm_Ok (.invokevirtual i) := by
  intro p l e R s m args below meth c Q D ca z A t XS d pc len ls st S pc2 ls2 st2 S2 aa H locs lm cells slots F I X hd hl hs hc hz K
  unfold mm_st at hs
  cases hq : mm_fd mm_VT t.2.2.2.2 i with
  | none => simp only [hq] at hs; cases hs
  | some q =>
    simp only [hq] at hs
    obtain ⟨-, hs⟩ := mm_gd_inv hs
    obtain ⟨a, r, -, hs⟩ := mm_r1_inv hs
    obtain ⟨-, hs⟩ := mm_gd_inv hs
    cases hy : mm_lu q.2 (mm_rk S a) with
    | none => simp only [hy] at hs; cases hs
    | some y => simp only [hy] at hs; cases hs
