/-! ===== instructions that look at the heap ===== -/
theorem mm_K0 {p : Program} {l : Launch} {e : Env} {R : Room} {s : State} {m : MethodId} {args : Array Value} {below : List Frame} {meth : Method} {c : Code} {Q : State → Prop} {D : va_G} {ca : Nat → ClassId} {z : Value} {A : Nat → Prop} {t : mm_mT} {XS : Nat × (Nat → Int32)} {aa : Nat → Nat} {S : mm_S} {cells slots pc2 : Nat} {ls st2 : List Value} {H : Heap} {locs : List Loc} {lm : Array Slot} (K : mm_Kx p l e R s m args below meth c Q D ca z A t XS aa S cells slots pc2 ls st2 S) (I : mm_Ix s D ca z A t XS aa S H locs) (X : mm_Sx aa z S t ls lm st2) : W p l e R s m args below meth c H locs cells slots Q (F0 m pc2 lm (st2.map (mm_ad aa z))) := K aa H locs lm cells slots rfl rfl (fun _ _ => rfl) I X
theorem mm_Xp {aa : Nat → Nat} {z : Value} {S : mm_S} {t : mm_mT} {ls : List Value} {lm : Array Slot} {st st2 : List Value} (X : mm_Sx aa z S t ls lm st) (h : (∀ v ∈ st, mm_vok S v) → ∀ v ∈ st2, mm_vok S v) : mm_Sx aa z S t ls lm st2 := ⟨X.1, h X.2.1, X.2.2⟩
theorem mm_isS_sp {a : Nat} (h : mm_isS a = true) : ∃ k : Nat, k < 12 ∧ a = 1000000 + 2 * k := by
  unfold mm_isS at h
  simp only [Bool.and_eq_true, decide_eq_true_eq] at h
  exact ⟨(a - 1000000) / 2, by omega, by omega⟩
theorem mo_tableswitch (df lo hi : Int) (offs : Array Int) : mm_Ok (.tableswitch df lo hi offs) := by
  intro p l e R s m args below meth c Q D ca z A t XS d pc len ls st S pc2 ls2 st2 S2 aa H locs lm cells slots F I X hd hl hs hc hz K
  obtain ⟨hx, hb, hml, hown, hts, hnm, hcn, hK, hA, hdf, hdl⟩ := F
  obtain ⟨x, r, rfl, hs1⟩ := mm_i1_inv hs
  clear hs
  have hs := hs1
  clear hs1
  by_cases h : x.toInt < lo ∨ hi < x.toInt
  · rw [if_pos h] at hs
    obtain ⟨ht, rfl, rfl, rfl⟩ := mm_jp_inv hs
    exact lv_tableOut hx hb hd h ht (mm_K0 K I (mm_Xp X mm_t1))
  · rw [if_neg h] at hs
    cases ho : offs[(x.toInt - lo).toNat]? with
    | none => rw [ho] at hs; cases hs
    | some off =>
      rw [ho] at hs
      obtain ⟨ht, rfl, rfl, rfl⟩ := mm_jp_inv hs
      exact lv_tableIn hx hb hd (fun q => h (Or.inl q)) (fun q => h (Or.inr q)) ho ht (mm_K0 K I (mm_Xp X mm_t1))
theorem mo_lookupswitch (df : Int) (ps : Array (Int × Int)) : mm_Ok (.lookupswitch df ps) := by
  intro p l e R s m args below meth c Q D ca z A t XS d pc len ls st S pc2 ls2 st2 S2 aa H locs lm cells slots F I X hd hl hs hc hz K
  obtain ⟨hx, hb, hml, hown, hts, hnm, hcn, hK, hA, hdf, hdl⟩ := F
  obtain ⟨x, r, rfl, hs1⟩ := mm_i1_inv hs
  clear hs
  have hs := hs1
  clear hs1
  obtain ⟨hp, hs⟩ := mm_gd_inv hs
  obtain ⟨ht, rfl, rfl, rfl⟩ := mm_jp_inv hs
  exact lv_lookup hx hb hd hp rfl ht (mm_K0 K I (mm_Xp X mm_t1))
theorem mo_ldc (i : Nat) : mm_Ok (.ldc i) := by
  intro p l e R s m args below meth c Q D ca z A t XS d pc len ls st S pc2 ls2 st2 S2 aa H locs lm cells slots F I X hd hl hs hc hz K
  obtain ⟨hx, hb, hml, hown, hts, hnm, hcn, hK, hA, hdf, hdl⟩ := F
  obtain rfl : len = 2 := mm_lk_eq hl rfl (by decide)
  unfold mm_st at hs
  cases hv : mm_fd mm_LC t.2.2.2.2 i with
  | none => simp only [hv] at hs; cases hs
  | some v =>
    simp only [hv] at hs
    obtain ⟨rfl, rfl, rfl, rfl⟩ := mm_go_inv hs
    rcases mm_LC_ok _ (mm_fd_mem hv) with ⟨w, g1, g2⟩ | ⟨k, hk, g1, g2, g3⟩
    · have h1 : v = .int w := g1
      subst h1
      exact lv_ldc hx hb hown (hts _ g2) hd (mm_K0 K I (mm_Xp X (mm_p1 trivial)))
    · have h1 : v = .ref (1000000 + 2 * k) := g1
      have h2 : t.2.2.2.2 = 5 := g2
      have h3 : i = (mm_sx k).1 := g3
      clear g1 g2 g3
      subst h1
      have K1 := mm_K0 K I (mm_Xp X (mm_p1 (v := .ref (1000000 + 2 * k)) (Or.inr (Nat.le_add_right _ _))))
      rw [List.map_cons, mm_ad_ref] at K1
      have hZ := I.2.2.2.2.1.2.1 k hk
      rw [← h3] at hZ
      have hown5 : s.vm.findClass "PennyMore$Reader" = some m.cls := by
        rw [h2] at hown
        exact hown
      exact va_ldcS hx hb hown5 hZ hd K1
theorem mo_ldc_w (i : Nat) : mm_Ok (.ldc_w i) := by
  intro p l e R s m args below meth c Q D ca z A t XS d pc len ls st S pc2 ls2 st2 S2 aa H locs lm cells slots F I X hd hl hs hc hz K
  obtain ⟨hx, hb, hml, hown, hts, hnm, hcn, hK, hA, hdf, hdl⟩ := F
  obtain rfl : len = 3 := mm_lk_eq hl rfl (by decide)
  unfold mm_st at hs
  cases hv : mm_fd mm_LC t.2.2.2.2 i with
  | none => simp only [hv] at hs; cases hs
  | some v =>
    simp only [hv] at hs
    cases v with
    | int v =>
      obtain ⟨rfl, rfl, rfl, rfl⟩ := mm_go_inv hs
      rcases mm_LC_ok _ (mm_fd_mem hv) with ⟨w, h1, h2⟩ | ⟨k, hk, h1, h2, h3⟩
      · have h1 : Value.int v = .int w := h1
        cases h1
        exact lv_ldcw hx hb hown (hts _ h2) hd (mm_K0 K I (mm_Xp X (mm_p1 trivial)))
      · cases h1
    | _ => cases hs
theorem mo_ldc2_w (i : Nat) : mm_Ok (.ldc2_w i) := by
  intro p l e R s m args below meth c Q D ca z A t XS d pc len ls st S pc2 ls2 st2 S2 aa H locs lm cells slots F I X hd hl hs hc hz K
  obtain ⟨hx, hb, hml, hown, hts, hnm, hcn, hK, hA, hdf, hdl⟩ := F
  obtain rfl : len = 3 := mm_lk_eq hl rfl (by decide)
  unfold mm_st at hs
  cases hv : mm_fd mm_L2 t.2.2.2.2 i with
  | none => simp only [hv] at hs; cases hs
  | some v =>
    simp only [hv] at hs
    obtain ⟨rfl, rfl, rfl, rfl⟩ := mm_go_inv hs
    exact lv_ldc2 hx hb hown (hts _ (mm_L2_ok _ (mm_fd_mem hv))) hd (mm_K0 K I (mm_Xp X (mm_p1 trivial)))
theorem mo_getstatic (i : Nat) : mm_Ok (.getstatic i) := by
  intro p l e R s m args below meth c Q D ca z A t XS d pc len ls st S pc2 ls2 st2 S2 aa H locs lm cells slots F I X hd hl hs hc hz K
  obtain ⟨hx, hb, hml, hown, hts, hnm, hcn, hK, hA, hdf, hdl⟩ := F
  obtain rfl : len = 3 := mm_lk_eq hl rfl (by decide)
  have hs : (if t.2.2.2.2 = 13 ∧ i = 38 then mm_go (pc + 3) ls (.int 1 :: st) S else if t.2.2.2.2 = 13 ∧ i = 1053 then mm_go (pc + 3) ls (mm_FM :: st) S else none) = mm_go pc2 ls2 st2 S2 := hs
  by_cases h1 : t.2.2.2.2 = 13 ∧ i = 38
  · rw [if_pos h1] at hs
    obtain ⟨rfl, rfl, rfl, rfl⟩ := mm_go_inv hs
    obtain ⟨h2, rfl⟩ := h1
    rw [h2] at hown
    exact va_gets hx hb I.2.2.2.2.1.2.2.1 I.2.2.1 hown (hts _ mm_gs1) (fun _ h => h) hd (mm_K0 K I (mm_Xp X (mm_p1 trivial)))
  · rw [if_neg h1] at hs
    by_cases h1 : t.2.2.2.2 = 13 ∧ i = 1053
    · rw [if_pos h1] at hs
      obtain ⟨rfl, rfl, rfl, rfl⟩ := mm_go_inv hs
      obtain ⟨h2, rfl⟩ := h1
      rw [h2] at hown
      have K1 := mm_K0 K I (mm_Xp X (mm_p1 (v := mm_FM) trivial))
      exact va_gets hx hb I.2.2.2.2.1.2.2.2.1 I.2.2.1 hown (hts _ mm_gs2) (fun _ h => h) hd K1
    · rw [if_neg h1] at hs
      cases hs
theorem mm_famT {f k : Nat} (hf : f = 0 ∨ mm_bk f = false) (h : mm_fam f k = true) : mm_T k = mm_T f ∧ mm_NF k = mm_NF f ∧ mm_tg k = mm_tg f := by
  unfold mm_fam at h
  by_cases h0 : f = 0
  · subst h0
    simp only [beq_self_eq_true, if_true, mm_bk, Bool.or_eq_true, beq_iff_eq] at h
    rcases h with (((((h|h)|h)|h)|h)|h)|h <;> subst h <;> refine ⟨rfl, rfl, ?_⟩ <;> funext j <;> (match j with
      | 0 => rfl
      | 1 => rfl
      | 2 => rfl
      | 3 => rfl
      | j + 4 => rfl)
  · simp only [beq_iff_eq, h0, if_false] at h
    subst h
    exact ⟨rfl, rfl, rfl⟩
theorem mm_obj_sp {S : mm_S} {a f : Nat} (h : mm_obj S a f = true) : a < mm_n S ∧ mm_K S a < 13 ∧ mm_fam f (mm_K S a) = true := by
  unfold mm_obj at h
  simp only [Bool.and_eq_true, decide_eq_true_eq] at h
  exact ⟨h.1.1, h.1.2, h.2⟩
theorem mm_fs_get {aa : Nat → Nat} {S : mm_S} {k i j : Nat} (h : j < mm_NF k) : (mm_fs aa S k i)[j]? = some (if mm_tg k j = 1 then .long (mm_L S i j) else if mm_tg k j = 2 then va_rf ((mm_R S i j).map aa) else .int (mm_M S i j)) := by
  simp [mm_fs, h]
theorem mm_fs_len {aa : Nat → Nat} {S : mm_S} {k i : Nat} : (mm_fs aa S k i).length = mm_NF k := by simp [mm_fs]
theorem mm_ce1_obj {ca : Nat → ClassId} {aa : Nat → Nat} {S : mm_S} {i : Nat} (h : mm_K S i < 13) : mm_ce1 ca aa S i = .inr (mm_K S i, mm_fs aa S (mm_K S i) i) := by
  unfold mm_ce1
  rw [if_pos h]
theorem mo_getfield (i : Nat) : mm_Ok (.getfield i) := by
  intro p l e R s m args below meth c Q D ca z A t XS d pc len ls st S pc2 ls2 st2 S2 aa H locs lm cells slots F I X hd hl hs hc hz K
  obtain ⟨hx, hb, hml, hown, hts, hnm, hcn, hK, hA, hdf, hdl⟩ := F
  obtain rfl : len = 3 := mm_lk_eq hl rfl (by decide)
  obtain ⟨a, r, rfl, hs1⟩ := mm_r1_inv hs
  clear hs
  have hs := hs1
  clear hs1
  by_cases h13 : t.2.2.2.2 = 13
  · rw [if_pos h13] at hs
    by_cases hS : mm_isS a = true
    · rw [if_pos hS] at hs
      obtain ⟨k, hk, rfl⟩ := mm_isS_sp hS
      rw [h13] at hown
      have hE := I.2.2.2.2.1.1.1 k hk
      by_cases h9 : i = 9
      · rw [if_pos h9] at hs
        obtain ⟨rfl, rfl, rfl, rfl⟩ := mm_go_inv hs
        subst h9
        have K1 := mm_K0 K I (mm_Xp X (fun h => mm_p1 (v := .ref (1000000 + 2 * k + 1)) (Or.inr (Nat.le_trans (Nat.le_add_right 1000000 (2 * k)) (Nat.le_succ _))) (mm_t1 h)))
        rw [List.map_cons, mm_ad_ref] at K1
        rw [List.map_cons, mm_ad_ref]
        exact vk_getf hx hb hE.2.2.1 I.2.2.1 hown (hts _ mm_gs3) (fun _ h => h) hd K1
      · rw [if_neg h9] at hs
        by_cases h15 : i = 15
        · rw [if_pos h15] at hs
          obtain ⟨rfl, rfl, rfl, rfl⟩ := mm_go_inv hs
          subst h15
          have K1 := mm_K0 K I (mm_Xp X (fun h => mm_p1 (v := .int 0) trivial (mm_t1 h)))
          rw [List.map_cons, mm_ad_ref]
          exact vk_getf hx hb hE.2.1 I.2.2.1 hown (hts _ mm_gs4) (fun _ h => h) hd K1
        · rw [if_neg h15] at hs; cases hs
    · rw [if_neg hS] at hs; cases hs
  · rw [if_neg h13] at hs
    cases hf : mm_fd mm_FL t.2.2.2.2 i with
    | none => rw [hf] at hs; cases hs
    | some e0 =>
      obtain ⟨f, k, tg, fi⟩ := e0
      simp only [hf] at hs
      cases hg : mm_gf S f k tg a with
      | none => rw [hg] at hs; cases hs
      | some v =>
        rw [hg] at hs
        obtain ⟨rfl, rfl, rfl, rfl⟩ := mm_go_inv hs
        obtain ⟨ref, w1, w2, w3, w4, w5, w6⟩ := mm_FL_ok _ (mm_fd_mem hf)
        simp only at w1 w2 w3 w4 w5 w6
        unfold mm_gf at hg
        by_cases ho : mm_obj S a f = true
        · rw [if_pos ho] at hg
          obtain ⟨ha, hk13, hfam⟩ := mm_obj_sp ho
          obtain ⟨t1, t2, t3⟩ := mm_famT w5.2 hfam
          have hcell := mm_ws_get (ca := ca) (aa := aa) ha
          rw [mm_ce1_obj hk13] at hcell
          have hkN : k < mm_NF (mm_K S a) := by rw [t2]; exact w3
          have hfv := mm_fs_get (aa := aa) (S := S) (i := a) hkN
          rw [t3, w4] at hfv
          have hvv : mm_vok S v ∧ mm_ad aa z v = (if tg = 1 then .long (mm_L S a k) else if tg = 2 then va_rf ((mm_R S a k).map aa) else .int (mm_M S a k)) := by
            by_cases g1 : tg = 1
            · rw [if_pos g1] at hg ⊢
              cases hg
              exact ⟨trivial, rfl⟩
            · rw [if_neg g1] at hg ⊢
              by_cases g2 : tg = 2
              · rw [if_pos g2] at hg ⊢
                cases hg
                have hlt : ∀ b, mm_R S a k = some b → b < mm_n S := I.2.2.2.1.1 a ha k
                refine ⟨?_, mm_ad_rv⟩
                cases hr : mm_R S a k with
                | none => exact trivial
                | some b => exact Or.inl (hlt b hr)
              · rw [if_neg g2] at hg ⊢
                cases hg
                exact ⟨trivial, rfl⟩
          have K1 := mm_K0 K I (mm_Xp X (fun h => mm_p1 hvv.1 (mm_t1 h)))
          rw [List.map_cons, hvv.2] at K1
          rw [List.map_cons, mm_ad_ref]
          refine va_get (C := mm_ck (mm_K S a)) (T := mm_T (mm_K S a)) (N := mm_NF (mm_K S a)) (ci := mm_K S a) (ref := ref) hx hb hts (mm_uws _ hk13) hown hK I.1 a hcell (mm_cls_get _ hk13) k hkN (by rw [t1]; exact hts _ w1) ?_ hfv hd K1
          rw [t1]
          rcases w2 with rfl | w2
          · exact fun _ h => h
          · exact u_same (hts _ w2)
        · rw [if_neg ho] at hg; cases hg
theorem mm_fs_sM {aa : Nat → Nat} {S : mm_S} {q a k : Nat} {x : Int32} (h1 : ¬ mm_tg q k = 1) (h2 : ¬ mm_tg q k = 2) : (mm_fs aa S q a).set k (.int x) = mm_fs aa (mm_sM S a (mm_u (mm_M S a) k x)) q a := by
  apply List.ext_getElem?
  intro j
  by_cases hj : j < mm_NF q
  · rw [mm_fs_get hj]
    have e1 : mm_M (mm_sM S a (mm_u (mm_M S a) k x)) a = mm_u (mm_M S a) k x := mm_u_self
    have e2 : mm_L (mm_sM S a (mm_u (mm_M S a) k x)) = mm_L S := rfl
    have e3 : mm_R (mm_sM S a (mm_u (mm_M S a) k x)) = mm_R S := rfl
    rw [e1, e2, e3]
    by_cases h : j = k
    · subst h
      rw [List.getElem?_set_self (by rw [mm_fs_len]; exact hj), if_neg h1, if_neg h2, mm_u_self]
    · rw [List.getElem?_set_ne (Ne.symm h), mm_fs_get hj, mm_u_ne h]
  · rw [List.getElem?_eq_none (by rw [List.length_set, mm_fs_len]; omega), List.getElem?_eq_none (by rw [mm_fs_len]; omega)]
theorem mm_fs_sL {aa : Nat → Nat} {S : mm_S} {q a k : Nat} {x : Int64} (h1 : mm_tg q k = 1) : (mm_fs aa S q a).set k (.long x) = mm_fs aa (mm_sL S a (mm_u (mm_L S a) k x)) q a := by
  apply List.ext_getElem?
  intro j
  by_cases hj : j < mm_NF q
  · rw [mm_fs_get hj]
    have e1 : mm_L (mm_sL S a (mm_u (mm_L S a) k x)) a = mm_u (mm_L S a) k x := mm_u_self
    have e2 : mm_M (mm_sL S a (mm_u (mm_L S a) k x)) = mm_M S := rfl
    have e3 : mm_R (mm_sL S a (mm_u (mm_L S a) k x)) = mm_R S := rfl
    rw [e1, e2, e3]
    by_cases h : j = k
    · subst h
      rw [List.getElem?_set_self (by rw [mm_fs_len]; exact hj), if_pos h1, mm_u_self]
    · rw [List.getElem?_set_ne (Ne.symm h), mm_fs_get hj, mm_u_ne h]
  · rw [List.getElem?_eq_none (by rw [List.length_set, mm_fs_len]; omega), List.getElem?_eq_none (by rw [mm_fs_len]; omega)]
theorem mm_fs_sR {aa : Nat → Nat} {S : mm_S} {q a k b : Nat} (h1 : mm_tg q k = 2) : (mm_fs aa S q a).set k (.ref (aa b)) = mm_fs aa (mm_sR S a (mm_u (mm_R S a) k (some b))) q a := by
  apply List.ext_getElem?
  intro j
  by_cases hj : j < mm_NF q
  · rw [mm_fs_get hj]
    have e1 : mm_R (mm_sR S a (mm_u (mm_R S a) k (some b))) a = mm_u (mm_R S a) k (some b) := mm_u_self
    have e2 : mm_M (mm_sR S a (mm_u (mm_R S a) k (some b))) = mm_M S := rfl
    have e3 : mm_L (mm_sR S a (mm_u (mm_R S a) k (some b))) = mm_L S := rfl
    rw [e1, e2, e3]
    by_cases h : j = k
    · subst h
      rw [List.getElem?_set_self (by rw [mm_fs_len]; exact hj), if_neg (by omega), if_pos h1, mm_u_self]
      rfl
    · rw [List.getElem?_set_ne (Ne.symm h), mm_fs_get hj, mm_u_ne h]
  · rw [List.getElem?_eq_none (by rw [List.length_set, mm_fs_len]; omega), List.getElem?_eq_none (by rw [mm_fs_len]; omega)]
theorem mm_wf_sR {S : mm_S} {a k : Nat} {o : Option Nat} (h : mm_wf S) (ho : ∀ b, o = some b → b < mm_n S) : mm_wf (mm_sR S a (mm_u (mm_R S a) k o)) := by
  refine ⟨fun i hi j b hb => ?_, h.2⟩
  have hb : mm_u (mm_R S) a (mm_u (mm_R S a) k o) i j = some b := hb
  by_cases h1 : i = a
  · subst h1
    rw [mm_u_self] at hb
    by_cases h2 : j = k
    · subst h2
      rw [mm_u_self] at hb
      exact ho b hb
    · rw [mm_u_ne h2] at hb
      exact h.1 i hi j b hb
  · rw [mm_u_ne h1] at hb
    exact h.1 i hi j b hb
/-- the script is none of the cells -/
theorem mm_Ix_sM {s : State} {D : va_G} {ca : Nat → ClassId} {z : Value} {A : Nat → Prop} {t : mm_mT} {XS : Nat × (Nat → Int32)} {aa : Nat → Nat} {S : mm_S} {H H1 : Heap} {locs locs1 : List Loc} {a : Nat} {f : Nat → Int32} (I : mm_Ix s D ca z A t XS aa S H locs) (ha : a < mm_n S) {e1 : va_E} (he : mm_ce1 ca aa (mm_sM S a f) a = e1) (h1 : va_P D mm_cl_s ((mm_ws ca aa S).set a (aa a, e1)) H1) (h2 : va_D A ((mm_ws ca aa S).set a (aa a, e1))) (h3 : va_S A s.heap H1 locs1) : mm_Ix s D ca z A t XS aa (mm_sM S a f) H1 locs1 := by
  have hset := mm_ws_set (ca := ca) (aa := aa) (S := S) (S' := mm_sM S a f) (i := a) he rfl mm_ce1_sM
  rw [hset] at h1 h2
  have hne : mm_SC ≠ a := by
    have := I.2.2.2.1.2
    show 3000000 ≠ a
    omega
  have hm : mm_M (mm_sM S a f) mm_SC = mm_M S mm_SC := mm_u_ne hne
  exact ⟨h1, h2, h3, I.2.2.2.1, I.2.2.2.2.1, I.2.2.2.2.2.1, hm.trans I.2.2.2.2.2.2.1, I.2.2.2.2.2.2.2⟩
theorem mm_Ix_sL {s : State} {D : va_G} {ca : Nat → ClassId} {z : Value} {A : Nat → Prop} {t : mm_mT} {XS : Nat × (Nat → Int32)} {aa : Nat → Nat} {S : mm_S} {H H1 : Heap} {locs locs1 : List Loc} {a : Nat} {f : Nat → Int64} (I : mm_Ix s D ca z A t XS aa S H locs) {e1 : va_E} (he : mm_ce1 ca aa (mm_sL S a f) a = e1) (h1 : va_P D mm_cl_s ((mm_ws ca aa S).set a (aa a, e1)) H1) (h2 : va_D A ((mm_ws ca aa S).set a (aa a, e1))) (h3 : va_S A s.heap H1 locs1) : mm_Ix s D ca z A t XS aa (mm_sL S a f) H1 locs1 := by
  have hset := mm_ws_set (ca := ca) (aa := aa) (S := S) (S' := mm_sL S a f) (i := a) he rfl mm_ce1_sL
  rw [hset] at h1 h2
  exact ⟨h1, h2, h3, I.2.2.2.1, I.2.2.2.2.1, I.2.2.2.2.2⟩
theorem mm_Ix_sR {s : State} {D : va_G} {ca : Nat → ClassId} {z : Value} {A : Nat → Prop} {t : mm_mT} {XS : Nat × (Nat → Int32)} {aa : Nat → Nat} {S : mm_S} {H H1 : Heap} {locs locs1 : List Loc} {a k : Nat} {o : Option Nat} (I : mm_Ix s D ca z A t XS aa S H locs) (ho : ∀ b, o = some b → b < mm_n S) {e1 : va_E} (he : mm_ce1 ca aa (mm_sR S a (mm_u (mm_R S a) k o)) a = e1) (h1 : va_P D mm_cl_s ((mm_ws ca aa S).set a (aa a, e1)) H1) (h2 : va_D A ((mm_ws ca aa S).set a (aa a, e1))) (h3 : va_S A s.heap H1 locs1) : mm_Ix s D ca z A t XS aa (mm_sR S a (mm_u (mm_R S a) k o)) H1 locs1 := by
  have hset := mm_ws_set (ca := ca) (aa := aa) (S := S) (S' := mm_sR S a (mm_u (mm_R S a) k o)) (i := a) he rfl mm_ce1_sR
  rw [hset] at h1 h2
  exact ⟨h1, h2, h3, mm_wf_sR I.2.2.2.1 ho, I.2.2.2.2.1, I.2.2.2.2.2⟩
theorem mo_putfield (i : Nat) : mm_Ok (.putfield i) := by
  intro p l e R s m args below meth c Q D ca z A t XS d pc len ls st S pc2 ls2 st2 S2 aa H locs lm cells slots F I X hd hl hs hc hz K
  obtain ⟨hx, hb, hml, hown, hts, hnm, hcn, hK, hA, hdf, hdl⟩ := F
  obtain rfl : len = 3 := mm_lk_eq hl rfl (by decide)
  obtain ⟨v, a, r, rfl, hs1⟩ := mm_pr_inv hs
  clear hs
  have hs := hs1
  clear hs1
  · cases hf : mm_fd mm_FL t.2.2.2.2 i with
    | none => rw [hf] at hs; cases hs
    | some e0 =>
      obtain ⟨f, k, tg, fi⟩ := e0
      simp only [hf] at hs
      obtain ⟨hfin, hs⟩ := mm_gd_inv hs
      cases hg : mm_pf S f k tg a v with
      | none => rw [hg] at hs; cases hs
      | some S1 =>
        rw [hg] at hs
        obtain ⟨rfl, rfl, rfl, rfl⟩ := mm_go_inv hs
        obtain ⟨ref, w1, w2, w3, w4, w5, w6⟩ := mm_FL_ok _ (mm_fd_mem hf)
        simp only at w1 w2 w3 w4 w5 w6
        unfold mm_pf at hg
        by_cases ho : mm_obj S a f = true
        · rw [if_pos ho] at hg
          obtain ⟨ha, hk13, hfam⟩ := mm_obj_sp ho
          obtain ⟨t1, t2, t3⟩ := mm_famT w5.2 hfam
          have hcell := mm_ws_get (ca := ca) (aa := aa) ha
          rw [mm_ce1_obj hk13] at hcell
          have hkN : k < mm_NF (mm_K S a) := by rw [t2]; exact w3
          have htg : mm_tg (mm_K S a) k = tg := by rw [t3]; exact w4
          have hty := mm_tgs _ hk13 k hkN
          rw [htg] at hty
          -- one row for every sort of value
          have go : ∀ (v1 : Value), mm_ad aa z v = v1 → narrow (mm_ty (mm_K S a) k) v1 = v1 → fits (mm_ty (mm_K S a) k) v1 = true → (∀ (H1 : Heap) (locs1 : List Loc), va_P D mm_cl_s ((mm_ws ca aa S).set a (aa a, .inr (mm_K S a, (mm_fs aa S (mm_K S a) a).set k v1))) H1 → va_D A ((mm_ws ca aa S).set a (aa a, .inr (mm_K S a, (mm_fs aa S (mm_K S a) a).set k v1))) → va_S A s.heap H1 locs1 → mm_Ix s D ca z A t XS aa S1 H1 locs1 ∧ mm_n S1 = mm_n S ∧ mm_z S1 = mm_z S) → W p l e R s m args below meth c H locs cells slots Q (F0 m pc lm ((v :: .ref a :: r).map (mm_ad aa z))) := by
            intro v1 hv1 hn1 hf1 hnext
            rw [List.map_cons, List.map_cons, mm_ad_ref, hv1]
            have kk : ∀ (H1 : Heap) (locs1 : List Loc), va_P D mm_cl_s ((mm_ws ca aa S).set a (aa a, .inr (mm_K S a, (mm_fs aa S (mm_K S a) a).set k v1))) H1 → va_D A ((mm_ws ca aa S).set a (aa a, .inr (mm_K S a, (mm_fs aa S (mm_K S a) a).set k v1))) → va_S A s.heap H1 locs1 → W p l e R s m args below meth c H1 locs1 cells slots Q (F0 m (pc + 3) lm (r.map (mm_ad aa z))) := by
              intro H1 locs1 a1 a2 a3
              obtain ⟨b1, b2, b3⟩ := hnext H1 locs1 a1 a2 a3
              have hvk : ∀ w, mm_vok S w → mm_vok S1 w := by
                intro w hw
                unfold mm_vok at hw ⊢
                rw [b2]
                exact hw
              exact K aa H1 locs1 lm cells slots (by rw [b2]) (by rw [b3]) (fun _ _ => rfl) b1 ⟨fun w hw => hvk w (X.1 w hw), fun w hw => hvk w (mm_t1 (mm_t1 X.2.1) w hw), X.2.2⟩
            have hsm : ∀ x, s.fieldFound? (mm_T (mm_K S a) k).1 (mm_T (mm_K S a) k).2.1 (mm_T (mm_K S a) k).2.2.1 = some x → s.fieldFound? ref (mm_T (mm_K S a) k).2.1 (mm_T (mm_K S a) k).2.2.1 = some x := by
              rw [t1]
              rcases w2 with rfl | w2
              · exact fun _ h => h
              · exact u_same (hts _ w2)
            rcases w6 with ⟨w6, w7⟩ | ⟨w6, w7⟩
            · exact va_put (C := mm_ck (mm_K S a)) (T := mm_T (mm_K S a)) (N := mm_NF (mm_K S a)) (ci := mm_K S a) (ref := ref) hx hb hts (mm_uws _ hk13) (mm_ty (mm_K S a)) (mm_tys _ hk13) (mm_nms _ hk13) hown hK I.1 I.2.1 I.2.2.1 a hcell (mm_cls_get _ hk13) k hkN (by rw [t1]; exact hts _ w1) hsm (by rw [t1]; exact w7) (mm_tys _ hk13 k hkN) hn1 hf1 (by rw [mm_fs_len]; exact hkN) hd kk
            · have hin : t.1.name = "<init>" ∧ (mm_T f k).1 = t.1.cls := by
                simp only [Bool.or_eq_true, Bool.and_eq_true, decide_eq_true_eq] at hfin
                rcases hfin with q | q
                · omega
                · exact q
              exact va_putF (C := mm_ck (mm_K S a)) (T := mm_T (mm_K S a)) (N := mm_NF (mm_K S a)) (ci := mm_K S a) (ref := ref) hx hb hts (mm_uws _ hk13) (mm_ty (mm_K S a)) (mm_tys _ hk13) (mm_nms _ hk13) hown hK I.1 I.2.1 I.2.2.1 a hcell (mm_cls_get _ hk13) k hkN (by rw [t1]; exact hts _ w1) hsm (by rw [t1]; exact w7) (hnm hin.1) (by rw [t1]; exact hin.2.trans hcn) (mm_tys _ hk13 k hkN) hn1 hf1 (by rw [mm_fs_len]; exact hkN) hd kk
          split at hg
          · rename_i x
            cases hg
            rcases hty with ⟨-, h⟩ | ⟨h, -⟩ | ⟨h, -⟩ | ⟨h, -⟩
            · rw [h] at go
              refine go (.int x) rfl rfl rfl fun H1 locs1 a1 a2 a3 => ⟨mm_Ix_sM I ha ?_ a1 a2 a3, rfl, rfl⟩
              rw [mm_fs_sM (by omega) (by omega)]
              exact mm_ce1_obj (S := mm_sM S a _) hk13
            · omega
            · omega
            · omega
          · rename_i x
            split at hg
            · rename_i hx01
              cases hg
              rcases hty with ⟨h, -⟩ | ⟨h, -⟩ | ⟨-, h⟩ | ⟨h, -⟩
              · omega
              · omega
              · rw [h] at go
                refine go (.int x) rfl (by rcases hx01 with rfl | rfl <;> rfl) (by rcases hx01 with rfl | rfl <;> rfl) fun H1 locs1 a1 a2 a3 => ⟨mm_Ix_sM I ha ?_ a1 a2 a3, rfl, rfl⟩
                rw [mm_fs_sM (by omega) (by omega)]
                exact mm_ce1_obj (S := mm_sM S a _) hk13
              · omega
            · cases hg
          · rename_i x
            cases hg
            rcases hty with ⟨h, -⟩ | ⟨-, h⟩ | ⟨h, -⟩ | ⟨h, -⟩
            · omega
            · rw [h] at go
              refine go (.long x) rfl rfl rfl fun H1 locs1 a1 a2 a3 => ⟨mm_Ix_sL I ?_ a1 a2 a3, rfl, rfl⟩
              rw [mm_fs_sL htg]
              exact mm_ce1_obj (S := mm_sL S a _) hk13
            · omega
            · omega
          · rename_i b
            split at hg
            · rename_i hbn
              cases hg
              rcases hty with ⟨h, -⟩ | ⟨h, -⟩ | ⟨h, -⟩ | ⟨-, h⟩
              · omega
              · omega
              · omega
              · refine go (.ref (aa b)) (mm_ad_ref) (by rcases h with ⟨n, h⟩ | ⟨n, h⟩ <;> rw [h] <;> rfl) (by rcases h with ⟨n, h⟩ | ⟨n, h⟩ <;> rw [h] <;> rfl) fun H1 locs1 a1 a2 a3 => ⟨mm_Ix_sR I (fun b' hb' => by cases hb'; exact hbn) ?_ a1 a2 a3, rfl, rfl⟩
                rw [mm_fs_sR htg]
                exact mm_ce1_obj (S := mm_sR S a _) hk13
            · cases hg
          · cases hg
        · rw [if_neg ho] at hg; cases hg
