/-! ===== questions of the reference: aunt, let by ===== -/
def ab_sg (D : ab_D) (b : Nat) (l : List Nat) (s : Int32) : Int32 := l.foldl (fun s o => if o = b then s else s + ab_ga D o) s
def ab_l2 (u v : Int32) : Bool := decide (nI 0 ≤ u) && decide (nI 0 ≤ v) && decide (nI 0 < u + v)
section QM2
variable {S T U : mm_S} {G : gb_G} {P : ab_P} {D E : ab_D} {b c d n k i j p : Nat} {x w y : Int32} {r l : List Nat}
theorem mP_of (g : ∀ c j, (c = 92 ∧ (j = 0 ∨ j = 18 ∨ j = 27)) ∨ (93 ≤ c ∧ c ≤ 96) ∨ c = 99 ∨ (102 ≤ c ∧ c ≤ 107) → mm_M T c j = mm_M S c j) (hp : md_P S P) : md_P T P := by
  obtain ⟨h1, h2, h3, ⟨o, h4⟩, h5⟩ := hp
  refine ⟨(g 92 0 (by omega)).trans h1, fun b hb => ?_, fun i hi => (g 99 i (by omega)).trans (h3 i hi), ⟨o, mf_sh (fun c i a b => g c i (by omega)) (g 92 18 (by omega)) h4⟩, ?_⟩
  · obtain ⟨q1, q2, q3, q4⟩ := h2 b hb
    exact ⟨(g _ _ (by omega)).trans q1, (g _ _ (by omega)).trans q2, (g _ _ (by omega)).trans q3, (g _ _ (by omega)).trans q4⟩
  · rw [g 92 27 (by omega)]; exact h5
theorem kpA (hA : md_A S P D) : md_A (mm_kp S) P D := by
  obtain ⟨hw, hp, hd, oP, oD⟩ := hA
  have k1 : sf_f gm_F S (mm_kp S) := kp_F
  exact ⟨hw, mt_P (fun c j q => (k1.1 c j (by unfold nX at q; unfold gm_F; omega)).1) hp, mt_D oP.1 (row_le oP oD) (fun c j q => (k1.1 c j (by unfold nX at q; unfold gm_F; omega)).1) hd, oP, oD⟩
/-- another row -/
theorem A_rowM (hA : md_A S P D) (hw : mm_W T) (g : ∀ c j, ¬ (c = 100 ∨ (c = 92 ∧ j = 8) ∨ c = 121) → mm_M T c j = mm_M S c j) (h1 : l.Nodup) (h2 : ∀ b ∈ l, b < ab_kn P) (h8 : mm_M T 92 8 = nI l.length) (hv : ∀ p, p < l.length → mm_M T 100 p = nI (l.getD p 0)) : md_A T P (gD_row D l) := by
  obtain ⟨-, hP, ⟨d1, d2, d3, d4, d5, d6, d7, d8⟩, oP, oD⟩ := hA
  exact ⟨hw, mP_of (fun c j q => g c j (by omega)) hP, ⟨h8, hv, fun b hb => (g _ _ (by omega)).trans (d3 b hb), fun b hb => (g _ _ (by omega)).trans (d4 b hb), (g _ _ (by omega)).trans d5, (g _ _ (by omega)).trans d6, (g _ _ (by omega)).trans d7, (g _ _ (by omega)).trans d8⟩, oP, okD_row oD h1 h2⟩
theorem it_of {l r : List Nat} {i o : Nat} (hr : r = r.take i ++ o :: l) (hi : i < r.length) : r[i]? = some o := by
  rw [hr, List.getElem?_append_right (by rw [List.length_take]; omega), List.length_take, Nat.min_eq_left (by omega), Nat.sub_self]
  rfl
theorem tk1 {r : List Nat} {i o : Nat} (h : r[i]? = some o) : r.take (i + 1) = r.take i ++ [o] := by
  rw [List.take_add_one, h]
  rfl
theorem fl_1 {r : List Nat} {b o : Nat} : (r ++ [o]).filter (fun z => decide (z ≠ b)) = if o = b then r.filter (fun z => decide (z ≠ b)) else r.filter (fun z => decide (z ≠ b)) ++ [o] := by
  rw [List.filter_append]
  by_cases h : o = b
  · rw [if_pos h, List.filter_cons_of_neg (by simpa using h), List.filter_nil, List.append_nil]
  · rw [if_neg h, List.filter_cons_of_pos (by simpa using h), List.filter_nil]
theorem fl_at : ∀ {r : List Nat} {k : Nat}, r.Nodup → ab_at b r = some k → r.filter (fun z => decide (z ≠ b)) = r.eraseIdx k := by
  intro r
  induction r with
  | nil => intro k _ h; cases h
  | cons o r ih =>
    intro k hn h
    rw [List.nodup_cons] at hn
    unfold ab_at at h
    by_cases e : o = b
    · rw [if_pos e] at h
      cases h
      rw [List.filter_cons_of_neg (by simpa using e), List.eraseIdx_cons_zero]
      refine List.filter_eq_self.mpr (fun z hz => ?_)
      refine decide_eq_true (fun e2 => hn.1 ?_)
      rw [e, ← e2]; exact hz
    · rw [if_neg e] at h
      cases h2 : ab_at b r with
      | none => rw [h2] at h; cases h
      | some k2 =>
        rw [h2] at h
        cases h
        rw [List.filter_cons_of_pos (by simpa using e), ih hn.2 h2]
        rfl
theorem i32_r {s t u v : Int32} : (s + u) - (t + v) = (s - t) + (u - v) := by
  simp only [Int32.sub_eq_add_neg, Int32.neg_add]
  ac_rfl
theorem au_sg : ∀ (l : List Nat) (s t : Int32), ab_sg D b l s - ab_sg E b l t = ab_au P D E b l (s - t) := by
  intro l
  induction l with
  | nil => intro s t; rfl
  | cons o l ih =>
    intro s t
    have e1 : ∀ {D : ab_D} {s : Int32}, ab_sg D b (o :: l) s = ab_sg D b l (if o = b then s else s + ab_ga D o) := rfl
    have e2 : ab_au P D E b (o :: l) (s - t) = ab_au P D E b l (if o = b then s - t else (s - t) + (ab_ga D o - ab_ga E o)) := rfl
    rw [e1, e1, e2, ih]
    by_cases h : o = b
    · rw [if_pos h, if_pos h, if_pos h]
    · rw [if_neg h, if_neg h, if_neg h, i32_r]
/-- the row without b, written over itself -/
theorem m185_w (hA : md_A S P D) (h47 : mm_M S 92 47 = nI (ab_row D).length) {x1 x2 : Int32} (h118 : ∀ p, p < (ab_row D).length → mm_M S 118 p = nI ((ab_row D).getD p 0)) (hb : b < 6) : ∀ (l : List Nat) (i : Nat) (T : mm_S), mm_W T → T = mm_wM S (mm_M T) → (∀ c j, c ≠ 100 → mm_M T c j = mm_M S c j) → (∀ p, p < (((ab_row D).take i).filter (fun z => decide (z ≠ b))).length → mm_M T 100 p = nI ((((ab_row D).take i).filter (fun z => decide (z ≠ b))).getD p 0)) → (∀ p, i ≤ p → mm_M T 100 p = mm_M S 100 p) → (((ab_row D).take i).filter (fun z => decide (z ≠ b))).length ≤ i → ab_row D = (ab_row D).take i ++ l → i + l.length = (ab_row D).length → ∃ U w, mm_ex d 185 13 [.ref 92, .int (nI b), .int x2, .int (nI (((ab_row D).take i).filter (fun z => decide (z ≠ b))).length), .int (nI i)] [] T = mm_ex d 185 60 [.ref 92, .int (nI b), .int x2, .int (nI ((ab_row D).filter (fun z => decide (z ≠ b))).length), .int w] [] U ∧ mm_W U ∧ U = mm_wM S (mm_M U) ∧ (∀ c j, c ≠ 100 → mm_M U c j = mm_M S c j) ∧ (∀ p, p < ((ab_row D).filter (fun z => decide (z ≠ b))).length → mm_M U 100 p = nI (((ab_row D).filter (fun z => decide (z ≠ b))).getD p 0)) := by
  have hl6 := row_le hA.2.2.2.1 hA.2.2.2.2
  intro l
  induction l with
  | nil =>
    intro i T hw e hf hv _ _ hr hi
    rw [List.append_nil] at hr
    rw [List.length_nil] at hi
    rw [← hr] at hv ⊢
    refine ⟨T, nI i, ?_, hw, e, hf, hv⟩
    rw [b185_13 (wx_o92 hw), hf _ _ (by decide), h47, if_pos (nI_le (by omega) (by omega))]
  | cons o l ih =>
    intro i T hw e hf hv hk hn hr hi
    rw [List.length_cons] at hi
    have hil : i < (ab_row D).length := by omega
    have hio := it_of hr hil
    have hgo : (ab_row D).getD i 0 = o := by rw [List.getD_eq_getElem?_getD, hio]; rfl
    have hom : o ∈ ab_row D := by rw [hr]; exact List.mem_append.mpr (Or.inr List.mem_cons_self)
    have hob := hA.2.2.2.2.2.1 o hom
    have hk6 : ab_kn P ≤ 6 := hA.2.2.2.1.1
    have ci : (nI i).toNatClampNeg = i := nI_clamp (by omega)
    have bi : mm_inb (nI i) 6 = true := hp_inb (by omega) (by omega)
    have h100 : mm_M T 100 i = nI o := by
      rw [hk i (Nat.le_refl _), ← hgo]
      exact hA.2.2.1.2.1 i hil
    have e1 : (((ab_row D).take (i + 1)).filter (fun z => decide (z ≠ b))) = if o = b then (((ab_row D).take i).filter (fun z => decide (z ≠ b))) else (((ab_row D).take i).filter (fun z => decide (z ≠ b))) ++ [o] := by rw [tk1 hio, fl_1]
    have hrn : ab_row D = (ab_row D).take (i + 1) ++ l := by
      rw [tk1 hio, List.append_assoc]
      exact hr
    have hih := ih (i + 1)
    rw [e1] at hih
    generalize (((ab_row D).take i).filter (fun z => decide (z ≠ b))) = F at *
    have cn : (nI F.length).toNatClampNeg = F.length := nI_clamp (by omega)
    have bn : mm_inb (nI F.length) 6 = true := hp_inb (by omega) (by omega)
    have w1 : mm_W (mm_uM T 100 F.length (nI o)) := hw
    have e2 : mm_uM T 100 F.length (nI o) = mm_wM S (mm_M (mm_uM T 100 F.length (nI o))) := by
      have q : mm_uM T 100 F.length (nI o) = mm_wM T (mm_M (mm_uM T 100 F.length (nI o))) := hp_uMw
      refine q.trans ?_
      generalize mm_M (mm_uM T 100 F.length (nI o)) = K
      rw [e]
      rfl
    have f1 : ∀ c j, c ≠ 100 → mm_M (mm_uM T 100 F.length (nI o)) c j = mm_M S c j := fun c j h => (rdn (by omega)).trans (hf c j h)
    have k1 : ∀ p, i + 1 ≤ p → mm_M (mm_uM T 100 F.length (nI o)) 100 p = mm_M S 100 p := fun p hp => (rdn (by omega)).trans (hk p (by omega))
    have v0 : ∀ p, p < F.length → mm_M (mm_uM T 100 F.length (nI o)) 100 p = nI (F.getD p 0) := fun p hp => (rdn (by omega)).trans (hv p hp)
    have h118T : mm_M (mm_uM T 100 F.length (nI o)) 118 i = nI o := by
      rw [f1 118 i (by decide), h118 i hil, hgo]
    have st : mm_ex d 185 13 [.ref 92, .int (nI b), .int x2, .int (nI F.length), .int (nI i)] [] T = if nI o = nI b then mm_ex d 185 47 [.ref 92, .int (nI b), .int x2, .int (nI F.length), .int (nI i)] [.int (nI F.length)] (mm_uM T 100 F.length (nI o)) else mm_ex d 185 51 [.ref 92, .int (nI b), .int x2, .int (nI F.length), .int (nI i)] [.int (nI F.length)] (mm_uM T 100 F.length (nI o)) := by
      rw [b185_13 (wx_o92 hw), hf _ _ (by decide), h47, if_neg (nI_ge hil (by omega)), b185_22 (wx_o92 hw) (wx_s92_9 hw) (by rw [wx_g92_9 hw, wx_N100 hw]; exact bi) (by rw [wx_g92_9 hw]; exact wx_a100 hw) (by rw [wx_g92_9 hw, wx_N100 hw]; exact bn) (wx_s92_44 hw), wx_g92_9 hw, wx_g92_44 hw, ci, cn, h100, b185_42 (by rw [wx_N118 w1]; exact bi) (wx_a118 w1), ci, h118T]
    have e0 : (nI o = nI b) = (o = b) := propext (nI_eq (by omega) (by omega))
    by_cases h : o = b
    · rw [if_pos h] at hih
      obtain ⟨U, w, g1, g2⟩ := hih (mm_uM T 100 F.length (nI o)) w1 e2 f1 v0 k1 (by omega) hrn (by omega)
      refine ⟨U, w, ?_, g2⟩
      rw [st, if_pos (by rw [e0]; exact h), b185_47, nI_add, nI_add]
      exact g1
    · rw [if_neg h] at hih
      have v1 : ∀ p, p < (F ++ [o]).length → mm_M (mm_uM T 100 F.length (nI o)) 100 p = nI ((F ++ [o]).getD p 0) := by
        intro p hp
        rw [List.length_append] at hp
        have hp1 : p < F.length + 1 := hp
        rw [List.getD_eq_getElem?_getD]
        by_cases q : p = F.length
        · rw [q, rds, List.getElem?_append_right (Nat.le_refl _), Nat.sub_self]; rfl
        · rw [List.getElem?_append_left (by omega), ← List.getD_eq_getElem?_getD]
          exact v0 p (by omega)
      have hn1 : (F ++ [o]).length ≤ i + 1 := by
        rw [List.length_append]
        show F.length + 1 ≤ i + 1
        omega
      obtain ⟨U, w, g1, g2⟩ := hih (mm_uM T 100 F.length (nI o)) w1 e2 f1 v1 k1 hn1 hrn (by omega)
      refine ⟨U, w, ?_, g2⟩
      rw [List.length_append] at g1
      rw [st, if_neg (by rw [e0]; exact h), b185_51, nI_add, nI_add]
      exact g1
theorem m185_s (hA : md_A T P E) {r : List Nat} (h6 : r.length ≤ 6) (hm : ∀ z ∈ r, z < ab_kn P) (h47 : mm_M T 92 47 = nI r.length) (h118 : ∀ p, p < r.length → mm_M T 118 p = nI (r.getD p 0)) (hb : b < 6) {x2 : Int32} : ∀ (l : List Nat) (i : Nat) (s : Int32), r = r.take i ++ l → i + l.length = r.length → ∃ w, mm_ex d 185 74 [.ref 92, .int (nI b), .int x2, .int s, .int (nI i)] [] T = mm_ex d 185 119 [.ref 92, .int (nI b), .int x2, .int (ab_sg E b l s), .int w] [] T := by
  have hw := hA.1
  have hk6 : ab_kn P ≤ 6 := hA.2.2.2.1.1
  intro l
  induction l with
  | nil =>
    intro i s _ hi
    rw [List.length_nil] at hi
    refine ⟨nI i, ?_⟩
    rw [b185_74 (wx_o92 hw), h47, if_pos (nI_le (by omega) (by omega))]
    rfl
  | cons o l ih =>
    intro i s hr hi
    rw [List.length_cons] at hi
    have hil : i < r.length := by omega
    have hio := it_of hr hil
    have hgo : r.getD i 0 = o := by rw [List.getD_eq_getElem?_getD, hio]; rfl
    have hob := hm o (by rw [hr]; exact List.mem_append.mpr (Or.inr List.mem_cons_self))
    have ci : (nI i).toNatClampNeg = i := nI_clamp (by omega)
    have bi : mm_inb (nI i) 6 = true := hp_inb (by omega) (by omega)
    have co : (nI o).toNatClampNeg = o := nI_clamp (by omega)
    have bo : mm_inb (nI o) 6 = true := hp_inb (by omega) (by omega)
    have e0 : (nI o = nI b) = (o = b) := propext (nI_eq (by omega) (by omega))
    have e1 : ab_sg E b (o :: l) s = ab_sg E b l (if o = b then s else s + ab_ga E o) := rfl
    obtain ⟨w, g⟩ := ih (i + 1) (if o = b then s else s + ab_ga E o) (by
      rw [tk1 hio, List.append_assoc]
      exact hr) (by omega)
    refine ⟨w, ?_⟩
    have h18 := h118 i hil
    rw [hgo] at h18
    rw [b185_74 (wx_o92 hw), h47, if_neg (nI_ge hil (by omega)), b185_83 (wx_o92 hw) (wx_s92_44 hw) (by rw [wx_g92_44 hw, wx_N118 hw]; exact bi) (by rw [wx_g92_44 hw]; exact wx_a118 hw), wx_g92_44 hw, ci, h18, e1, ← g]
    by_cases h : o = b
    · rw [if_pos (by rw [e0]; exact h), b185_95, if_pos h, nI_add, show s + nI 0 = s from Int32.add_zero s]
    · rw [if_neg (by rw [e0]; exact h), b185_99 (wx_o92 hw) (wx_s92_6 hw) (wx_s92_44 hw) (by rw [wx_g92_44 hw, wx_N118 hw]; exact bi) (by rw [wx_g92_44 hw]; exact wx_a118 hw) (by rw [wx_g92_44 hw, wx_g92_6 hw, wx_N98 hw, ci, h18]; exact bo) (by rw [wx_g92_6 hw]; exact wx_a98 hw), wx_g92_44 hw, wx_g92_6 hw, ci, h18, co, if_neg h, nI_add, show mm_M T 98 o = _ from hA.2.2.1.2.2.2.1 o hob]
theorem m185 (ok : gb_ok G) (hR : RM S G) (hb : b < gK G) (wo : Bool) : ∃ T, mm_cl (d + 10) 185 [.ref 92, .int (nI b), .int (if wo = true then nI 1 else nI 0)] S = some (some (.int (ab_sg (ab_fin (gP G) (if wo = true then gD_row (gD G) ((ab_row (gD G)).filter (fun z => decide (z ≠ b))) else gD G)) b (ab_row (gD G)) (nI 0))), T) ∧ QM S T G := by
  have hw := hR.1
  have wk : mm_W (mm_kp S) := hw
  have hk6 : gK G ≤ 6 := ok.1.1.1
  have hl6 : (ab_row (gD G)).length ≤ 6 := row_le ok.1.1 ok.1.2.1
  have h47 : mm_M (mm_kp S) 92 47 = nI (ab_row (gD G)).length := by
    rw [kp_M]
    exact hR.2.1.2.1.1
  have h118 : ∀ p, p < (ab_row (gD G)).length → mm_M (mm_kp S) 118 p = nI ((ab_row (gD G)).getD p 0) := by
    intro p hp
    rw [kp_M, if_neg (by decide), if_neg (by omega), if_neg (by omega), if_pos ⟨by omega, rfl⟩]
    exact hR.2.1.2.1.2.1 p hp
  have hm : ∀ z ∈ ab_row (gD G), z < ab_kn (gP G) := ok.1.2.1.2.1
  have fin : ∀ {V : mm_S} {E : ab_D} {x2 : Int32} {v3 v4 : Value}, md_A V (gP G) E → QK S V → ∃ T, mm_bd (mm_cl (d + 9) 173 [.ref 92] V) (fun v S2 => mm_ex (d + 10) 185 69 [.ref 92, .int (nI b), .int x2, v3, v4] (v.toList ++ []) S2) = some (some (.int (ab_sg (ab_fin (gP G) E) b (ab_row (gD G)) (nI 0))), T) ∧ QM S T G := by
    intro V E x2 v3 v4 hV qV
    obtain ⟨T, g1, g2, g3, -⟩ := s173 (d := d) hV
    have qT := QK_md qV g2
    have wT := g3.1
    have wl : mm_W (mm_ly T) := wT
    obtain ⟨w, g4⟩ := m185_s (d := d + 10) (x2 := x2) g3 hl6 hm ((qT.2 92 47 (by unfold gm_e md_dc; omega)).trans h47) (fun p hp => (qT.2 118 p (by unfold gm_e md_dc; omega)).trans (h118 p hp)) (show b < 6 by omega) (ab_row (gD G)) 0 (nI 0) (by simp) (by omega)
    refine ⟨mm_ly T, ?_, QM_ly ok hR qT⟩
    rw [g1, hp_bd, hp_tn, b185_69, g4, b185_119 (wx_k92 wT), s172 wT, hp_bd, hp_tn, b185_123]
  cases wo with
  | false =>
    obtain ⟨T, g1, g2⟩ := fin (x2 := nI 0) (v3 := .null) (v4 := .null) (kp_A ok hR) QK_kp
    refine ⟨T, ?_, g2⟩
    rw [if_neg (by decide), if_neg (by decide), ← g1, e185, b185_0 (wx_k92 hw), s171 hw, hp_bd, hp_tn, b185_4, if_pos rfl, b185_65 (wx_k92 wk)]
  | true =>
    obtain ⟨U, w, g1, g2, g3, g4, g5⟩ := m185_w (d := d + 10) (x1 := nI 0) (x2 := nI 1) (kp_A ok hR) h47 h118 (show b < 6 by omega) (ab_row (gD G)) 0 (mm_kp S) wk rfl (fun _ _ _ => rfl) (fun p hp => absurd hp (Nat.not_lt_zero _)) (fun _ _ => rfl) (Nat.le_refl _) (by simp) (by omega)
    have wU2 : mm_W (mm_uM U 92 8 (nI ((ab_row (gD G)).filter (fun z => decide (z ≠ b))).length)) := g2
    have qU : QK S U := ⟨by
      have e : mm_kp S = mm_wM S (mm_M (mm_kp S)) := rfl
      rw [e] at g3
      exact g3, fun c j hc => g4 c j (by unfold gm_e md_dc at hc; omega)⟩
    have qU2 : QK S (mm_uM U 92 8 (nI ((ab_row (gD G)).filter (fun z => decide (z ≠ b))).length)) := QK_w qU (by unfold gm_e md_dc; omega)
    have AU : md_A (mm_uM U 92 8 (nI ((ab_row (gD G)).filter (fun z => decide (z ≠ b))).length)) (gP G) (gD_row (gD G) ((ab_row (gD G)).filter (fun z => decide (z ≠ b)))) := by
      refine A_rowM (kp_A ok hR) wU2 (fun c j hc => (rdn (by omega)).trans (g4 c j (by omega))) (List.Nodup.sublist List.filter_sublist ok.1.2.1.1) (fun z hz => hm z (List.mem_filter.mp hz).1) rds (fun p hp => (rdn (by omega)).trans (g5 p hp))
    obtain ⟨T, g6, g7⟩ := fin (x2 := nI 1) (v3 := .int (nI ((ab_row (gD G)).filter (fun z => decide (z ≠ b))).length)) (v4 := .int w) AU qU2
    refine ⟨T, ?_, g7⟩
    rw [if_pos rfl, if_pos rfl, ← g6, e185, b185_0 (wx_k92 hw), s171 hw, hp_bd, hp_tn, b185_4, if_neg i01, b185_8]
    refine Eq.trans g1 ?_
    rw [b185_60 (wx_o92 g2) (wx_k92 g2)]
theorem m_19 (ok : gb_ok G) (hR : RM S G) : oM S (d + 11) 186 [.ref 92, .int x] (.int (an_19 G x)) G := by
  have hw := hR.1
  have hk : gK G ≤ 6 := ok.1.1.1
  have hA := RM_A ok hR
  unfold an_19
  rcases kw_c hk x with ⟨e, -⟩ | ⟨b, hb, e, rfl⟩
  · have k := m129n (d := d + 9) ok hR e
    rw [e]
    refine oM_id hR ?_
    rw [e186, b186_0 (wx_k92 hw), k, hp_bd, hp_ts, b186_5, if_pos rfl, b186_8]
  · have k := m129s (d := d + 9) ok hR hb
    have k130 := s130 (d := d + 10) hA (show b < 6 by omega)
    have st : mm_cl (d + 11) 186 [.ref 92, .int (nI b)] S = mm_ex (d + 11) 186 16 [.ref 92, .int (nI b)] [.int (md_fo (ab_at b (ab_row (gD G))))] S := by
      rw [e186, b186_0 (wx_k92 hw), k, hp_bd, hp_ts, b186_5, if_neg i01, b186_11 (wx_k92 hw), k130, hp_bd, hp_ts]
    rw [e]
    simp only
    cases hq : ab_at b (ab_row (gD G)) with
    | none =>
      refine oM_id hR ?_
      rw [st, hq, b186_16, if_pos fo_n5, b186_21]
    | some q =>
      have hql := (at_some hq).1
      have hl6 : (ab_row (gD G)).length ≤ 6 := row_le ok.1.1 ok.1.2.1
      obtain ⟨T, g1, g2⟩ := m185 (d := d) ok hR hb false
      obtain ⟨U, g3, g4⟩ := m185 (d := d) ok g2.1 hb true
      have wT := g2.1.1
      rw [if_neg (by decide), if_neg (by decide)] at g1
      have ef : (ab_row (gD G)).filter (fun z => decide (z ≠ b)) = (ab_row (gD G)).eraseIdx q := fl_at ok.1.2.1.1 hq
      rw [if_pos rfl, if_pos rfl, ef] at g3
      refine oM_Q (QM_tr g2 g4) ?_
      have nn : ¬ md_fo (some q) = -5 := nI_m5 (n := q) (by omega)
      rw [st, hq, b186_16, if_neg nn, b186_27 (wx_k92 hw), g1, hp_bd, hp_ts, b186_33 (wx_k92 wT), g3, hp_bd, hp_tsc, b186_39, au_sg (P := gP G), show nI 0 - nI 0 = nI 0 from rfl]
end QM2
