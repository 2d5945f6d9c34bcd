/-! ===== how the reference reads ===== -/
def gp_x (c j : Nat) : Prop := (c = 92 ∧ 36 ≤ j ∧ j ≤ 40) ∨ (c = 107 ∧ 720 ≤ j) ∨ c = 116
def rt (S : mm_S) (t : List Nat) : Prop := mm_W S ∧ mm_M S 92 26 = nI t.length ∧ (∀ i, i < t.length → mm_M S 108 i = nI (t.getD i 0)) ∧ t.length ≤ 100 ∧ (∀ x ∈ t, x < 128) ∧ gm_c S
def sg (t : List Nat) (i : Nat) : Int32 := if i < t.length then nI (ps t i) else -1
/-- only the place at which it reads differs -/
def r36 (T U : mm_S) (i : Nat) : Prop := U = mm_wM T (mm_M U) ∧ (∀ c j, ¬ (c = 92 ∧ j = 36) → mm_M U c j = mm_M T c j) ∧ mm_M U 92 36 = nI i
def pmo : Option Nat → Int32
  | none => -1
  | some n => nI n
section MP
variable {S T U V : mm_S} {t : List Nat} {d i j k n c : Nat} {x y : Int32}
theorem r_tr (h : r36 T U i) (h2 : r36 U V j) : r36 T V j := by
  refine ⟨?_, fun c j hc => (h2.2.1 c j hc).trans (h.2.1 c j hc), h2.2.2⟩
  have e := h2.1
  rw [h.1] at e
  exact e
theorem r_rf (h : mm_M T 92 36 = nI i) : r36 T T i := ⟨rfl, fun _ _ _ => rfl, h⟩
theorem r_w : r36 T (mm_uM T 92 36 (nI i)) i := ⟨hp_uMw, fun c j hc => rdn hc, rds⟩
theorem rt_w (h : r36 T U i) (hT : rt T t) : rt U t := by
  obtain ⟨h1, h2, h3, h4, h5, h6⟩ := hT
  have g : ∀ c j, ¬ (c = 92 ∧ j = 36) → mm_M U c j = mm_M T c j := h.2.1
  exact ⟨by rw [h.1]; exact h1, (g _ _ (by omega)).trans h2, fun i hi => (g _ _ (by omega)).trans (h3 i hi), h4, h5, mt_c (fun c j hc => g c j (by omega)) h6⟩
theorem ps_lt (hT : rt S t) : ps t i < 128 := by
  unfold ps
  by_cases h : i < t.length
  · rw [List.getD_eq_getElem?_getD, List.getElem?_eq_getElem h]
    exact hT.2.2.2.2.1 _ (List.getElem_mem h)
  · rw [List.getD_eq_getElem?_getD, List.getElem?_eq_none (by omega)]
    exact Nat.zero_lt_succ _
theorem sg_eq (hT : rt S t) (hc : 0 < c) (hc2 : c < 128) : (sg t i = nI c) = (ps t i = c) := by
  have := @ps_lt S t i hT
  unfold sg
  by_cases h : i < t.length
  · rw [if_pos h]
    exact propext (nI_eq (by omega) (by omega))
  · rw [if_neg h]
    refine propext ⟨fun e => absurd e.symm (nI_m1 (by omega)), fun e => ?_⟩
    exact absurd (ps_in (t := t) (i := i) (by omega)) h
theorem s139 (hT : rt T t) (h : mm_M T 92 36 = nI i) (hi : i < 2 ^ 20) : mm_cl d 139 [.ref 92] T = some (some (.int (sg t i)), T) := by
  obtain ⟨hw, h26, h108, h100, -, -⟩ := hT
  rw [e139, b139_0 (wx_o92 hw), h26, h]
  unfold sg
  by_cases q : i < t.length
  · rw [if_neg (nI_ge q (by omega)), if_pos q, b139_11 (wx_o92 hw) (wx_s92_25 hw) (by rw [h, wx_g92_25 hw, wx_N108 hw]; exact hp_inb (by omega) (by omega)) (by rw [wx_g92_25 hw]; exact wx_a108 hw), h, wx_g92_25 hw, nI_clamp (by omega), h108 i q]
    rfl
  · rw [if_pos (nI_le (by omega) (by omega)), if_neg q, b139_23]
theorem s140 (hT : rt T t) : mm_cl (d + 1) 140 [.int (sg t i)] U = some (some (.int (if pdg (ps t i) = true then nI 1 else nI 0)), U) := by
  have e : mm_cl (d + 1) 140 [.int (sg t i)] U = mm_ex (d + 1) 140 8 [.int (sg t i)] [.int (if sg t i < nI 48 ∨ nI 57 < sg t i then nI 0 else nI 1)] U := by
    rw [e140, b140_0, s128, hp_bd, hp_ts]
  have hl := @ps_lt T t i hT
  by_cases h : i < t.length
  · have es : sg t i = nI (ps t i) := if_pos h
    by_cases q : pdg (ps t i) = true
    · have a := pdg_in q
      rw [e, es, if_neg (fun z => Or.elim z (nI_nlt a.2.1 (by omega)) (nI_nlt a.2.2 (by omega))), b140_8 rfl, if_pos q]
    · have a : ps t i < 48 ∨ 57 < ps t i := by
        unfold pdg at q
        rw [Bool.and_eq_true, decide_eq_true_eq, decide_eq_true_eq] at q
        omega
      rw [e, es, if_pos (a.elim (fun z => Or.inl (nI_lt z (by omega))) (fun z => Or.inr (nI_lt z (by omega)))), b140_8 rfl, if_neg q]
  · have es : sg t i = -1 := if_neg h
    have q : ¬ pdg (ps t i) = true := fun z => h (pdg_in z).1
    rw [e, es, if_pos (by decide), b140_8 rfl, if_neg q]
theorem s141 (hT : rt T t) (h : mm_M T 92 36 = nI i) (hi : i < 2 ^ 20) (hc : 0 < c) (hc2 : c < 128) : ∃ U, mm_cl (d + 1) 141 [.ref 92, .int (nI c)] T = some (some (.int (if ps t i = c then nI 1 else nI 0)), U) ∧ r36 T U (if ps t i = c then i + 1 else i) := by
  have e : mm_cl (d + 1) 141 [.ref 92, .int (nI c)] T = mm_ex (d + 1) 141 4 [.ref 92, .int (nI c)] [.int (sg t i)] T := by
    rw [e141, b141_0 (wx_k92 hT.1), s139 hT h hi, hp_bd, hp_ts]
  rw [b141_4] at e
  simp only [sg_eq hT hc hc2] at e
  by_cases q : ps t i = c
  · refine ⟨mm_uM T 92 36 (nI (i + 1)), ?_, by rw [if_pos q]; exact r_w⟩
    rw [e, if_pos q, if_pos q, b141_10 (wx_o92 hT.1), h, nI_add]
  · refine ⟨T, ?_, by rw [if_neg q]; exact r_rf h⟩
    rw [e, if_neg q, if_neg q, b141_8]
theorem s142 (hT : rt T t) (h : mm_M T 92 36 = nI i) (hi : i < 2 ^ 10) : ∃ U, mm_cl (d + 2) 142 [.ref 92] T = some (some (.int (pmo (pnu t i).2)), U) ∧ r36 T U (pnu t i).1 := by
  have hw := hT.1
  have st : mm_cl (d + 2) 142 [.ref 92] T = if (if pdg (ps t i) = true then nI 1 else nI 0) = nI 0 then mm_ex (d + 2) 142 10 [.ref 92, .null] [] T else mm_ex (d + 2) 142 12 [.ref 92, .null] [] T := by
    rw [e142, b142_0 (wx_k92 hw), s139 hT h (by omega), hp_bd, hp_ts, b142_4, s140 hT, hp_bd, hp_ts, b142_7]
  unfold pnu
  by_cases q : pdg (ps t i) = true
  · have a := pdg_in q
    rw [if_pos q, if_neg i01] at st
    have w1 : mm_W (mm_uM T 92 36 (nI (i + 1))) := hw
    have r1 : r36 T (mm_uM T 92 36 (nI (i + 1))) (i + 1) := r_w
    have T1 := rt_w r1 hT
    have es : sg t i = nI (ps t i) := if_pos a.1
    have s1 : nI (ps t i) - nI 48 = nI (ps t i - 48) := pk_sub a.2.1
    have st2 : mm_cl (d + 2) 142 [.ref 92] T = if (if pdg (ps t (i + 1)) = true then nI 1 else nI 0) = nI 0 then mm_ex (d + 2) 142 63 [.ref 92, .int (nI (ps t i - 48))] [] (mm_uM T 92 36 (nI (i + 1))) else mm_ex (d + 2) 142 40 [.ref 92, .int (nI (ps t i - 48))] [] (mm_uM T 92 36 (nI (i + 1))) := by
      rw [st, b142_12 (wx_k92 hw), s139 hT h (by omega), hp_bd, hp_ts, b142_16 (wx_o92 hw) (wx_k92 hw), h, nI_add, s139 T1 r1.2.2 (by omega), hp_bd, hp_ts, b142_34, s140 hT, hp_bd, hp_ts, b142_37, es, s1]
    rw [if_pos q]
    by_cases q2 : pdg (ps t (i + 1)) = true
    · have b := pdg_in q2
      have es2 : sg t (i + 1) = nI (ps t (i + 1)) := if_pos b.1
      rw [if_pos q2, if_neg i01] at st2
      refine ⟨mm_uM (mm_uM T 92 36 (nI (i + 1))) 92 36 (nI (i + 2)), ?_, by rw [if_pos q2]; exact r_tr r1 r_w⟩
      rw [st2, if_pos q2, b142_40 (wx_k92 w1), s139 T1 r1.2.2 (by omega), hp_bd, hp_tsc, b142_48 (wx_o92 w1), r1.2.2, nI_add, es2, nI_mul, nI_add, pk_sub (by omega)]
      show some (some (Value.int (nI (10 * (ps t i - 48) + ps t (i + 1) - 48))), _) = some (some (Value.int (nI (10 * (ps t i - 48) + (ps t (i + 1) - 48)))), _)
      rw [show 10 * (ps t i - 48) + ps t (i + 1) - 48 = 10 * (ps t i - 48) + (ps t (i + 1) - 48) by omega]
    · rw [if_neg q2, if_pos rfl] at st2
      refine ⟨mm_uM T 92 36 (nI (i + 1)), ?_, by rw [if_neg q2]; exact r1⟩
      rw [st2, if_neg q2, b142_63]
      rfl
  · rw [if_neg q, if_pos rfl] at st
    rw [if_neg q]
    refine ⟨T, ?_, r_rf h⟩
    rw [st, b142_10]
    rfl
end MP
