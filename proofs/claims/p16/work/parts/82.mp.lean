/-! ===== how the reference reads: what waits, and tests ===== -/
def opn (W : List Nat) : Nat := (W.filter (fun x => decide (x = 0 ∨ x = 3))).length
def rq (S T : mm_S) (W : List Nat) (C : List ab_T) (i : Nat) : Prop := T = mm_wM S (mm_M T) ∧ (∀ c j, ¬ gp_x c j → mm_M T c j = mm_M S c j) ∧ mm_M T 92 36 = nI i ∧ mm_M T 92 37 = nI C.length ∧ (∀ n, n < C.length → mm_M T 107 (720 + n) = md_en (C.getD n (Sum.inr 0))) ∧ mm_M T 92 39 = nI W.length ∧ mm_M T 92 40 = nI (opn W) ∧ ∀ p, p < W.length → mm_M T 116 p = nI (W.getD p 0)
def pcs (Q : List Nat) : List ab_T := Q.map Sum.inr
/-- the first that equals, by a run over all of them -/
def lv (o : Option Nat) (k : Nat) : Int32 := match o with
  | none => -1
  | some l => if l < k then nI l else -1
section MP2
variable {S T U V : mm_S} {t : List Nat} {d i j k n c q s : Nat} {x y : Int32} {W W0 A B Q : List Nat} {C : List ab_T} {e : ab_T}
theorem ga_l {α : Type} {A B : List α} {z : α} {p : Nat} (h : p < A.length) : (A ++ B).getD p z = A.getD p z := by
  rw [List.getD_eq_getElem?_getD, List.getElem?_append_left h, ← List.getD_eq_getElem?_getD]
theorem ga_r {α : Type} {A : List α} {q z : α} : (A ++ [q]).getD A.length z = q := by
  rw [List.getD_eq_getElem?_getD, List.getElem?_append_right (Nat.le_refl _), Nat.sub_self]
  rfl
theorem la1 {α : Type} {A : List α} {q : α} : (A ++ [q]).length = A.length + 1 := by rw [List.length_append]; rfl
theorem opn_1 : opn (W ++ [q]) = opn W + (if q = 0 ∨ q = 3 then 1 else 0) := by
  unfold opn
  rw [List.filter_append, List.length_append]
  by_cases h : q = 0 ∨ q = 3
  · rw [if_pos h, List.filter_cons_of_pos (by simpa using h)]; rfl
  · rw [if_neg h, List.filter_cons_of_neg (by simpa using h)]; rfl
theorem opn_le : opn W ≤ W.length := List.length_filter_le _ _
theorem rq_W (h : rq S T W C i) (hw : mm_W S) : mm_W T := by rw [h.1]; exact hw
theorem rq_t (h : rq S T W C i) (hT : rt S t) : rt T t := by
  obtain ⟨h1, h2, h3, h4, h5, h6⟩ := hT
  have g := h.2.1
  exact ⟨rq_W h h1, (g _ _ (by unfold gp_x; omega)).trans h2, fun i hi => (g _ _ (by unfold gp_x; omega)).trans (h3 i hi), h4, h5, mt_c (fun c j hc => g c j (by unfold gp_x; omega)) h6⟩
theorem rq_36 (h : rq S T W C i) (hr : r36 T U j) : rq S U W C j := by
  obtain ⟨h1, h2, h3, h4, h5, h6, h7, h8⟩ := h
  have g := hr.2.1
  refine ⟨?_, fun c j hc => (g c j (fun z => hc (by unfold gp_x; omega))).trans (h2 c j hc), hr.2.2, (g _ _ (by omega)).trans h4, fun n hn => (g _ _ (by omega)).trans (h5 n hn), (g _ _ (by omega)).trans h6, (g _ _ (by omega)).trans h7, fun p hp => (g _ _ (by omega)).trans (h8 p hp)⟩
  have e := hr.1
  rw [h1] at e
  exact e
theorem s144 (h : rq S T W C i) (hw : mm_W S) (hc : C.length < 120) : ∃ U, mm_cl d 144 [.ref 92, .int (md_en e)] T = some (none, U) ∧ rq S U W (C ++ [e]) i := by
  have wT := rq_W h hw
  obtain ⟨h1, h2, h3, h4, h5, h6, h7, h8⟩ := h
  have w1 : mm_W (mm_uM T 107 (720 + C.length) (md_en e)) := wT
  refine ⟨mm_uM (mm_uM T 107 (720 + C.length) (md_en e)) 92 37 (nI (C.length + 1)), ?_, wM_u (wM_u h1), fun c j hc => (rdn (fun z => hc (by unfold gp_x; omega))).trans ((rdn (fun z => hc (by unfold gp_x; omega))).trans (h2 c j hc)), (rdn (by omega)).trans ((rdn (by omega)).trans h3), rds.trans (by rw [la1]), fun n hn => ?_, (rdn (by omega)).trans ((rdn (by omega)).trans h6), (rdn (by omega)).trans ((rdn (by omega)).trans h7), fun p hp => (rdn (by omega)).trans ((rdn (by omega)).trans (h8 p hp))⟩
  · rw [e144, b144_0 (wx_o92 wT) (wx_s92_24 wT) (by rw [wx_g92_24 wT]; exact wx_a107 wT) (by rw [h4, nI_add, wx_g92_24 wT, wx_N107 wT]; exact hp_inb (by omega) (by omega)), h4, nI_add, wx_g92_24 wT, nI_clamp (by omega), b144_16 (wx_o92 w1) (wx_o92 w1), show mm_M (mm_uM T 107 (720 + C.length) (md_en e)) 92 37 = nI C.length from (rdn (by omega)).trans h4, nI_add]
  · rw [la1] at hn
    rw [rdn (by omega)]
    by_cases z : n = C.length
    · rw [z, rds, ga_r]
    · rw [rdn (by omega), ga_l (by omega)]
      exact h5 n (by omega)
/-- all NOTs on the top go -/
theorem s146 (hw : mm_W S) (hW : ∀ p, p + 1 = W0.length → W0.getD p 0 ≠ 3) (hl : ∀ x ∈ W0, x < 4) : ∀ (k : Nat) (T : mm_S) (C : List ab_T), rq S T (W0 ++ List.replicate k 3) C i → (W0 ++ List.replicate k 3).length ≤ 100 → C.length + k < 120 → ∃ U, mm_ex (d + 1) 146 0 [.ref 92] [] T = some (none, U) ∧ rq S U W0 (C ++ List.replicate k (Sum.inr 3)) i := by
  intro k
  induction k with
  | zero =>
    intro T C h hb _
    rw [List.replicate_zero, List.append_nil] at h hb
    have wT := rq_W h hw
    refine ⟨T, ?_, by rw [List.replicate_zero, List.append_nil]; exact h⟩
    obtain ⟨h1, h2, h3, h4, h5, h6, h7, h8⟩ := h
    rw [b146_0 (wx_o92 wT), h6]
    by_cases z : W0.length = 0
    · rw [if_pos (nI_le (by omega) (by omega)), b146_50]
    · have hx := hW (W0.length - 1) (by omega)
      have hm : W0.getD (W0.length - 1) 0 < 4 := by
        rw [List.getD_eq_getElem?_getD, List.getElem?_eq_getElem (by omega)]
        exact hl _ (List.getElem_mem (by omega))
      rw [if_neg (nI_ge (by omega) (by omega)), b146_7 (wx_o92 wT) (wx_s92_38 wT) (by rw [h6, pk_sub (by omega), wx_g92_38 wT, wx_N116 wT]; exact hp_inb (by omega) (by omega)) (by rw [wx_g92_38 wT]; exact wx_a116 wT), h6, pk_sub (by omega), wx_g92_38 wT, nI_clamp (by omega), h8 _ (by omega), if_neg (fun e => hx ((nI_eq (by omega) (by omega)).mp e)), b146_50]
  | succ k ih =>
    intro T C h hb hk
    have wT := rq_W h hw
    have eW : W0 ++ List.replicate (k + 1) 3 = (W0 ++ List.replicate k 3) ++ [3] := by rw [List.replicate_succ', ← List.append_assoc]
    rw [eW] at h hb
    generalize W0 ++ List.replicate k 3 = W at *
    rw [la1] at hb
    obtain ⟨U, g1, g2⟩ := s144 (d := d) (e := Sum.inr 3) h hw (by omega)
    have wU := rq_W g2 hw
    obtain ⟨h1, h2, h3, h4, h5, h6, h7, h8⟩ := h
    obtain ⟨u1, u2, u3, u4, u5, u6, u7, u8⟩ := g2
    rw [la1] at h6 u6
    have h8t := h8 W.length (by rw [la1]; omega)
    rw [ga_r] at h8t
    have o1 : opn (W ++ [3]) = opn W + 1 := by rw [opn_1, if_pos (Or.inr rfl)]
    rw [o1] at u7
    have hol := @opn_le W
    have w1 : mm_W (mm_uM U 92 39 (nI W.length)) := wU
    have r2 : rq S (mm_uM (mm_uM U 92 39 (nI W.length)) 92 40 (nI (opn W))) W (C ++ [Sum.inr 3]) i := ⟨wM_u (wM_u u1), fun c j hc => (rdn (fun z => hc (by unfold gp_x; omega))).trans ((rdn (fun z => hc (by unfold gp_x; omega))).trans (u2 c j hc)), (rdn (by omega)).trans ((rdn (by omega)).trans u3), (rdn (by omega)).trans ((rdn (by omega)).trans u4), fun n hn => (rdn (by omega)).trans ((rdn (by omega)).trans (u5 n hn)), (rdn (by omega)).trans rds, rds, fun p hp => (rdn (by omega)).trans ((rdn (by omega)).trans ((u8 p (by rw [la1]; omega)).trans (by rw [ga_l hp])))⟩
    obtain ⟨V, g3, g4⟩ := ih _ _ r2 (by omega) (by rw [la1]; omega)
    refine ⟨V, ?_, ?_⟩
    · rw [b146_0 (wx_o92 wT), h6, if_neg (nI_ge (by omega) (by omega)), b146_7 (wx_o92 wT) (wx_s92_38 wT) (by rw [h6, pk_sub (by omega), wx_g92_38 wT, wx_N116 wT]; exact hp_inb (by omega) (by omega)) (by rw [wx_g92_38 wT]; exact wx_a116 wT), h6, pk_sub (by omega), wx_g92_38 wT, show W.length + 1 - 1 = W.length by omega, nI_clamp (by omega), h8t, if_pos rfl, b146_22 (wx_k92 wT), show nI 3 = md_en (Sum.inr 3) from rfl, g1, hp_bd, hp_tn, b146_27 (wx_o92 wU), u6, pk_sub (by omega), show W.length + 1 - 1 = W.length by omega, b146_39 (wx_o92 w1) (wx_o92 w1), show mm_M (mm_uM U 92 39 (nI W.length)) 92 40 = nI (opn W + 1) from (rdn (by omega)).trans u7, pk_sub (by omega), show opn W + 1 - 1 = opn W by omega, g3]
    · have e : C ++ [Sum.inr 3] ++ List.replicate k (Sum.inr 3) = C ++ List.replicate (k + 1) (Sum.inr 3) := by rw [List.append_assoc]; rfl
      rw [← e]
      exact g4
/-- what binds as much, on the top, goes -/
theorem s147 (hw : mm_W S) {m : Nat} (hm : m = 1 ∨ m = 2) (hW : ∀ p, p + 1 = W0.length → W0.getD p 0 < m) : ∀ (Q : List Nat) (T : mm_S) (C : List ab_T), (∀ q ∈ Q, m ≤ q ∧ q < 3) → rq S T (W0 ++ Q.reverse) C i → (W0 ++ Q.reverse).length ≤ 100 → C.length + Q.length < 120 → ∃ U, mm_ex (d + 1) 147 0 [.ref 92, .int (nI m)] [] T = some (none, U) ∧ rq S U W0 (C ++ pcs Q) i := by
  intro Q
  induction Q with
  | nil =>
    intro T C _ h hb _
    rw [List.reverse_nil, List.append_nil] at h hb
    have wT := rq_W h hw
    refine ⟨T, ?_, by unfold pcs; rw [List.map_nil, List.append_nil]; exact h⟩
    obtain ⟨h1, h2, h3, h4, h5, h6, h7, h8⟩ := h
    rw [b147_0 (wx_o92 wT), h6]
    by_cases z : W0.length = 0
    · rw [if_pos (nI_le (by omega) (by omega)), b147_64]
    · have hx := hW (W0.length - 1) (by omega)
      rw [if_neg (nI_ge (by omega) (by omega)), b147_7 (wx_o92 wT) (wx_s92_38 wT) (by rw [h6, pk_sub (by omega), wx_g92_38 wT, wx_N116 wT]; exact hp_inb (by omega) (by omega)) (by rw [wx_g92_38 wT]; exact wx_a116 wT), h6, pk_sub (by omega), wx_g92_38 wT, nI_clamp (by omega), h8 _ (by omega)]
      by_cases z0 : W0.getD (W0.length - 1) 0 = 0
      · rw [if_pos (by rw [z0]), b147_64]
      · rw [if_neg (fun e => z0 ((nI_eq (by omega) (by omega)).mp e)), b147_21 (wx_o92 wT) (wx_s92_38 wT) (by rw [h6, pk_sub (by omega), wx_g92_38 wT, wx_N116 wT]; exact hp_inb (by omega) (by omega)) (by rw [wx_g92_38 wT]; exact wx_a116 wT), h6, pk_sub (by omega), wx_g92_38 wT, nI_clamp (by omega), h8 _ (by omega), if_pos (nI_lt hx (by omega)), b147_64]
  | cons q Q ih =>
    intro T C hQ h hb hk
    have wT := rq_W h hw
    have hq := hQ q List.mem_cons_self
    have eW : W0 ++ (q :: Q).reverse = (W0 ++ Q.reverse) ++ [q] := by rw [List.reverse_cons, ← List.append_assoc]
    rw [eW] at h hb
    rw [List.length_cons] at hk
    have hih := fun T C => ih T C (fun z hz => hQ z (List.mem_cons_of_mem q hz))
    generalize W0 ++ Q.reverse = W at *
    rw [la1] at hb
    obtain ⟨U, g1, g2⟩ := s144 (d := d) (e := Sum.inr q) h hw (by omega)
    have wU := rq_W g2 hw
    obtain ⟨h1, h2, h3, h4, h5, h6, h7, h8⟩ := h
    obtain ⟨u1, u2, u3, u4, u5, u6, u7, u8⟩ := g2
    rw [la1] at h6 u6
    have h8t := h8 W.length (by rw [la1]; omega)
    rw [ga_r] at h8t
    have o1 : opn (W ++ [q]) = opn W := by rw [opn_1, if_neg (by omega)]; rfl
    rw [o1] at u7
    have r2 : rq S (mm_uM U 92 39 (nI W.length)) W (C ++ [Sum.inr q]) i := ⟨wM_u u1, fun c j hc => (rdn (fun z => hc (by unfold gp_x; omega))).trans (u2 c j hc), (rdn (by omega)).trans u3, (rdn (by omega)).trans u4, fun n hn => (rdn (by omega)).trans (u5 n hn), rds, (rdn (by omega)).trans u7, fun p hp => (rdn (by omega)).trans ((u8 p (by rw [la1]; omega)).trans (by rw [ga_l hp]))⟩
    obtain ⟨V, g3, g4⟩ := hih _ _ r2 (by omega) (by rw [la1]; omega)
    refine ⟨V, ?_, ?_⟩
    · have hb1 : mm_inb (nI W.length) 110 = true := hp_inb (by omega) (by omega)
      have es : W.length + 1 - 1 = W.length := by omega
      rw [b147_0 (wx_o92 wT), h6, if_neg (nI_ge (by omega) (by omega)), b147_7 (wx_o92 wT) (wx_s92_38 wT) (by rw [h6, pk_sub (by omega), es, wx_g92_38 wT, wx_N116 wT]; exact hb1) (by rw [wx_g92_38 wT]; exact wx_a116 wT), h6, pk_sub (by omega), wx_g92_38 wT, es, nI_clamp (by omega), h8t, if_neg (fun z => by have := (nI_eq (by omega) (by omega)).mp z; omega), b147_21 (wx_o92 wT) (wx_s92_38 wT) (by rw [h6, pk_sub (by omega), es, wx_g92_38 wT, wx_N116 wT]; exact hb1) (by rw [wx_g92_38 wT]; exact wx_a116 wT), h6, pk_sub (by omega), es, wx_g92_38 wT, nI_clamp (by omega), h8t, if_neg (nI_nlt hq.1 (by omega)), b147_36 (wx_o92 wT) (wx_s92_38 wT) (by rw [h6, pk_sub (by omega), es, wx_g92_38 wT, wx_N116 wT]; exact hb1) (by rw [wx_g92_38 wT]; exact wx_a116 wT) (wx_k92 wT), h6, pk_sub (by omega), es, wx_g92_38 wT, nI_clamp (by omega), h8t, show nI q = md_en (Sum.inr q) from rfl, g1, hp_bd, hp_tn, b147_51 (wx_o92 wU), u6, pk_sub (by omega), es, g3]
    · have e : C ++ [Sum.inr q] ++ pcs Q = C ++ pcs (q :: Q) := by rw [List.append_assoc]; rfl
      rw [← e]
      exact g4
/-- ( or ! -/
theorem s148 (h : rq S T W C i) (hw : mm_W S) (hl : W.length ≤ 100) (hi : i ≤ 100) (hq : q = 0 ∨ q = 3) : (opn W = 4 → mm_cl d 148 [.ref 92, .int (nI q)] T = some (some (.int (nI 0)), T)) ∧ (opn W ≠ 4 → ∃ U, mm_cl d 148 [.ref 92, .int (nI q)] T = some (some (.int (nI 1)), U) ∧ rq S U (W ++ [q]) C (i + 1)) := by
  have wT := rq_W h hw
  have hol := @opn_le W
  obtain ⟨h1, h2, h3, h4, h5, h6, h7, h8⟩ := h
  refine ⟨fun z => ?_, fun z => ?_⟩
  · rw [e148, b148_0 (wx_o92 wT), h7, z, if_pos rfl, b148_8]
  · have w1 : mm_W (mm_uM T 92 40 (nI (opn W + 1))) := wT
    have w2 : mm_W (mm_uM (mm_uM T 92 40 (nI (opn W + 1))) 116 W.length (nI q)) := wT
    have w3 : mm_W (mm_uM (mm_uM (mm_uM T 92 40 (nI (opn W + 1))) 116 W.length (nI q)) 92 39 (nI (W.length + 1))) := wT
    refine ⟨mm_uM (mm_uM (mm_uM (mm_uM T 92 40 (nI (opn W + 1))) 116 W.length (nI q)) 92 39 (nI (W.length + 1))) 92 36 (nI (i + 1)), ?_, wM_u (wM_u (wM_u (wM_u h1))), fun c j hc => (rdn (fun z => hc (by unfold gp_x; omega))).trans ((rdn (fun z => hc (by unfold gp_x; omega))).trans ((rdn (fun z => hc (by unfold gp_x; omega))).trans ((rdn (fun z => hc (by unfold gp_x; omega))).trans (h2 c j hc)))), rds, ?_, fun n hn => (rdn (by omega)).trans ((rdn (by omega)).trans ((rdn (by omega)).trans ((rdn (by omega)).trans (h5 n hn)))), ?_, ?_, fun p hp => ?_⟩
    · rw [e148, b148_0 (wx_o92 wT), h7, if_neg (fun e => z ((nI_eq (by omega) (by omega)).mp e)), b148_10 (wx_o92 wT) (wx_s92_38 wT), h7, nI_add, wx_g92_38 wT, b148_25 (wx_o92 w1) (wx_a116 w1) (by rw [show mm_M (mm_uM T 92 40 (nI (opn W + 1))) 92 39 = nI W.length from (rdn (by omega)).trans h6, wx_N116 w1]; exact hp_inb (by omega) (by omega)), show mm_M (mm_uM T 92 40 (nI (opn W + 1))) 92 39 = nI W.length from (rdn (by omega)).trans h6, nI_clamp (by omega), b148_32 (wx_o92 w2) (wx_o92 w2), show mm_M (mm_uM (mm_uM T 92 40 (nI (opn W + 1))) 116 W.length (nI q)) 92 39 = nI W.length from (rdn (by omega)).trans ((rdn (by omega)).trans h6), nI_add, b148_42 (wx_o92 w3) (wx_o92 w3), show mm_M (mm_uM (mm_uM (mm_uM T 92 40 (nI (opn W + 1))) 116 W.length (nI q)) 92 39 (nI (W.length + 1))) 92 36 = nI i from (rdn (by omega)).trans ((rdn (by omega)).trans ((rdn (by omega)).trans h3)), nI_add]
    · exact (rdn (by omega)).trans ((rdn (by omega)).trans ((rdn (by omega)).trans ((rdn (by omega)).trans h4)))
    · rw [la1]
      exact (rdn (by omega)).trans rds
    · rw [opn_1, if_pos hq]
      exact (rdn (by omega)).trans ((rdn (by omega)).trans ((rdn (by omega)).trans rds))
    · rw [la1] at hp
      rw [rdn (by omega), rdn (by omega)]
      by_cases z2 : p = W.length
      · rw [z2, rds, ga_r]
      · rw [rdn (by omega), rdn (by omega), ga_l (by omega)]
        exact h8 p (by omega)
end MP2
