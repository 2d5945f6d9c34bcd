/-! ===== the reference's days in cells ===== -/
/-- the cells that questions of the reference change: the stack alone -/
def md_q (S T : mm_S) : Prop := T = mm_wM S (mm_M T) ∧ ∀ c j, c ≠ 117 → mm_M T c j = mm_M S c j
/-- the cells that turns change -/
def md_dc (c j : Nat) : Prop := c = 117 ∨ c = 100 ∨ c = 97 ∨ c = 98 ∨ (c = 92 ∧ (j = 8 ∨ (10 ≤ j ∧ j ≤ 13) ∨ j = 42 ∨ j = 43))
def md_fr (S T : mm_S) : Prop := T = mm_wM S (mm_M T) ∧ ∀ c j, ¬ md_dc c j → mm_M T c j = mm_M S c j
def md_fo : Option Nat → Int32
  | none => -5
  | some f => nI f
def md_en : ab_T → Int32
  | .inl q => nI (1000 * (1 + 3 * q.1 + q.2.1) + q.2.2)
  | .inr o => nI o
def md_co (S : mm_S) : List ab_T → Nat → Prop
  | [], _ => True
  | t :: c, i => mm_M S 107 i = md_en t ∧ md_co S c (i + 1)
def md_cl (S : mm_S) (h : Nat) : List ab_C → Nat → Prop
  | [], _ => True
  | c :: l, k => mm_M S 103 (10 * h + k) = nI c.1 ∧ mm_M S 104 (10 * h + k) = nI c.2.1 ∧ (c.1 < 2 → ∃ f, f + c.2.2.length ≤ 100 ∧ mm_M S 105 (10 * h + k) = nI f ∧ mm_M S 106 (10 * h + k) = nI (f + c.2.2.length) ∧ md_co S c.2.2 (120 * h + f)) ∧ md_cl S h l (k + 1)
def md_sh (S : mm_S) (o : Option Nat) (l : List ab_C) : Prop := match o with
  | none => mm_M S 92 18 = -1 ∧ l = []
  | some h => h < 6 ∧ mm_M S 92 18 = nI h ∧ mm_M S 102 h = nI l.length ∧ md_cl S h l 0
def md_P (S : mm_S) (P : ab_P) : Prop := mm_M S 92 0 = nI (ab_kn P) ∧ (∀ b, b < ab_kn P → mm_M S 93 b = nI (ab_ki P b) ∧ mm_M S 94 b = nI (ab_v P b) ∧ mm_M S 95 b = nI (ab_wo P b) ∧ mm_M S 96 b = md_fo (ab_fr P b)) ∧ (∀ i, i < 3 * ab_kn P → mm_M S 99 i = nI (ab_te P i)) ∧ (∃ o, md_sh S o (ab_sh P)) ∧ ((mm_M S 92 27 = -1 ∧ ab_fe P = ab_law (ab_sh P) 5 0) ∨ mm_M S 92 27 = nI (ab_fe P))
def md_D (S : mm_S) (n : Nat) (D : ab_D) : Prop := mm_M S 92 8 = nI (ab_row D).length ∧ (∀ p, p < (ab_row D).length → mm_M S 100 p = nI ((ab_row D).getD p 0)) ∧ (∀ b, b < n → mm_M S 97 b = nI (ab_aw D b)) ∧ (∀ b, b < n → mm_M S 98 b = ab_ga D b) ∧ mm_M S 92 10 = nI (ab_pr D) ∧ mm_M S 92 11 = nI (ab_lo D) ∧ mm_M S 92 12 = ab_ti D ∧ mm_M S 92 13 = ab_tu D
def md_A (S : mm_S) (P : ab_P) (D : ab_D) : Prop := mm_W S ∧ md_P S P ∧ md_D S (ab_kn P) D ∧ ab_okP P ∧ ab_okD P D
section MD
variable {S T U : mm_S} {b c j k n i d h : Nat} {P : ab_P} {D : ab_D} {x : Int32} {l : List ab_C} {o : Option Nat}
theorem mq_rf : md_q S S := ⟨rfl, fun _ _ _ => rfl⟩
theorem mq_tr (h : md_q S T) (h2 : md_q T U) : md_q S U := by
  refine ⟨?_, fun c j hc => (h2.2 c j hc).trans (h.2 c j hc)⟩
  have e := h2.1
  rw [h.1] at e
  exact e
theorem mq_w (h : md_q S T) : md_q S (mm_uM T 117 j x) := by
  refine ⟨?_, fun c2 j2 h2 => ?_⟩
  · have e := h.1
    conv => lhs; rw [hp_uMw, e]
    rfl
  · rw [hp_MuM, if_neg (fun e => h2 e.1)]
    exact h.2 c2 j2 h2
theorem mf_rf : md_fr S S := ⟨rfl, fun _ _ _ => rfl⟩
theorem mf_tr (h : md_fr S T) (h2 : md_fr T U) : md_fr S U := by
  refine ⟨?_, fun c j hc => (h2.2 c j hc).trans (h.2 c j hc)⟩
  have e := h2.1
  rw [h.1] at e
  exact e
theorem mf_w (h : md_fr S T) (hc : md_dc c j) : md_fr S (mm_uM T c j x) := by
  refine ⟨?_, fun c2 j2 h2 => ?_⟩
  · have e := h.1
    conv => lhs; rw [hp_uMw, e]
    rfl
  · rw [hp_MuM, if_neg (fun e => h2 (by rw [e.1, e.2]; exact hc))]
    exact h.2 c2 j2 h2
theorem mf_q (h : md_q S T) : md_fr S T := ⟨h.1, fun c j hc => h.2 c j (fun e => hc (Or.inl e))⟩
theorem mf_W (h : md_fr S T) (hw : mm_W S) : mm_W T := by rw [h.1]; exact hw
theorem mq_W (h : md_q S T) (hw : mm_W S) : mm_W T := by rw [h.1]; exact hw
theorem mf_co (h : ∀ i, mm_M T 107 i = mm_M S 107 i) : ∀ {l : List ab_T} {i : Nat}, md_co S l i → md_co T l i := by
  intro l
  induction l with
  | nil => intro i _; exact True.intro
  | cons t l ih => intro i hc; exact ⟨(h i).trans hc.1, ih hc.2⟩
theorem mf_cl (h : ∀ c i, 102 ≤ c → c ≤ 107 → mm_M T c i = mm_M S c i) {m : Nat} : ∀ {l : List ab_C} {k : Nat}, md_cl S m l k → md_cl T m l k := by
  intro l
  induction l with
  | nil => intro k _; exact True.intro
  | cons t l ih =>
    intro k hc
    refine ⟨(h _ _ (by decide) (by decide)).trans hc.1, (h _ _ (by decide) (by decide)).trans hc.2.1, fun ht => ?_, ih hc.2.2.2⟩
    obtain ⟨f, h1, h2, h3, h4⟩ := hc.2.2.1 ht
    exact ⟨f, h1, (h _ _ (by decide) (by decide)).trans h2, (h _ _ (by decide) (by decide)).trans h3, mf_co (fun i => h _ _ (by decide) (by decide)) h4⟩
theorem mf_sh (h : ∀ c i, 102 ≤ c → c ≤ 107 → mm_M T c i = mm_M S c i) (h18 : mm_M T 92 18 = mm_M S 92 18) (hs : md_sh S o l) : md_sh T o l := by
  cases o with
  | none => exact ⟨h18.trans hs.1, hs.2⟩
  | some m => exact ⟨hs.1, h18.trans hs.2.1, (h _ _ (by decide) (by decide)).trans hs.2.2.1, mf_cl h hs.2.2.2⟩
theorem mf_P (h : md_fr S T) (hp : md_P S P) : md_P T P := by
  obtain ⟨h1, h2, h3, ⟨o, h4⟩, h5⟩ := hp
  have hx : ∀ c j, ¬ md_dc c j → mm_M T c j = mm_M S c j := h.2
  have g : ∀ c i, 102 ≤ c → c ≤ 107 → mm_M T c i = mm_M S c i := fun c i a b => hx c i (by unfold md_dc; omega)
  have g92 : ∀ j, j = 0 ∨ j = 18 ∨ j = 27 → mm_M T 92 j = mm_M S 92 j := fun j e => hx 92 j (by unfold md_dc; omega)
  have g9 : ∀ c i, 93 ≤ c → c ≤ 96 → mm_M T c i = mm_M S c i := fun c i a b => hx c i (by unfold md_dc; omega)
  refine ⟨(g92 0 (by decide)).trans h1, fun b hb => ?_, fun i hi => (hx 99 i (by unfold md_dc; omega)).trans (h3 i hi), ⟨o, mf_sh g (g92 18 (by decide)) h4⟩, ?_⟩
  · obtain ⟨q1, q2, q3, q4⟩ := h2 b hb
    exact ⟨(g9 _ _ (by decide) (by decide)).trans q1, (g9 _ _ (by decide) (by decide)).trans q2, (g9 _ _ (by decide) (by decide)).trans q3, (g9 _ _ (by decide) (by decide)).trans q4⟩
  · rw [g92 27 (by decide)]; exact h5
theorem mq_D (h : md_q S T) (hp : md_D S n D) : md_D T n D := by
  have g : ∀ c j, c ≠ 117 → mm_M T c j = mm_M S c j := h.2
  obtain ⟨h1, h2, h3, h4, h5, h6, h7, h8⟩ := hp
  exact ⟨(g _ _ (by decide)).trans h1, fun p hp => (g _ _ (by decide)).trans (h2 p hp), fun b hb => (g _ _ (by decide)).trans (h3 b hb), fun b hb => (g _ _ (by decide)).trans (h4 b hb), (g _ _ (by decide)).trans h5, (g _ _ (by decide)).trans h6, (g _ _ (by decide)).trans h7, (g _ _ (by decide)).trans h8⟩
theorem mq_A (h : md_q S T) (hA : md_A S P D) : md_A T P D := ⟨mq_W h hA.1, mf_P (mf_q h) hA.2.1, mq_D h hA.2.2.1, hA.2.2.2⟩
/-- places in the reference -/
theorem s130_loop (hw : mm_W S) {r : List Nat} (hl : mm_M S 92 8 = nI r.length) (h6 : r.length ≤ 6) (hr : ∀ p, p < r.length → mm_M S 100 p = nI (r.getD p 0)) (hb : ∀ y ∈ r, y < 6) (hb6 : b < 6) : ∀ k i : Nat, i + k = r.length → mm_ex d 130 2 [.ref 92, .int (nI b), .int (nI i)] [] S = some (some (.int (md_fo ((ab_at b (r.drop i)).map (· + i)))), S) := by
  intro k
  induction k with
  | zero =>
    intro i hi
    have e : i = r.length := by omega
    subst e
    rw [b130_2 (wf_o92 hw), hl, if_pos (nI_le (Nat.le_refl _) (by omega)), b130_28, List.drop_length]
    rfl
  | succ k ih =>
    intro i hi
    have hi6 : i < r.length := by omega
    have hy : r.getD i 0 < 6 := by
      rw [List.getD_eq_getElem?_getD, List.getElem?_eq_getElem hi6]
      exact hb _ (List.getElem_mem hi6)
    rw [b130_2 (wf_o92 hw), hl, if_neg (nI_ge hi6 (by omega)), b130_10 (wf_o92 hw) (wf_s92_9 hw) (by rw [wf_g92_9 hw, wf_N100 hw]; exact hp_inb (by omega) (by omega)) (by rw [wf_g92_9 hw]; exact wf_a100 hw), wf_g92_9 hw, nI_clamp (by omega), hr i hi6, dr_c hi6]
    by_cases e : r.getD i 0 = b
    · have e2 : ab_at b (b :: r.drop (i + 1)) = some 0 := if_pos rfl
      rw [e, if_pos rfl, b130_20, e2]
      show _ = some (some (Value.int (nI (0 + i))), S)
      rw [Nat.zero_add]
    · rw [if_neg (fun h => e ((nI_eq (by omega) (by omega)).mp h)), b130_22, nI_add, ih (i + 1) (by omega)]
      show some (some (Value.int (md_fo ((ab_at b (r.drop (i + 1))).map (· + (i + 1))))), S) = some (some (Value.int (md_fo ((if r.getD i 0 = b then some 0 else (ab_at b (r.drop (i + 1))).map (· + 1)).map (· + i)))), S)
      rw [if_neg e, Option.map_map]
      congr 6
      funext x
      show x + (i + 1) = x + 1 + i
      omega
theorem s130 (hA : md_A S P D) (hb : b < 6) : mm_cl d 130 [.ref 92, .int (nI b)] S = some (some (.int (md_fo (ab_at b (ab_row D)))), S) := by
  obtain ⟨hw, hP, hD, oP, oD⟩ := hA
  have h := s130_loop (d := d) (r := ab_row D) (b := b) hw hD.1 (row_le oP oD) hD.2.1 (fun y hy => Nat.lt_of_lt_of_le (oD.2.1 y hy) oP.1) hb (ab_row D).length 0 (Nat.zero_add _)
  rw [e130, b130_0, h, List.drop_zero]
  have e : (fun x : Nat => x + 0) = id := rfl
  rw [e, Option.map_id]
  rfl
theorem fo_n5 : md_fo none = -5 := rfl
theorem mo_neg {o : Option Nat} (h : ∀ k, o = some k → k < 2 ^ 31) : (md_fo o = -5) = (o = none) := by
  cases o with
  | none => exact propext ⟨fun _ => rfl, fun _ => rfl⟩
  | some k =>
    refine propext ⟨fun e => ?_, fun e => by cases e⟩
    have h1 := congrArg Int32.toInt e
    have h2 : (md_fo (some k)).toInt = (k : Int) := nI_toInt (h k rfl)
    have h3 : (-5 : Int32).toInt = -5 := rfl
    omega
theorem at_neg (hA : md_A S P D) : (md_fo (ab_at b (ab_row D)) = -5) = ¬ (b ∈ ab_row D) := by
  rw [mo_neg (fun k e => by have := at_lt (row_le hA.2.2.2.1 hA.2.2.2.2) e; omega), at_none]
theorem ms_0 : ab_ms P D b 0 = b := rfl
theorem ms_1 : ab_ms P D b 1 = ab_ki P b := rfl
theorem ms_2 : ab_ms P D b 2 = ab_pr D := rfl
theorem ms_3 : ab_ms P D b 3 = ab_lo D := rfl
theorem ms_4 : ab_ms P D b 4 = (ab_row D).length := rfl
theorem ms_5 : ab_ms P D b 5 = ab_aw D b := rfl
theorem ms_6 : ab_ms P D b 6 = if ab_frn P D b = true then 1 else 0 := rfl
theorem s153 (hA : md_A S P D) (hb : b < ab_kn P) {q : Nat} (hq : q < 7) : mm_cl (d + 1) 153 [.ref 92, .int (nI q), .int (nI b)] S = some (some (.int (nI (ab_ms P D b q))), S) := by
  have hA' := hA
  obtain ⟨hw, hP, hD, oP, oD⟩ := hA
  have hb6 := Nat.lt_of_lt_of_le hb oP.1
  have hB := hP.2.1 b hb
  have hc := nI_clamp (n := b) (by omega)
  rw [e153, b153_0, b153_1]
  rcases (by omega : q = 0 ∨ q = 1 ∨ q = 2 ∨ q = 3 ∨ q = 4 ∨ q = 5 ∨ q = 6) with rfl | rfl | rfl | rfl | rfl | rfl | rfl
  · rw [if_pos rfl, b153_40, ms_0]
  · rw [if_neg (by decide), if_pos rfl, b153_42 (wf_o92 hw) (wf_s92_1 hw) (by rw [wf_g92_1 hw, wf_N93 hw]; exact hp_inb hb6 (by omega)) (by rw [wf_g92_1 hw]; exact wf_a93 hw), wf_g92_1 hw, hc, hB.1, ms_1]
  · rw [if_neg (by decide), if_neg (by decide), if_pos rfl, b153_49 (wf_o92 hw), hD.2.2.2.2.1, ms_2]
  · rw [if_neg (by decide), if_neg (by decide), if_neg (by decide), if_pos rfl, b153_54 (wf_o92 hw), hD.2.2.2.2.2.1, ms_3]
  · rw [if_neg (by decide), if_neg (by decide), if_neg (by decide), if_neg (by decide), if_pos rfl, b153_59 (wf_o92 hw), hD.1, ms_4]
  · rw [if_neg (by decide), if_neg (by decide), if_neg (by decide), if_neg (by decide), if_neg (by decide), if_pos rfl, b153_64 (wf_o92 hw) (wf_s92_5 hw) (by rw [wf_g92_5 hw, wf_N97 hw]; exact hp_inb hb6 (by omega)) (by rw [wf_g92_5 hw]; exact wf_a97 hw), wf_g92_5 hw, hc, hD.2.2.1 b hb, ms_5]
  · have hi : mm_inb (nI b) (mm_N S (mm_rg S 92 4)) = true := by rw [wf_g92_4 hw, wf_N96 hw]; exact hp_inb hb6 (by omega)
    have ha : mm_arr S (mm_rg S 92 4) 13 = true := by rw [wf_g92_4 hw]; exact wf_a96 hw
    rw [if_neg (by decide), if_neg (by decide), if_neg (by decide), if_neg (by decide), if_neg (by decide), if_neg (by decide), b153_71 (wf_o92 hw) (wf_s92_4 hw) hi ha, wf_g92_4 hw, hc, hB.2.2.2, ms_6]
    unfold ab_frn
    cases hf : ab_fr P b with
    | none => rw [if_pos fo_n5, b153_101]; rfl
    | some f =>
      have hf6 := Nat.lt_of_lt_of_le (oP.2.2.2.2.1 b f hb hf).1 oP.1
      have hn : ¬ md_fo (some f) = -5 := fun e => by rw [mo_neg (fun k e => by cases e; omega)] at e; cases e
      rw [if_neg hn, b153_82 (wf_o92 hw) (wf_s92_4 hw) hi ha (wf_k92 hw), wf_g92_4 hw, hc, hB.2.2.2, hf]
      have h130 := s130 (d := d) hA' hf6
      rw [show md_fo (some f) = nI f from rfl, h130, hp_bd, hp_ts, b153_92]
      by_cases hm : f ∈ ab_row D
      · rw [if_neg (by rw [at_neg hA']; exact fun e => e hm), b153_97, if_pos (decide_eq_true hm)]
      · rw [if_pos (by rw [at_neg hA']; exact hm), b153_101, if_neg (fun e => hm (of_decide_eq_true e))]
end MD
