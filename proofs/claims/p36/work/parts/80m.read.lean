section
/-! ===== how THE TEXT is read, as a relation ===== -/
def ps (t : List Nat) (i : Nat) : Nat := t.getD i 0
def pdg (x : Nat) : Bool := decide (48 ≤ x) && decide (x ≤ 57)
/-- one or two figures -/
def pnu (t : List Nat) (i : Nat) : Nat × Option Nat := if pdg (ps t i) = true then (if pdg (ps t (i + 1)) = true then (i + 2, some (10 * (ps t i - 48) + (ps t (i + 1) - 48))) else (i + 1, some (ps t i - 48))) else (i, none)
def plt : List Nat := [98, 107, 112, 108, 114, 97, 102]
def prl : List Nat := [60, 61, 62]
/-- a TEST -/
def pte (t : List Nat) (i : Nat) : Nat × Option ab_T := match ab_at (ps t i) plt with
  | none => (i, none)
  | some l => match ab_at (ps t (i + 1)) prl with
    | none => (i + 1, none)
    | some r => ((pnu t (i + 2)).1, (pnu t (i + 2)).2.map (fun n => Sum.inl (l, r, n)))
def pch (s : Nat) : Nat := if s = 0 then 38 else 124
/-- rules of F (0), of T (1) and E (2), and of what follows their first part (3, 4) -/
def PEc (t : List Nat) (R : Nat → Nat → Nat → Nat → Option (List ab_T) → Prop) : Prop :=
  (∀ d i, ps t i ≠ 33 → ps t i ≠ 40 → R 0 d i (pte t i).1 ((pte t i).2.map (fun x => [x]))) ∧
  (∀ d i, ps t i = 33 ∨ ps t i = 40 → 4 ≤ d → R 0 d i i none) ∧
  (∀ d i j o, ps t i = 33 → d < 4 → R 0 (d + 1) (i + 1) j o → R 0 d i j (o.map (fun c => c ++ [Sum.inr 3]))) ∧
  (∀ d i j, ps t i = 40 → d < 4 → R 2 (d + 1) (i + 1) j none → R 0 d i j none) ∧
  (∀ d i j c, ps t i = 40 → d < 4 → R 2 (d + 1) (i + 1) j (some c) → R 0 d i (if ps t j = 41 then j + 1 else j) (if ps t j = 41 then some c else none)) ∧
  (∀ s d i j, s < 2 → R s d i j none → R (s + 1) d i j none) ∧
  (∀ s d i j k c o, s < 2 → R s d i j (some c) → R (s + 3) d j k o → R (s + 1) d i k (o.map (fun r => c ++ r))) ∧
  (∀ s d j, s < 2 → ps t j ≠ pch s → R (s + 3) d j j (some [])) ∧
  (∀ s d j k, s < 2 → ps t j = pch s → R s d (j + 1) k none → R (s + 3) d j k none) ∧
  ∀ s d j k m c o, s < 2 → ps t j = pch s → R s d (j + 1) k (some c) → R (s + 3) d k m o → R (s + 3) d j m (o.map (fun r => c ++ Sum.inr (2 - s) :: r))
def PE (t : List Nat) (k d i j : Nat) (o : Option (List ab_T)) : Prop := ∀ R, PEc t R → R k d i j o
def pw (t : List Nat) : List Nat → Nat → Nat × Bool
  | [], i => (i, true)
  | c :: l, i => if ps t i = c then pw t l (i + 1) else (i, false)
def pfl : List Nat := [109, 99, 117, 100, 97, 102]
def pws : List (List Nat) := [[109, 111, 114, 101, 32], [99, 111, 115, 116, 32], [117, 112, 32], [100, 111, 119, 110, 32], [97, 119, 97, 121, 32], [102, 101, 101, 32]]
/-- a clause -/
def PC (t : List Nat) (i j : Nat) (o : Option ab_C) : Prop := match ab_at (ps t i) pfl with
  | none => j = i ∧ o = none
  | some w => if (pw t (pws.getD w []) i).2 = false then j = (pw t (pws.getD w []) i).1 ∧ o = none else match (pnu t (pw t (pws.getD w []) i).1).2 with
    | none => j = (pnu t (pw t (pws.getD w []) i).1).1 ∧ o = none
    | some n => if w < 2 then (if ps t (pnu t (pw t (pws.getD w []) i).1).1 = 32 then ∃ o', PE t 2 0 ((pnu t (pw t (pws.getD w []) i).1).1 + 1) j o' ∧ o = o'.map (fun c => (w, n, c)) else j = (pnu t (pw t (pws.getD w []) i).1).1 ∧ o = none) else j = (pnu t (pw t (pws.getD w []) i).1).1 ∧ o = some (w, n, [])
def PL (t : List Nat) : Nat → List ab_C → Nat → Nat → Option (List ab_C) → Prop
  | 0, _, _, _, _ => False
  | m + 1, l, i, j, o => (PC t i j none ∧ o = none) ∨ ∃ k c, PC t i k (some c) ∧ ((t.length ≤ k ∧ j = k ∧ o = some (l ++ [c])) ∨ (k < t.length ∧ (m = 0 ∨ ps t k ≠ 59) ∧ j = k ∧ o = none) ∨ (k < t.length ∧ m ≠ 0 ∧ ps t k = 59 ∧ PL t m (l ++ [c]) (k + 1) j o))
def gS_sh (G : gb_G) (l : List ab_C) : gb_G := (((G.1.1.1, G.1.1.2.1, G.1.1.2.2.1, G.1.1.2.2.2.1, G.1.1.2.2.2.2.1, G.1.1.2.2.2.2.2.1, l, ab_law l 5 0), G.1.2.1, G.1.2.2.1, G.1.2.2.2.1, some (gb_s G).length), G.2.1, gb_s G ++ [l], [], G.2.2.2.2)
/-- shop: its answer, and all after it -/
def PS (G : gb_G) (v : Int32) (G2 : gb_G) : Prop := if (gb_s G).length = 6 then v = -4 ∧ G2 = G else ∃ j o, PL (gb_t G) 10 [] 0 j o ∧ match o with
  | none => v = -10 - nI j ∧ G2 = gS_t G []
  | some l => v = nI (gb_s G).length ∧ G2 = gS_sh G l
section PA
variable {t : List Nat} {i j k d s m n w h : Nat} {o : Option (List ab_T)} {c : List ab_T}
theorem PE_c : PEc t (PE t) := ⟨fun d i h1 h2 R q => q.1 d i h1 h2, fun d i h1 h2 R q => q.2.1 d i h1 h2, fun d i j o h1 h2 h3 R q => q.2.2.1 d i j o h1 h2 (h3 R q), fun d i j h1 h2 h3 R q => q.2.2.2.1 d i j h1 h2 (h3 R q), fun d i j c h1 h2 h3 R q => q.2.2.2.2.1 d i j c h1 h2 (h3 R q), fun s d i j h1 h2 R q => q.2.2.2.2.2.1 s d i j h1 (h2 R q), fun s d i j k c o h1 h2 h3 R q => q.2.2.2.2.2.2.1 s d i j k c o h1 (h2 R q) (h3 R q), fun s d j h1 h2 R q => q.2.2.2.2.2.2.2.1 s d j h1 h2, fun s d j k h1 h2 h3 R q => q.2.2.2.2.2.2.2.2.1 s d j k h1 h2 (h3 R q), fun s d j k m c o h1 h2 h3 h4 R q => q.2.2.2.2.2.2.2.2.2 s d j k m c o h1 h2 (h3 R q) (h4 R q)⟩
theorem ps_in (h : ps t i ≠ 0) : i < t.length := by
  by_cases q : i < t.length
  · exact q
  · exfalso
    apply h
    unfold ps
    rw [List.getD_eq_getElem?_getD, List.getElem?_eq_none (by omega)]
    rfl
theorem pdg_in (h : pdg (ps t i) = true) : i < t.length ∧ 48 ≤ ps t i ∧ ps t i ≤ 57 := by
  unfold pdg at h
  rw [Bool.and_eq_true, decide_eq_true_eq, decide_eq_true_eq] at h
  exact ⟨ps_in (by omega), h⟩
theorem pnu_le : i ≤ (pnu t i).1 ∧ (i ≤ t.length → (pnu t i).1 ≤ t.length) ∧ (pnu t i).1 ≤ i + 2 := by
  unfold pnu
  split
  · rename_i h
    have a := pdg_in h
    split
    · rename_i h2
      have b := pdg_in h2
      exact ⟨by show i ≤ i + 2; omega, fun _ => by show i + 2 ≤ t.length; omega, Nat.le_refl _⟩
    · exact ⟨by show i ≤ i + 1; omega, fun _ => by show i + 1 ≤ t.length; omega, by show i + 1 ≤ i + 2; omega⟩
  · exact ⟨Nat.le_refl _, fun h => h, by show i ≤ i + 2; omega⟩
theorem pnu_n (e : (pnu t i).2 = some n) : n < 100 ∧ i + 1 ≤ (pnu t i).1 := by
  unfold pnu at e ⊢
  by_cases h : pdg (ps t i) = true
  · have a := pdg_in h
    rw [if_pos h] at e ⊢
    by_cases h2 : pdg (ps t (i + 1)) = true
    · have b := pdg_in h2
      rw [if_pos h2] at e ⊢
      have e := Option.some.inj e
      exact ⟨by omega, by show i + 1 ≤ i + 2; omega⟩
    · rw [if_neg h2] at e ⊢
      have e := Option.some.inj e
      exact ⟨by omega, Nat.le_refl _⟩
  · rw [if_neg h] at e; cases e
theorem at_ln {x l : Nat} {r : List Nat} (h : ab_at x r = some l) : l < r.length := (at_some h).1
theorem at_ps {l : Nat} {r : List Nat} (h : ab_at (ps t i) r = some l) (h0 : 0 ∉ r) : i < t.length := by
  refine ps_in (fun e => h0 ?_)
  have := at_some h
  rw [← e, ← this.2]
  rw [List.getD_eq_getElem?_getD, List.getElem?_eq_getElem this.1]
  exact List.getElem_mem this.1
theorem pte_le : i ≤ (pte t i).1 ∧ (i ≤ t.length → (pte t i).1 ≤ t.length) := by
  unfold pte
  cases h : ab_at (ps t i) plt with
  | none => exact ⟨Nat.le_refl _, fun q => q⟩
  | some l =>
    have a := at_ps h (by decide)
    simp only
    cases h2 : ab_at (ps t (i + 1)) prl with
    | none => exact ⟨by show i ≤ i + 1; omega, fun _ => by show i + 1 ≤ t.length; omega⟩
    | some r =>
      have b := at_ps h2 (by decide)
      have p := @pnu_le t (i + 2)
      exact ⟨by show i ≤ (pnu t (i + 2)).1; omega, fun _ => p.2.1 (by omega)⟩
theorem pte_s {x : ab_T} (e : (pte t i).2 = some x) : i + 3 ≤ (pte t i).1 ∧ ∃ l r n, l < 7 ∧ r < 3 ∧ n < 100 ∧ x = Sum.inl (l, r, n) := by
  unfold pte at e ⊢
  cases h : ab_at (ps t i) plt with
  | none => rw [h] at e; cases e
  | some l =>
    rw [h] at e
    simp only at e ⊢
    cases h2 : ab_at (ps t (i + 1)) prl with
    | none => rw [h2] at e; cases e
    | some r =>
      rw [h2] at e
      simp only at e ⊢
      cases h3 : (pnu t (i + 2)).2 with
      | none => rw [h3] at e; cases e
      | some n =>
        rw [h3] at e
        have p := pnu_n h3
        exact ⟨by omega, l, r, n, at_ln h, at_ln h2, p.1, (Option.some.inj e).symm⟩
theorem PE_le (p : PE t k d i j o) : i ≤ j ∧ (i ≤ t.length → j ≤ t.length) ∧ ∀ c, o = some c → c.length + i ≤ j := by
  refine p (fun _ _ i j o => i ≤ j ∧ (i ≤ t.length → j ≤ t.length) ∧ ∀ c, o = some c → c.length + i ≤ j) ⟨?_, ?_, ?_, ?_, ?_, ?_, ?_, ?_, ?_, ?_⟩
  · intro d i h1 h2
    refine ⟨pte_le.1, pte_le.2, fun c hc => ?_⟩
    cases e : (pte t i).2 with
    | none => rw [e] at hc; cases hc
    | some x =>
      rw [e] at hc
      have := Option.some.inj hc
      subst this
      have := pte_s e
      show 1 + i ≤ _
      omega
  · intro d i h1 h2
    exact ⟨Nat.le_refl _, fun q => q, fun c hc => by cases hc⟩
  · intro d i j o h1 h2 h3
    have a : i < t.length := ps_in (by omega)
    refine ⟨by omega, fun _ => h3.2.1 (by omega), fun c hc => ?_⟩
    cases o with
    | none => cases hc
    | some c2 =>
      have := h3.2.2 c2 rfl
      have e := Option.some.inj hc
      subst e
      rw [List.length_append]
      show c2.length + 1 + i ≤ j
      omega
  · intro d i j h1 h2 h3
    have a : i < t.length := ps_in (by omega)
    exact ⟨by omega, fun _ => h3.2.1 (by omega), fun c hc => by cases hc⟩
  · intro d i j c h1 h2 h3
    have a : i < t.length := ps_in (by omega)
    by_cases h : ps t j = 41
    · have b : j < t.length := ps_in (by omega)
      rw [if_pos h, if_pos h]
      refine ⟨by omega, fun _ => by omega, fun c2 hc => ?_⟩
      have := h3.2.2 c rfl
      cases hc
      omega
    · rw [if_neg h, if_neg h]
      exact ⟨by omega, fun _ => h3.2.1 (by omega), fun c2 hc => by cases hc⟩
  · intro s d i j h1 h2
    exact h2
  · intro s d i j k c o h1 h2 h3
    refine ⟨by omega, fun q => h3.2.1 (h2.2.1 q), fun c2 hc => ?_⟩
    cases o with
    | none => cases hc
    | some r =>
      have a := h2.2.2 c rfl
      have b := h3.2.2 r rfl
      cases hc
      rw [List.length_append]
      omega
  · intro s d j h1 h2
    refine ⟨Nat.le_refl _, fun q => q, fun c hc => ?_⟩
    cases hc
    show 0 + j ≤ j
    omega
  · intro s d j k h1 h2 h3
    have a : j < t.length := ps_in (by rw [h2]; unfold pch; split <;> decide)
    exact ⟨by omega, fun _ => h3.2.1 (by omega), fun c hc => by cases hc⟩
  · intro s d j k m c o h1 h2 h3 h4
    have a : j < t.length := ps_in (by rw [h2]; unfold pch; split <;> decide)
    refine ⟨by omega, fun _ => h4.2.1 (h3.2.1 (by omega)), fun c2 hc => ?_⟩
    cases o with
    | none => cases hc
    | some r =>
      have a := h3.2.2 c rfl
      have b := h4.2.2 r rfl
      cases hc
      rw [List.length_append, List.length_cons]
      omega
/-- what was read can be worked out on a small stack -/
theorem PE_hei (p : PE t k d i j o) : ∀ c, o = some c → d ≤ 4 → k < 5 → ∀ h rest, h + k ≤ 2 * d + (if k < 3 then 2 else 4) → ab_hei (c ++ rest) (if k < 3 then h else h + 1) = ab_hei rest (h + 1) := by
  refine p (fun k d i j o => ∀ c, o = some c → d ≤ 4 → k < 5 → ∀ h rest, h + k ≤ 2 * d + (if k < 3 then 2 else 4) → ab_hei (c ++ rest) (if k < 3 then h else h + 1) = ab_hei rest (h + 1)) ⟨?_, ?_, ?_, ?_, ?_, ?_, ?_, ?_, ?_, ?_⟩
  · intro d i h1 h2 c hc hd _ h rest hh
    rw [if_pos (by decide)] at hh ⊢
    cases e : (pte t i).2 with
    | none => rw [e] at hc; cases hc
    | some x =>
      rw [e] at hc
      have := Option.some.inj hc
      subst this
      obtain ⟨-, l, r, n, hl, hr, hn, rfl⟩ := pte_s e
      show (if l < 7 ∧ r < 3 ∧ n < 100 ∧ h < 24 then ab_hei rest (h + 1) else none) = _
      rw [if_pos ⟨hl, hr, hn, by omega⟩]
  · intro d i h1 h2 c hc
    cases hc
  · intro d i j o h1 h2 h3 c hc hd _ h rest hh
    rw [if_pos (by decide)] at hh ⊢
    cases o with
    | none => cases hc
    | some c2 =>
      have e := Option.some.inj hc
      subst e
      have := h3 c2 rfl (by omega) (by decide) h ([Sum.inr 3] ++ rest) (by rw [if_pos (by decide)]; omega)
      rw [if_pos (by decide)] at this
      rw [List.append_assoc, this]
      show (if 3 = 3 then (if 1 ≤ h + 1 then ab_hei rest (h + 1) else none) else _) = _
      rw [if_pos rfl, if_pos (by omega)]
  · intro d i j h1 h2 h3 c hc
    cases hc
  · intro d i j c h1 h2 h3 c2 hc hd _ h rest hh
    rw [if_pos (by decide)] at hh ⊢
    by_cases q : ps t j = 41
    · rw [if_pos q] at hc
      cases hc
      have := h3 c rfl (by omega) (by decide) h rest (by rw [if_pos (by decide)]; omega)
      rw [if_pos (by decide)] at this
      exact this
    · rw [if_neg q] at hc; cases hc
  · intro s d i j h1 h2 c hc
    cases hc
  · intro s d i j k c o h1 h2 h3 c2 hc hd _ h rest hh
    rw [if_pos (by omega)] at hh ⊢
    cases o with
    | none => cases hc
    | some r =>
      cases hc
      have a := h2 c rfl hd (by omega) h (r ++ rest) (by rw [if_pos (by omega)]; omega)
      have b := h3 r rfl hd (by omega) h rest (by rw [if_neg (by omega)]; omega)
      rw [if_pos (by omega)] at a
      rw [if_neg (by omega)] at b
      rw [List.append_assoc, a, b]
  · intro s d j h1 h2 c hc hd _ h rest hh
    cases hc
    rw [if_neg (by omega)]
    rfl
  · intro s d j k h1 h2 h3 c hc
    cases hc
  · intro s d j k m c o h1 h2 h3 h4 c2 hc hd _ h rest hh
    rw [if_neg (by omega)] at hh ⊢
    cases o with
    | none => cases hc
    | some r =>
      cases hc
      have a := h3 c rfl hd (by omega) (h + 1) (Sum.inr (2 - s) :: r ++ rest) (by rw [if_pos (by omega)]; omega)
      have b := h4 r rfl hd (by omega) h rest (by rw [if_neg (by omega)]; omega)
      rw [if_pos (by omega)] at a
      rw [if_neg (by omega)] at b
      rw [List.append_assoc, a]
      show (if 2 - s = 3 then _ else if (2 - s = 1 ∨ 2 - s = 2) ∧ 2 ≤ h + 1 + 1 then ab_hei (r ++ rest) (h + 1 + 1 - 1) else none) = _
      rw [if_neg (by omega), if_pos (by omega)]
      exact b
theorem PE_one (p : PE t 2 0 i j (some c)) : ab_hei c 0 = some 1 := by
  have := PE_hei p c rfl (by decide) (by decide) 0 [] (by decide)
  rw [List.append_nil] at this
  exact this
end PA
end
section
/-! ===== how the reference reads ===== -/
def gp_x (c j : Nat) : Prop := (c = 92 ∧ 36 ≤ j ∧ j ≤ 40) ∨ (c = 107 ∧ 720 ≤ j) ∨ c = 116
def rt (S : mm_S) (t : List Nat) : Prop := mm_W S ∧ mm_M S 92 26 = nI t.length ∧ (∀ i, i < t.length → mm_M S 108 i = nI (t.getD i 0)) ∧ t.length ≤ 100 ∧ (∀ x ∈ t, x < 128) ∧ gm_c S
def sg (t : List Nat) (i : Nat) : Int32 := if i < t.length then nI (ps t i) else -1
/-- only the place at which it reads differs -/
def r36 (T U : mm_S) (i : Nat) : Prop := U = mm_wM T (mm_M U) ∧ (∀ c j, ¬ (c = 92 ∧ j = 36) → mm_M U c j = mm_M T c j) ∧ mm_M U 92 36 = nI i
def pmo : Option Nat → Int32
  | none => -1
  | some n => nI n
section MP
variable {S T U V : mm_S} {t : List Nat} {d i j k n c : Nat} {x y : Int32}
theorem r_tr (h : r36 T U i) (h2 : r36 U V j) : r36 T V j := by
  refine ⟨?_, fun c j hc => (h2.2.1 c j hc).trans (h.2.1 c j hc), h2.2.2⟩
  have e := h2.1
  rw [h.1] at e
  exact e
theorem r_rf (h : mm_M T 92 36 = nI i) : r36 T T i := ⟨rfl, fun _ _ _ => rfl, h⟩
theorem r_w : r36 T (mm_uM T 92 36 (nI i)) i := ⟨hp_uMw, fun c j hc => rdn hc, rds⟩
theorem rt_w (h : r36 T U i) (hT : rt T t) : rt U t := by
  obtain ⟨h1, h2, h3, h4, h5, h6⟩ := hT
  have g : ∀ c j, ¬ (c = 92 ∧ j = 36) → mm_M U c j = mm_M T c j := h.2.1
  exact ⟨by rw [h.1]; exact h1, (g _ _ (by omega)).trans h2, fun i hi => (g _ _ (by omega)).trans (h3 i hi), h4, h5, mt_c (fun c j hc => g c j (by omega)) h6⟩
theorem ps_lt (hT : rt S t) : ps t i < 128 := by
  unfold ps
  by_cases h : i < t.length
  · rw [List.getD_eq_getElem?_getD, List.getElem?_eq_getElem h]
    exact hT.2.2.2.2.1 _ (List.getElem_mem h)
  · rw [List.getD_eq_getElem?_getD, List.getElem?_eq_none (by omega)]
    exact Nat.zero_lt_succ _
theorem sg_eq (hT : rt S t) (hc : 0 < c) (hc2 : c < 128) : (sg t i = nI c) = (ps t i = c) := by
  have := @ps_lt S t i hT
  unfold sg
  by_cases h : i < t.length
  · rw [if_pos h]
    exact propext (nI_eq (by omega) (by omega))
  · rw [if_neg h]
    refine propext ⟨fun e => absurd e.symm (nI_m1 (by omega)), fun e => ?_⟩
    exact absurd (ps_in (t := t) (i := i) (by omega)) h
theorem s139 (hT : rt T t) (h : mm_M T 92 36 = nI i) (hi : i < 2 ^ 20) : mm_cl d 139 [.ref 92] T = some (some (.int (sg t i)), T) := by
  obtain ⟨hw, h26, h108, h100, -, -⟩ := hT
  rw [e139, b139_0 (wx_o92 hw), h26, h]
  unfold sg
  by_cases q : i < t.length
  · rw [if_neg (nI_ge q (by omega)), if_pos q, b139_11 (wx_o92 hw) (wx_s92_25 hw) (by rw [h, wx_g92_25 hw, wx_N108 hw]; exact hp_inb (by omega) (by omega)) (by rw [wx_g92_25 hw]; exact wx_a108 hw), h, wx_g92_25 hw, nI_clamp (by omega), h108 i q]
    rfl
  · rw [if_pos (nI_le (by omega) (by omega)), if_neg q, b139_23]
theorem s140 (hT : rt T t) : mm_cl (d + 1) 140 [.int (sg t i)] U = some (some (.int (if pdg (ps t i) = true then nI 1 else nI 0)), U) := by
  have e : mm_cl (d + 1) 140 [.int (sg t i)] U = mm_ex (d + 1) 140 8 [.int (sg t i)] [.int (if sg t i < nI 48 ∨ nI 57 < sg t i then nI 0 else nI 1)] U := by
    rw [e140, b140_0, s128, hp_bd, hp_ts]
  have hl := @ps_lt T t i hT
  by_cases h : i < t.length
  · have es : sg t i = nI (ps t i) := if_pos h
    by_cases q : pdg (ps t i) = true
    · have a := pdg_in q
      rw [e, es, if_neg (fun z => Or.elim z (nI_nlt a.2.1 (by omega)) (nI_nlt a.2.2 (by omega))), b140_8 rfl, if_pos q]
    · have a : ps t i < 48 ∨ 57 < ps t i := by
        unfold pdg at q
        rw [Bool.and_eq_true, decide_eq_true_eq, decide_eq_true_eq] at q
        omega
      rw [e, es, if_pos (a.elim (fun z => Or.inl (nI_lt z (by omega))) (fun z => Or.inr (nI_lt z (by omega)))), b140_8 rfl, if_neg q]
  · have es : sg t i = -1 := if_neg h
    have q : ¬ pdg (ps t i) = true := fun z => h (pdg_in z).1
    rw [e, es, if_pos (by decide), b140_8 rfl, if_neg q]
theorem s141 (hT : rt T t) (h : mm_M T 92 36 = nI i) (hi : i < 2 ^ 20) (hc : 0 < c) (hc2 : c < 128) : ∃ U, mm_cl (d + 1) 141 [.ref 92, .int (nI c)] T = some (some (.int (if ps t i = c then nI 1 else nI 0)), U) ∧ r36 T U (if ps t i = c then i + 1 else i) := by
  have e : mm_cl (d + 1) 141 [.ref 92, .int (nI c)] T = mm_ex (d + 1) 141 4 [.ref 92, .int (nI c)] [.int (sg t i)] T := by
    rw [e141, b141_0 (wx_k92 hT.1), s139 hT h hi, hp_bd, hp_ts]
  rw [b141_4] at e
  simp only [sg_eq hT hc hc2] at e
  by_cases q : ps t i = c
  · refine ⟨mm_uM T 92 36 (nI (i + 1)), ?_, by rw [if_pos q]; exact r_w⟩
    rw [e, if_pos q, if_pos q, b141_10 (wx_o92 hT.1), h, nI_add]
  · refine ⟨T, ?_, by rw [if_neg q]; exact r_rf h⟩
    rw [e, if_neg q, if_neg q, b141_8]
theorem s142 (hT : rt T t) (h : mm_M T 92 36 = nI i) (hi : i < 2 ^ 10) : ∃ U, mm_cl (d + 2) 142 [.ref 92] T = some (some (.int (pmo (pnu t i).2)), U) ∧ r36 T U (pnu t i).1 := by
  have hw := hT.1
  have st : mm_cl (d + 2) 142 [.ref 92] T = if (if pdg (ps t i) = true then nI 1 else nI 0) = nI 0 then mm_ex (d + 2) 142 10 [.ref 92, .null] [] T else mm_ex (d + 2) 142 12 [.ref 92, .null] [] T := by
    rw [e142, b142_0 (wx_k92 hw), s139 hT h (by omega), hp_bd, hp_ts, b142_4, s140 hT, hp_bd, hp_ts, b142_7]
  unfold pnu
  by_cases q : pdg (ps t i) = true
  · have a := pdg_in q
    rw [if_pos q, if_neg i01] at st
    have w1 : mm_W (mm_uM T 92 36 (nI (i + 1))) := hw
    have r1 : r36 T (mm_uM T 92 36 (nI (i + 1))) (i + 1) := r_w
    have T1 := rt_w r1 hT
    have es : sg t i = nI (ps t i) := if_pos a.1
    have s1 : nI (ps t i) - nI 48 = nI (ps t i - 48) := pk_sub a.2.1
    have st2 : mm_cl (d + 2) 142 [.ref 92] T = if (if pdg (ps t (i + 1)) = true then nI 1 else nI 0) = nI 0 then mm_ex (d + 2) 142 63 [.ref 92, .int (nI (ps t i - 48))] [] (mm_uM T 92 36 (nI (i + 1))) else mm_ex (d + 2) 142 40 [.ref 92, .int (nI (ps t i - 48))] [] (mm_uM T 92 36 (nI (i + 1))) := by
      rw [st, b142_12 (wx_k92 hw), s139 hT h (by omega), hp_bd, hp_ts, b142_16 (wx_o92 hw) (wx_k92 hw), h, nI_add, s139 T1 r1.2.2 (by omega), hp_bd, hp_ts, b142_34, s140 hT, hp_bd, hp_ts, b142_37, es, s1]
    rw [if_pos q]
    by_cases q2 : pdg (ps t (i + 1)) = true
    · have b := pdg_in q2
      have es2 : sg t (i + 1) = nI (ps t (i + 1)) := if_pos b.1
      rw [if_pos q2, if_neg i01] at st2
      refine ⟨mm_uM (mm_uM T 92 36 (nI (i + 1))) 92 36 (nI (i + 2)), ?_, by rw [if_pos q2]; exact r_tr r1 r_w⟩
      rw [st2, if_pos q2, b142_40 (wx_k92 w1), s139 T1 r1.2.2 (by omega), hp_bd, hp_tsc, b142_48 (wx_o92 w1), r1.2.2, nI_add, es2, nI_mul, nI_add, pk_sub (by omega)]
      show some (some (Value.int (nI (10 * (ps t i - 48) + ps t (i + 1) - 48))), _) = some (some (Value.int (nI (10 * (ps t i - 48) + (ps t (i + 1) - 48)))), _)
      rw [show 10 * (ps t i - 48) + ps t (i + 1) - 48 = 10 * (ps t i - 48) + (ps t (i + 1) - 48) by omega]
    · rw [if_neg q2, if_pos rfl] at st2
      refine ⟨mm_uM T 92 36 (nI (i + 1)), ?_, by rw [if_neg q2]; exact r1⟩
      rw [st2, if_neg q2, b142_63]
      rfl
  · rw [if_neg q, if_pos rfl] at st
    rw [if_neg q]
    refine ⟨T, ?_, r_rf h⟩
    rw [st, b142_10]
    rfl
end MP
end
section
/-! ===== how the reference reads: what waits, and tests ===== -/
def opn (W : List Nat) : Nat := (W.filter (fun x => decide (x = 0 ∨ x = 3))).length
def rq (S T : mm_S) (W : List Nat) (C : List ab_T) (i : Nat) : Prop := T = mm_wM S (mm_M T) ∧ (∀ c j, ¬ gp_x c j → mm_M T c j = mm_M S c j) ∧ mm_M T 92 36 = nI i ∧ mm_M T 92 37 = nI C.length ∧ (∀ n, n < C.length → mm_M T 107 (720 + n) = md_en (C.getD n (Sum.inr 0))) ∧ mm_M T 92 39 = nI W.length ∧ mm_M T 92 40 = nI (opn W) ∧ ∀ p, p < W.length → mm_M T 116 p = nI (W.getD p 0)
def pcs (Q : List Nat) : List ab_T := Q.map Sum.inr
/-- the first that equals, by a run over all of them -/
def lv (o : Option Nat) (k : Nat) : Int32 := match o with
  | none => -1
  | some l => if l < k then nI l else -1
section MP2
variable {S T U V : mm_S} {t : List Nat} {d i j k n c q s : Nat} {x y : Int32} {W W0 A B Q : List Nat} {C : List ab_T} {e : ab_T}
theorem ga_l {α : Type} {A B : List α} {z : α} {p : Nat} (h : p < A.length) : (A ++ B).getD p z = A.getD p z := by
  rw [List.getD_eq_getElem?_getD, List.getElem?_append_left h, ← List.getD_eq_getElem?_getD]
theorem ga_r {α : Type} {A : List α} {q z : α} : (A ++ [q]).getD A.length z = q := by
  rw [List.getD_eq_getElem?_getD, List.getElem?_append_right (Nat.le_refl _), Nat.sub_self]
  rfl
theorem la1 {α : Type} {A : List α} {q : α} : (A ++ [q]).length = A.length + 1 := by rw [List.length_append]; rfl
theorem opn_1 : opn (W ++ [q]) = opn W + (if q = 0 ∨ q = 3 then 1 else 0) := by
  unfold opn
  rw [List.filter_append, List.length_append]
  by_cases h : q = 0 ∨ q = 3
  · rw [if_pos h, List.filter_cons_of_pos (by simpa using h)]; rfl
  · rw [if_neg h, List.filter_cons_of_neg (by simpa using h)]; rfl
theorem opn_le : opn W ≤ W.length := List.length_filter_le _ _
theorem rq_W (h : rq S T W C i) (hw : mm_W S) : mm_W T := by rw [h.1]; exact hw
theorem rq_t (h : rq S T W C i) (hT : rt S t) : rt T t := by
  obtain ⟨h1, h2, h3, h4, h5, h6⟩ := hT
  have g := h.2.1
  exact ⟨rq_W h h1, (g _ _ (by unfold gp_x; omega)).trans h2, fun i hi => (g _ _ (by unfold gp_x; omega)).trans (h3 i hi), h4, h5, mt_c (fun c j hc => g c j (by unfold gp_x; omega)) h6⟩
theorem rq_36 (h : rq S T W C i) (hr : r36 T U j) : rq S U W C j := by
  obtain ⟨h1, h2, h3, h4, h5, h6, h7, h8⟩ := h
  have g := hr.2.1
  refine ⟨?_, fun c j hc => (g c j (fun z => hc (by unfold gp_x; omega))).trans (h2 c j hc), hr.2.2, (g _ _ (by omega)).trans h4, fun n hn => (g _ _ (by omega)).trans (h5 n hn), (g _ _ (by omega)).trans h6, (g _ _ (by omega)).trans h7, fun p hp => (g _ _ (by omega)).trans (h8 p hp)⟩
  have e := hr.1
  rw [h1] at e
  exact e
theorem s144 (h : rq S T W C i) (hw : mm_W S) (hc : C.length < 120) : ∃ U, mm_cl d 144 [.ref 92, .int (md_en e)] T = some (none, U) ∧ rq S U W (C ++ [e]) i := by
  have wT := rq_W h hw
  obtain ⟨h1, h2, h3, h4, h5, h6, h7, h8⟩ := h
  have w1 : mm_W (mm_uM T 107 (720 + C.length) (md_en e)) := wT
  refine ⟨mm_uM (mm_uM T 107 (720 + C.length) (md_en e)) 92 37 (nI (C.length + 1)), ?_, wM_u (wM_u h1), fun c j hc => (rdn (fun z => hc (by unfold gp_x; omega))).trans ((rdn (fun z => hc (by unfold gp_x; omega))).trans (h2 c j hc)), (rdn (by omega)).trans ((rdn (by omega)).trans h3), rds.trans (by rw [la1]), fun n hn => ?_, (rdn (by omega)).trans ((rdn (by omega)).trans h6), (rdn (by omega)).trans ((rdn (by omega)).trans h7), fun p hp => (rdn (by omega)).trans ((rdn (by omega)).trans (h8 p hp))⟩
  · rw [e144, b144_0 (wx_o92 wT) (wx_s92_24 wT) (by rw [wx_g92_24 wT]; exact wx_a107 wT) (by rw [h4, nI_add, wx_g92_24 wT, wx_N107 wT]; exact hp_inb (by omega) (by omega)), h4, nI_add, wx_g92_24 wT, nI_clamp (by omega), b144_16 (wx_o92 w1) (wx_o92 w1), show mm_M (mm_uM T 107 (720 + C.length) (md_en e)) 92 37 = nI C.length from (rdn (by omega)).trans h4, nI_add]
  · rw [la1] at hn
    rw [rdn (by omega)]
    by_cases z : n = C.length
    · rw [z, rds, ga_r]
    · rw [rdn (by omega), ga_l (by omega)]
      exact h5 n (by omega)
/-- all NOTs on the top go -/
theorem s146 (hw : mm_W S) (hW : ∀ p, p + 1 = W0.length → W0.getD p 0 ≠ 3) (hl : ∀ x ∈ W0, x < 4) : ∀ (k : Nat) (T : mm_S) (C : List ab_T), rq S T (W0 ++ List.replicate k 3) C i → (W0 ++ List.replicate k 3).length ≤ 100 → C.length + k < 120 → ∃ U, mm_ex (d + 1) 146 0 [.ref 92] [] T = some (none, U) ∧ rq S U W0 (C ++ List.replicate k (Sum.inr 3)) i := by
  intro k
  induction k with
  | zero =>
    intro T C h hb _
    rw [List.replicate_zero, List.append_nil] at h hb
    have wT := rq_W h hw
    refine ⟨T, ?_, by rw [List.replicate_zero, List.append_nil]; exact h⟩
    obtain ⟨h1, h2, h3, h4, h5, h6, h7, h8⟩ := h
    rw [b146_0 (wx_o92 wT), h6]
    by_cases z : W0.length = 0
    · rw [if_pos (nI_le (by omega) (by omega)), b146_50]
    · have hx := hW (W0.length - 1) (by omega)
      have hm : W0.getD (W0.length - 1) 0 < 4 := by
        rw [List.getD_eq_getElem?_getD, List.getElem?_eq_getElem (by omega)]
        exact hl _ (List.getElem_mem (by omega))
      rw [if_neg (nI_ge (by omega) (by omega)), b146_7 (wx_o92 wT) (wx_s92_38 wT) (by rw [h6, pk_sub (by omega), wx_g92_38 wT, wx_N116 wT]; exact hp_inb (by omega) (by omega)) (by rw [wx_g92_38 wT]; exact wx_a116 wT), h6, pk_sub (by omega), wx_g92_38 wT, nI_clamp (by omega), h8 _ (by omega), if_neg (fun e => hx ((nI_eq (by omega) (by omega)).mp e)), b146_50]
  | succ k ih =>
    intro T C h hb hk
    have wT := rq_W h hw
    have eW : W0 ++ List.replicate (k + 1) 3 = (W0 ++ List.replicate k 3) ++ [3] := by rw [List.replicate_succ', ← List.append_assoc]
    rw [eW] at h hb
    generalize W0 ++ List.replicate k 3 = W at *
    rw [la1] at hb
    obtain ⟨U, g1, g2⟩ := s144 (d := d) (e := Sum.inr 3) h hw (by omega)
    have wU := rq_W g2 hw
    obtain ⟨h1, h2, h3, h4, h5, h6, h7, h8⟩ := h
    obtain ⟨u1, u2, u3, u4, u5, u6, u7, u8⟩ := g2
    rw [la1] at h6 u6
    have h8t := h8 W.length (by rw [la1]; omega)
    rw [ga_r] at h8t
    have o1 : opn (W ++ [3]) = opn W + 1 := by rw [opn_1, if_pos (Or.inr rfl)]
    rw [o1] at u7
    have hol := @opn_le W
    have w1 : mm_W (mm_uM U 92 39 (nI W.length)) := wU
    have r2 : rq S (mm_uM (mm_uM U 92 39 (nI W.length)) 92 40 (nI (opn W))) W (C ++ [Sum.inr 3]) i := ⟨wM_u (wM_u u1), fun c j hc => (rdn (fun z => hc (by unfold gp_x; omega))).trans ((rdn (fun z => hc (by unfold gp_x; omega))).trans (u2 c j hc)), (rdn (by omega)).trans ((rdn (by omega)).trans u3), (rdn (by omega)).trans ((rdn (by omega)).trans u4), fun n hn => (rdn (by omega)).trans ((rdn (by omega)).trans (u5 n hn)), (rdn (by omega)).trans rds, rds, fun p hp => (rdn (by omega)).trans ((rdn (by omega)).trans ((u8 p (by rw [la1]; omega)).trans (by rw [ga_l hp])))⟩
    obtain ⟨V, g3, g4⟩ := ih _ _ r2 (by omega) (by rw [la1]; omega)
    refine ⟨V, ?_, ?_⟩
    · rw [b146_0 (wx_o92 wT), h6, if_neg (nI_ge (by omega) (by omega)), b146_7 (wx_o92 wT) (wx_s92_38 wT) (by rw [h6, pk_sub (by omega), wx_g92_38 wT, wx_N116 wT]; exact hp_inb (by omega) (by omega)) (by rw [wx_g92_38 wT]; exact wx_a116 wT), h6, pk_sub (by omega), wx_g92_38 wT, show W.length + 1 - 1 = W.length by omega, nI_clamp (by omega), h8t, if_pos rfl, b146_22 (wx_k92 wT), show nI 3 = md_en (Sum.inr 3) from rfl, g1, hp_bd, hp_tn, b146_27 (wx_o92 wU), u6, pk_sub (by omega), show W.length + 1 - 1 = W.length by omega, b146_39 (wx_o92 w1) (wx_o92 w1), show mm_M (mm_uM U 92 39 (nI W.length)) 92 40 = nI (opn W + 1) from (rdn (by omega)).trans u7, pk_sub (by omega), show opn W + 1 - 1 = opn W by omega, g3]
    · have e : C ++ [Sum.inr 3] ++ List.replicate k (Sum.inr 3) = C ++ List.replicate (k + 1) (Sum.inr 3) := by rw [List.append_assoc]; rfl
      rw [← e]
      exact g4
/-- what binds as much, on the top, goes -/
theorem s147 (hw : mm_W S) {m : Nat} (hm : m = 1 ∨ m = 2) (hW : ∀ p, p + 1 = W0.length → W0.getD p 0 < m) : ∀ (Q : List Nat) (T : mm_S) (C : List ab_T), (∀ q ∈ Q, m ≤ q ∧ q < 3) → rq S T (W0 ++ Q.reverse) C i → (W0 ++ Q.reverse).length ≤ 100 → C.length + Q.length < 120 → ∃ U, mm_ex (d + 1) 147 0 [.ref 92, .int (nI m)] [] T = some (none, U) ∧ rq S U W0 (C ++ pcs Q) i := by
  intro Q
  induction Q with
  | nil =>
    intro T C _ h hb _
    rw [List.reverse_nil, List.append_nil] at h hb
    have wT := rq_W h hw
    refine ⟨T, ?_, by unfold pcs; rw [List.map_nil, List.append_nil]; exact h⟩
    obtain ⟨h1, h2, h3, h4, h5, h6, h7, h8⟩ := h
    rw [b147_0 (wx_o92 wT), h6]
    by_cases z : W0.length = 0
    · rw [if_pos (nI_le (by omega) (by omega)), b147_64]
    · have hx := hW (W0.length - 1) (by omega)
      rw [if_neg (nI_ge (by omega) (by omega)), b147_7 (wx_o92 wT) (wx_s92_38 wT) (by rw [h6, pk_sub (by omega), wx_g92_38 wT, wx_N116 wT]; exact hp_inb (by omega) (by omega)) (by rw [wx_g92_38 wT]; exact wx_a116 wT), h6, pk_sub (by omega), wx_g92_38 wT, nI_clamp (by omega), h8 _ (by omega)]
      by_cases z0 : W0.getD (W0.length - 1) 0 = 0
      · rw [if_pos (by rw [z0]), b147_64]
      · rw [if_neg (fun e => z0 ((nI_eq (by omega) (by omega)).mp e)), b147_21 (wx_o92 wT) (wx_s92_38 wT) (by rw [h6, pk_sub (by omega), wx_g92_38 wT, wx_N116 wT]; exact hp_inb (by omega) (by omega)) (by rw [wx_g92_38 wT]; exact wx_a116 wT), h6, pk_sub (by omega), wx_g92_38 wT, nI_clamp (by omega), h8 _ (by omega), if_pos (nI_lt hx (by omega)), b147_64]
  | cons q Q ih =>
    intro T C hQ h hb hk
    have wT := rq_W h hw
    have hq := hQ q List.mem_cons_self
    have eW : W0 ++ (q :: Q).reverse = (W0 ++ Q.reverse) ++ [q] := by rw [List.reverse_cons, ← List.append_assoc]
    rw [eW] at h hb
    rw [List.length_cons] at hk
    have hih := fun T C => ih T C (fun z hz => hQ z (List.mem_cons_of_mem q hz))
    generalize W0 ++ Q.reverse = W at *
    rw [la1] at hb
    obtain ⟨U, g1, g2⟩ := s144 (d := d) (e := Sum.inr q) h hw (by omega)
    have wU := rq_W g2 hw
    obtain ⟨h1, h2, h3, h4, h5, h6, h7, h8⟩ := h
    obtain ⟨u1, u2, u3, u4, u5, u6, u7, u8⟩ := g2
    rw [la1] at h6 u6
    have h8t := h8 W.length (by rw [la1]; omega)
    rw [ga_r] at h8t
    have o1 : opn (W ++ [q]) = opn W := by rw [opn_1, if_neg (by omega)]; rfl
    rw [o1] at u7
    have r2 : rq S (mm_uM U 92 39 (nI W.length)) W (C ++ [Sum.inr q]) i := ⟨wM_u u1, fun c j hc => (rdn (fun z => hc (by unfold gp_x; omega))).trans (u2 c j hc), (rdn (by omega)).trans u3, (rdn (by omega)).trans u4, fun n hn => (rdn (by omega)).trans (u5 n hn), rds, (rdn (by omega)).trans u7, fun p hp => (rdn (by omega)).trans ((u8 p (by rw [la1]; omega)).trans (by rw [ga_l hp]))⟩
    obtain ⟨V, g3, g4⟩ := hih _ _ r2 (by omega) (by rw [la1]; omega)
    refine ⟨V, ?_, ?_⟩
    · have hb1 : mm_inb (nI W.length) 110 = true := hp_inb (by omega) (by omega)
      have es : W.length + 1 - 1 = W.length := by omega
      rw [b147_0 (wx_o92 wT), h6, if_neg (nI_ge (by omega) (by omega)), b147_7 (wx_o92 wT) (wx_s92_38 wT) (by rw [h6, pk_sub (by omega), es, wx_g92_38 wT, wx_N116 wT]; exact hb1) (by rw [wx_g92_38 wT]; exact wx_a116 wT), h6, pk_sub (by omega), wx_g92_38 wT, es, nI_clamp (by omega), h8t, if_neg (fun z => by have := (nI_eq (by omega) (by omega)).mp z; omega), b147_21 (wx_o92 wT) (wx_s92_38 wT) (by rw [h6, pk_sub (by omega), es, wx_g92_38 wT, wx_N116 wT]; exact hb1) (by rw [wx_g92_38 wT]; exact wx_a116 wT), h6, pk_sub (by omega), es, wx_g92_38 wT, nI_clamp (by omega), h8t, if_neg (nI_nlt hq.1 (by omega)), b147_36 (wx_o92 wT) (wx_s92_38 wT) (by rw [h6, pk_sub (by omega), es, wx_g92_38 wT, wx_N116 wT]; exact hb1) (by rw [wx_g92_38 wT]; exact wx_a116 wT) (wx_k92 wT), h6, pk_sub (by omega), es, wx_g92_38 wT, nI_clamp (by omega), h8t, show nI q = md_en (Sum.inr q) from rfl, g1, hp_bd, hp_tn, b147_51 (wx_o92 wU), u6, pk_sub (by omega), es, g3]
    · have e : C ++ [Sum.inr q] ++ pcs Q = C ++ pcs (q :: Q) := by rw [List.append_assoc]; rfl
      rw [← e]
      exact g4
/-- ( or ! -/
theorem s148 (h : rq S T W C i) (hw : mm_W S) (hl : W.length ≤ 100) (hi : i ≤ 100) (hq : q = 0 ∨ q = 3) : (opn W = 4 → mm_cl d 148 [.ref 92, .int (nI q)] T = some (some (.int (nI 0)), T)) ∧ (opn W ≠ 4 → ∃ U, mm_cl d 148 [.ref 92, .int (nI q)] T = some (some (.int (nI 1)), U) ∧ rq S U (W ++ [q]) C (i + 1)) := by
  have wT := rq_W h hw
  have hol := @opn_le W
  obtain ⟨h1, h2, h3, h4, h5, h6, h7, h8⟩ := h
  refine ⟨fun z => ?_, fun z => ?_⟩
  · rw [e148, b148_0 (wx_o92 wT), h7, z, if_pos rfl, b148_8]
  · have w1 : mm_W (mm_uM T 92 40 (nI (opn W + 1))) := wT
    have w2 : mm_W (mm_uM (mm_uM T 92 40 (nI (opn W + 1))) 116 W.length (nI q)) := wT
    have w3 : mm_W (mm_uM (mm_uM (mm_uM T 92 40 (nI (opn W + 1))) 116 W.length (nI q)) 92 39 (nI (W.length + 1))) := wT
    refine ⟨mm_uM (mm_uM (mm_uM (mm_uM T 92 40 (nI (opn W + 1))) 116 W.length (nI q)) 92 39 (nI (W.length + 1))) 92 36 (nI (i + 1)), ?_, wM_u (wM_u (wM_u (wM_u h1))), fun c j hc => (rdn (fun z => hc (by unfold gp_x; omega))).trans ((rdn (fun z => hc (by unfold gp_x; omega))).trans ((rdn (fun z => hc (by unfold gp_x; omega))).trans ((rdn (fun z => hc (by unfold gp_x; omega))).trans (h2 c j hc)))), rds, ?_, fun n hn => (rdn (by omega)).trans ((rdn (by omega)).trans ((rdn (by omega)).trans ((rdn (by omega)).trans (h5 n hn)))), ?_, ?_, fun p hp => ?_⟩
    · rw [e148, b148_0 (wx_o92 wT), h7, if_neg (fun e => z ((nI_eq (by omega) (by omega)).mp e)), b148_10 (wx_o92 wT) (wx_s92_38 wT), h7, nI_add, wx_g92_38 wT, b148_25 (wx_o92 w1) (wx_a116 w1) (by rw [show mm_M (mm_uM T 92 40 (nI (opn W + 1))) 92 39 = nI W.length from (rdn (by omega)).trans h6, wx_N116 w1]; exact hp_inb (by omega) (by omega)), show mm_M (mm_uM T 92 40 (nI (opn W + 1))) 92 39 = nI W.length from (rdn (by omega)).trans h6, nI_clamp (by omega), b148_32 (wx_o92 w2) (wx_o92 w2), show mm_M (mm_uM (mm_uM T 92 40 (nI (opn W + 1))) 116 W.length (nI q)) 92 39 = nI W.length from (rdn (by omega)).trans ((rdn (by omega)).trans h6), nI_add, b148_42 (wx_o92 w3) (wx_o92 w3), show mm_M (mm_uM (mm_uM (mm_uM T 92 40 (nI (opn W + 1))) 116 W.length (nI q)) 92 39 (nI (W.length + 1))) 92 36 = nI i from (rdn (by omega)).trans ((rdn (by omega)).trans ((rdn (by omega)).trans h3)), nI_add]
    · exact (rdn (by omega)).trans ((rdn (by omega)).trans ((rdn (by omega)).trans ((rdn (by omega)).trans h4)))
    · rw [la1]
      exact (rdn (by omega)).trans rds
    · rw [opn_1, if_pos hq]
      exact (rdn (by omega)).trans ((rdn (by omega)).trans ((rdn (by omega)).trans rds))
    · rw [la1] at hp
      rw [rdn (by omega), rdn (by omega)]
      by_cases z2 : p = W.length
      · rw [z2, rds, ga_r]
      · rw [rdn (by omega), rdn (by omega), ga_l (by omega)]
        exact h8 p (by omega)
end MP2
end
section
/-! ===== how the reference reads: a test, and the steps of an E ===== -/
section MP3
variable {S T U V : mm_S} {t : List Nat} {d i j k n c q s : Nat} {x y : Int32} {W W0 A B Q : List Nat} {C : List ab_T} {e : ab_T} {v : Value}
theorem at_iff : ∀ {l : List Nat} {k x : Nat}, l.Nodup → k < l.length → (x = l.getD k 0 ↔ ab_at x l = some k) := by
  intro l
  induction l with
  | nil => intro k x _ h; exact absurd h (Nat.not_lt_zero _)
  | cons y l ih =>
    intro k x hn hk
    rw [List.nodup_cons] at hn
    unfold ab_at
    cases k with
    | zero =>
      show x = y ↔ _
      by_cases e : y = x
      · rw [if_pos e]; exact ⟨fun _ => rfl, fun _ => e.symm⟩
      · rw [if_neg e]
        refine ⟨fun z => absurd z.symm e, fun z => ?_⟩
        cases h : ab_at x l with
        | none => rw [h] at z; cases z
        | some m => rw [h] at z; cases z
    | succ k =>
      show x = l.getD k 0 ↔ _
      have hk2 : k < l.length := Nat.lt_of_succ_lt_succ hk
      have h := @ih k x hn.2 hk2
      by_cases e : y = x
      · rw [if_pos e]
        refine ⟨fun z => ?_, fun z => by cases z⟩
        exfalso
        apply hn.1
        rw [e, z, List.getD_eq_getElem?_getD, List.getElem?_eq_getElem hk2]
        exact List.getElem_mem hk2
      · rw [if_neg e, h]
        cases h2 : ab_at x l with
        | none => exact ⟨(fun z => by cases z), (fun z => by cases z)⟩
        | some m => exact ⟨(fun z => by cases z; rfl), (fun z => by cases z; rfl)⟩
theorem lv_s {o : Option Nat} : lv o (k + 1) = if o = some k then nI k else lv o k := by
  cases o with
  | none => rw [if_neg (by simp)]; rfl
  | some l =>
    show (if l < k + 1 then nI l else -1) = if some l = some k then nI k else (if l < k then nI l else -1)
    by_cases h : l = k
    · rw [h, if_pos (by omega), if_pos rfl]
    · rw [if_neg (show ¬ some l = some k from fun z => h (Option.some.inj z))]
      by_cases h2 : l < k
      · rw [if_pos h2, if_pos (by omega)]
      · rw [if_neg h2, if_neg (by omega)]
theorem lv_z {o : Option Nat} : lv o 0 = -1 := by
  cases o with
  | none => rfl
  | some l =>
    show (if l < 0 then nI l else -1) = -1
    exact if_neg (Nat.not_lt_zero l)
theorem lv_e {o : Option Nat} (h : ∀ l, o = some l → l < k) : lv o k = pmo o := by
  cases o with
  | none => rfl
  | some l => exact if_pos (h l rfl)
theorem s145_l (hT : rt T t) (h : mm_M T 92 36 = nI i) (hi : i < 2 ^ 20) : ∀ (q k : Nat), k + q = 7 → mm_ex (d + 1) 145 4 [.ref 92, .int (lv (ab_at (ps t i) plt) k), .int (nI k), .null] [] T = mm_ex (d + 1) 145 35 [.ref 92, .int (pmo (ab_at (ps t i) plt)), .int (nI 7), .null] [] T := by
  have hw := hT.1
  intro q
  induction q with
  | zero =>
    intro k hk
    have e : k = 7 := by omega
    subst e
    rw [b145_4, if_pos (by decide), lv_e (k := 7) (fun l hl => (at_ln hl : l < plt.length))]
  | succ q ih =>
    intro k hk
    have hk7 : k < 7 := by omega
    have h115 : mm_M T 115 k = nI (plt.getD k 0) := hT.2.2.2.2.2.2.2 k hk7
    have pb : ∀ k, k < 7 → 0 < plt.getD k 0 ∧ plt.getD k 0 < 128 := by
      intro k hk
      rcases (by omega : k = 0 ∨ k = 1 ∨ k = 2 ∨ k = 3 ∨ k = 4 ∨ k = 5 ∨ k = 6) with rfl | rfl | rfl | rfl | rfl | rfl | rfl <;> decide
    have hp := pb k hk7
    have st : mm_ex (d + 1) 145 4 [.ref 92, .int (lv (ab_at (ps t i) plt) k), .int (nI k), .null] [] T = if ab_at (ps t i) plt = some k then mm_ex (d + 1) 145 23 [.ref 92, .int (lv (ab_at (ps t i) plt) k), .int (nI k), .null] [] T else mm_ex (d + 1) 145 27 [.ref 92, .int (lv (ab_at (ps t i) plt) k), .int (nI k), .null] [] T := by
      rw [b145_4, if_neg (nI_ge (by omega) (by omega)), b145_10 (wx_k92 hw), s139 hT h hi, hp_bd, hp_ts, b145_14 (wx_o92 hw) (wx_s92_35 hw) (by rw [wx_g92_35 hw, wx_N115 hw]; exact hp_inb hk7 (by omega)) (by rw [wx_g92_35 hw]; exact wx_a115 hw), wx_g92_35 hw, nI_clamp (by omega), h115]
      simp only [sg_eq hT hp.1 hp.2, @at_iff plt k (ps t i) (by decide) hk7]
    have hih := ih (k + 1) (by omega)
    rw [lv_s] at hih
    rw [st]
    by_cases z : ab_at (ps t i) plt = some k
    · rw [if_pos z] at hih
      rw [if_pos z, b145_23, nI_add]
      exact hih
    · rw [if_neg z] at hih
      rw [if_neg z, b145_27, nI_add]
      exact hih
theorem s145 (h : rq S T W C i) (hT : rt S t) (hi : i ≤ 100) (hc : C.length < 119) : ∃ U, mm_cl (d + 3) 145 [.ref 92] T = some (some (.int (if (pte t i).2 = none then nI 0 else nI 1)), U) ∧ (∀ x, (pte t i).2 = some x → rq S U W (C ++ [x]) (pte t i).1) ∧ ((pte t i).2 = none → rq S U W C (pte t i).1) := by
  have hS := hT.1
  have hT1 := rq_t h hT
  have hw := hT1.1
  have h36 := h.2.2.1
  have l1 := s145_l (d := d + 2) hT1 h36 (by omega) 7 0 rfl
  rw [lv_z] at l1
  have st : mm_cl (d + 3) 145 [.ref 92] T = mm_ex (d + 3) 145 35 [.ref 92, .int (pmo (ab_at (ps t i) plt)), .int (nI 7), .null] [] T := by
    rw [e145, b145_0]
    exact l1
  unfold pte
  cases ha : ab_at (ps t i) plt with
  | none =>
    refine ⟨T, ?_, (fun x hx => by cases hx), fun _ => h⟩
    rw [st, ha, b145_35, if_pos (show pmo none = -1 from rfl), b145_40]
    rfl
  | some l =>
    have hl7 : l < 7 := at_ln ha
    simp only
    have w1 : mm_W (mm_uM T 92 36 (nI (i + 1))) := hw
    have r1 : r36 T (mm_uM T 92 36 (nI (i + 1))) (i + 1) := r_w
    have q1 := rq_36 h r1
    have T1 := rq_t q1 hT
    have pb : ∀ k, k < 3 → 0 < prl.getD k 0 ∧ prl.getD k 0 < 128 := by
      intro k hk
      rcases (by omega : k = 0 ∨ k = 1 ∨ k = 2) with rfl | rfl | rfl <;> decide
    have s1 := s139 (d := d + 2) T1 q1.2.2.1 (by omega)
    have eqs : ∀ k, k < 3 → (sg t (i + 1) = nI (prl.getD k 0)) = (ab_at (ps t (i + 1)) prl = some k) := fun k hk => (sg_eq hT (pb k hk).1 (pb k hk).2).trans (propext (at_iff (by decide) hk))
    have q60 : (sg t (i + 1) = nI 60) = (ab_at (ps t (i + 1)) prl = some 0) := eqs 0 (by decide)
    have q61 : (sg t (i + 1) = nI 61) = (ab_at (ps t (i + 1)) prl = some 1) := eqs 1 (by decide)
    have q62 : (sg t (i + 1) = nI 62) = (ab_at (ps t (i + 1)) prl = some 2) := eqs 2 (by decide)
    have st2 : mm_cl (d + 3) 145 [.ref 92] T = if pmo (ab_at (ps t (i + 1)) prl) = -1 then mm_ex (d + 3) 145 98 [.ref 92, .int (nI l), .int (pmo (ab_at (ps t (i + 1)) prl)), .null] [] (mm_uM T 92 36 (nI (i + 1))) else mm_ex (d + 3) 145 100 [.ref 92, .int (nI l), .int (pmo (ab_at (ps t (i + 1)) prl)), .null] [] (mm_uM T 92 36 (nI (i + 1))) := by
      rw [st, ha, b145_35, if_neg (show ¬ pmo (some l) = -1 from nI_m1 (by omega)), b145_42 (wx_o92 hw) (wx_k92 hw), h36, nI_add, s1, hp_bd, hp_ts, b145_56]
      simp only [q60]
      cases hr : ab_at (ps t (i + 1)) prl with
      | none =>
        rw [if_neg (by simp), b145_65 (wx_k92 w1), s1, hp_bd, hp_ts, b145_69]
        simp only [q61, hr]
        rw [if_neg (by simp), b145_78 (wx_k92 w1), s1, hp_bd, hp_ts, b145_82]
        simp only [q62, hr]
        rw [if_neg (by simp), b145_91]
        rfl
      | some r =>
        have hr3 : r < 3 := at_ln hr
        rcases (by omega : r = 0 ∨ r = 1 ∨ r = 2) with rfl | rfl | rfl
        · rw [if_pos rfl, b145_61]
          rfl
        · rw [if_neg (by simp), b145_65 (wx_k92 w1), s1, hp_bd, hp_ts, b145_69]
          simp only [q61, hr]
          rw [if_pos trivial, b145_74]
          rfl
        · rw [if_neg (by simp), b145_65 (wx_k92 w1), s1, hp_bd, hp_ts, b145_69]
          simp only [q61, hr]
          rw [if_neg (by simp), b145_78 (wx_k92 w1), s1, hp_bd, hp_ts, b145_82]
          simp only [q62, hr]
          rw [if_pos trivial, b145_87]
          rfl
    cases hr : ab_at (ps t (i + 1)) prl with
    | none =>
      refine ⟨mm_uM T 92 36 (nI (i + 1)), ?_, (fun x hx => by cases hx), fun _ => q1⟩
      rw [st2, hr, if_pos (show pmo none = -1 from rfl), b145_98]
      rfl
    | some r =>
      have hr3 : r < 3 := at_ln hr
      simp only
      have w2 : mm_W (mm_uM (mm_uM T 92 36 (nI (i + 1))) 92 36 (nI (i + 2))) := hw
      have q2 := rq_36 q1 (r_w (T := mm_uM T 92 36 (nI (i + 1))) (i := i + 2))
      have T2 := rq_t q2 hT
      obtain ⟨U, g1, g2⟩ := s142 (d := d) T2 q2.2.2.1 (by omega)
      have q3 := rq_36 q2 g2
      have wU := rq_W q3 hS
      have st3 : mm_cl (d + 3) 145 [.ref 92] T = if pmo (pnu t (i + 2)).2 = -1 then mm_ex (d + 3) 145 120 [.ref 92, .int (nI l), .int (nI r), .int (pmo (pnu t (i + 2)).2)] [] U else mm_ex (d + 3) 145 122 [.ref 92, .int (nI l), .int (nI r), .int (pmo (pnu t (i + 2)).2)] [] U := by
        rw [st2, hr, if_neg (show ¬ pmo (some r) = -1 from nI_m1 (by omega)), b145_100 (wx_o92 w1) (wx_k92 w1), q1.2.2.1, nI_add, g1, hp_bd, hp_ts, show pmo (some r) = nI r from rfl, b145_114]
      cases hn : (pnu t (i + 2)).2 with
      | none =>
        refine ⟨U, ?_, (fun x hx => by cases hx), fun _ => q3⟩
        rw [st3, hn, if_pos (show pmo none = -1 from rfl), b145_120]
        rfl
      | some n =>
        have hn1 := (pnu_n hn).1
        obtain ⟨V, g3, g4⟩ := s144 (d := d + 2) (e := Sum.inl (l, r, n)) q3 hS (by omega)
        refine ⟨V, ?_, fun x hx => by cases hx; exact g4, fun z => by cases z⟩
        have e : nI 1000 * (nI 1 + nI 3 * nI l + nI r) + nI n = md_en (Sum.inl (l, r, n)) := by
          rw [nI_mul, nI_add, nI_add, nI_mul, nI_add]
          rfl
        rw [st3, hn, if_neg (show ¬ pmo (some n) = -1 from nI_m1 (by omega)), show pmo (some n) = nI n from rfl, b145_122 (wx_k92 wU), e, g3, hp_bd, hp_tn, b145_139]
        rfl
/-- an operator: what binds as much goes, and it waits -/
theorem m149_op (h : rq S T (W ++ Q.reverse) C j) (hT : rt S t) (hs : s < 2) (hj : ps t j = pch s) (hW : ∀ p, p + 1 = W.length → W.getD p 0 < 2 - s) (hQ : ∀ q ∈ Q, 2 - s ≤ q ∧ q < 3) (hj2 : j ≤ 100) (hl : (W ++ Q.reverse).length + C.length ≤ 100) : ∃ U v2, mm_ex (d + 4) 149 12 [.ref 92, .int (nI 0), v] [] T = mm_ex (d + 4) 149 12 [.ref 92, .int (nI 1), v2] [] U ∧ rq S U (W ++ [2 - s]) (C ++ pcs Q) (j + 1) := by
  have hS := hT.1
  have hT1 := rq_t h hT
  have hw := hT1.1
  have hl2 : W.length + Q.length + C.length ≤ 100 := by rw [List.length_append, List.length_reverse] at hl; exact hl
  obtain ⟨U, g1, g2⟩ := s147 (d := d + 2) hS (m := 2 - s) (by omega) hW Q T C hQ h (by omega) (by omega)
  have wU := rq_W g2 hS
  have g1 : mm_cl (d + 3) 147 [.ref 92, .int (nI (2 - s))] T = some (none, U) := by rw [e147]; exact g1
  obtain ⟨u1, u2, u3, u4, u5, u6, u7, u8⟩ := g2
  have e38 := @sg_eq S t j 38 hT (by decide) (by decide)
  have e124 := @sg_eq S t j 124 hT (by decide) (by decide)
  have hb : mm_inb (nI W.length) 110 = true := hp_inb (by omega) (by omega)
  have w1 : mm_W (mm_uM U 116 W.length (nI (2 - s))) := wU
  have w2 : mm_W (mm_uM (mm_uM U 116 W.length (nI (2 - s))) 92 39 (nI (W.length + 1))) := wU
  have st0 : mm_ex (d + 4) 149 12 [.ref 92, .int (nI 0), v] [] T = mm_ex (d + 4) 149 71 [.ref 92, .int (nI 0), .int (sg t j)] [] T := by
    rw [b149_12 (wx_k92 hw), s139 hT1 h.2.2.1 (by omega), hp_bd, hp_ts, b149_16, if_pos rfl]
  have st : mm_ex (d + 4) 149 12 [.ref 92, .int (nI 0), v] [] T = mm_ex (d + 4) 149 120 [.ref 92, .int (nI 0), .int (sg t j)] [.ref 92, .ref 92] (mm_uM U 116 W.length (nI (2 - s))) := by
    rcases (by omega : s = 0 ∨ s = 1) with rfl | rfl
    · have hj' : ps t j = 38 := hj
      have p38 : sg t j = nI 38 := by rw [e38]; exact hj'
      rw [st0, b149_71, if_pos p38, b149_83, if_pos p38, b149_90 (wx_k92 hw), show nI 2 = nI (2 - 0) from rfl, g1, hp_bd, hp_tn, b149_98 (wx_o92 wU) (wx_s92_38 wU), if_pos p38, u6, wx_g92_38 wU, b149_112 (wx_a116 wU) (by rw [wx_N116 wU]; exact hb), nI_clamp (by omega)]
    · have hj' : ps t j = 124 := hj
      have p124 : sg t j = nI 124 := by rw [e124]; exact hj'
      have n38 : ¬ sg t j = nI 38 := by rw [e38]; omega
      rw [st0, b149_71, if_neg n38, b149_77, if_pos p124, b149_83, if_neg n38, b149_94 (wx_k92 hw), show nI 1 = nI (2 - 1) from rfl, g1, hp_bd, hp_tn, b149_98 (wx_o92 wU) (wx_s92_38 wU), if_neg n38, u6, wx_g92_38 wU, b149_116 (wx_a116 wU) (by rw [wx_N116 wU]; exact hb), nI_clamp (by omega)]
  refine ⟨mm_uM (mm_uM (mm_uM U 116 W.length (nI (2 - s))) 92 39 (nI (W.length + 1))) 92 36 (nI (j + 1)), .int (sg t j), ?_, wM_u (wM_u (wM_u u1)), fun c j hc => (rdn (fun z => hc (by unfold gp_x; omega))).trans ((rdn (fun z => hc (by unfold gp_x; omega))).trans ((rdn (fun z => hc (by unfold gp_x; omega))).trans (u2 c j hc))), rds, (rdn (by omega)).trans ((rdn (by omega)).trans ((rdn (by omega)).trans u4)), fun n hn => (rdn (by omega)).trans ((rdn (by omega)).trans ((rdn (by omega)).trans (u5 n hn))), ?_, ?_, fun p hp => ?_⟩
  · rw [st, b149_120 (wx_o92 w1) (wx_o92 w1), show mm_M (mm_uM U 116 W.length (nI (2 - s))) 92 39 = nI W.length from (rdn (by omega)).trans u6, nI_add, b149_130 (wx_o92 w2) (wx_o92 w2), show mm_M (mm_uM (mm_uM U 116 W.length (nI (2 - s))) 92 39 (nI (W.length + 1))) 92 36 = nI j from (rdn (by omega)).trans ((rdn (by omega)).trans u3), nI_add]
  · rw [la1]
    exact (rdn (by omega)).trans rds
  · rw [opn_1, if_neg (by omega)]
    exact (rdn (by omega)).trans ((rdn (by omega)).trans ((rdn (by omega)).trans u7))
  · rw [la1] at hp
    rw [rdn (by omega), rdn (by omega)]
    by_cases z2 : p = W.length
    · rw [z2, rds, ga_r]
    · rw [rdn (by omega), ga_l (by omega)]
      exact u8 p (by omega)
/-- no more of it -/
theorem m149_end (h : rq S T (W ++ Q.reverse) C j) (hT : rt S t) (h1 : ps t j ≠ 38) (h2 : ps t j ≠ 124) (h3 : ps t j ≠ 41 ∨ opn (W ++ Q.reverse) = 0) (hW : ∀ p, p + 1 = W.length → W.getD p 0 < 1) (hQ : ∀ q ∈ Q, 1 ≤ q ∧ q < 3) (hj2 : j ≤ 100) (hl : (W ++ Q.reverse).length + C.length ≤ 100) : ∃ U, mm_ex (d + 4) 149 12 [.ref 92, .int (nI 0), v] [] T = some (some (.int (if W.length = 0 then nI 1 else nI 0)), U) ∧ rq S U W (C ++ pcs Q) j := by
  have hS := hT.1
  have hT1 := rq_t h hT
  have hw := hT1.1
  have hl2 : W.length + Q.length + C.length ≤ 100 := by rw [List.length_append, List.length_reverse] at hl; exact hl
  obtain ⟨U, g1, g2⟩ := s147 (d := d + 2) hS (m := 1) (Or.inl rfl) hW Q T C hQ h (by omega) (by omega)
  have wU := rq_W g2 hS
  have g1 : mm_cl (d + 3) 147 [.ref 92, .int (nI 1)] T = some (none, U) := by rw [e147]; exact g1
  have u6 := g2.2.2.2.2.2.1
  have hol := @opn_le (W ++ Q.reverse)
  have n38 : ¬ sg t j = nI 38 := by rw [@sg_eq S t j 38 hT (by decide) (by decide)]; exact h1
  have n124 : ¬ sg t j = nI 124 := by rw [@sg_eq S t j 124 hT (by decide) (by decide)]; exact h2
  have e41 := @sg_eq S t j 41 hT (by decide) (by decide)
  have st0 : mm_ex (d + 4) 149 12 [.ref 92, .int (nI 0), v] [] T = mm_ex (d + 4) 149 198 [.ref 92, .int (nI 0), .int (sg t j)] [] T := by
    rw [b149_12 (wx_k92 hw), s139 hT1 h.2.2.1 (by omega), hp_bd, hp_ts, b149_16, if_pos rfl, b149_71, if_neg n38, b149_77, if_neg n124, b149_143]
    by_cases z : sg t j = nI 41
    · rw [if_pos z, b149_149 (wx_o92 hw), h.2.2.2.2.2.2.1]
      rw [e41] at z
      rw [if_pos (nI_le (by omega) (by omega))]
    · rw [if_neg z]
  refine ⟨U, ?_, g2⟩
  rw [st0, b149_198 (wx_k92 hw), g1, hp_bd, hp_tn, b149_203 (wx_o92 wU), u6]
  by_cases z : W.length = 0
  · rw [if_pos (by rw [z]), if_pos z, b149_210]
  · rw [if_neg (fun e => z ((nI_eq (by omega) (by omega)).mp e)), if_neg z, b149_214]
end MP3
end
section
/-! ===== how the reference reads: an E ===== -/
def stL (e : Nat) (W : List Nat) : Prop := ∀ p, p + 1 = W.length → W.getD p 0 < 3 - e
def okQ (e : Nat) (Q : List Nat) : Prop := ∀ q ∈ Q, 3 - e ≤ q ∧ q < 3
def enT (S : mm_S) (t : List Nat) (T : mm_S) (W : List Nat) (C : List ab_T) (i a : Nat) : Prop := rq S T W C i ∧ i ≤ t.length ∧ C.length + W.length ≤ i ∧ (∀ x ∈ W, x < 4) ∧ opn W = a ∧ a ≤ 4
def faT (S U : mm_S) (j : Nat) : Prop := U = mm_wM S (mm_M U) ∧ (∀ c j, ¬ gp_x c j → mm_M U c j = mm_M S c j) ∧ mm_M U 92 36 = nI j
def reS (S : mm_S) (d e : Nat) (W : List Nat) (N : List ab_T) (j : Nat) (o : Option (List ab_T)) (x : List ab_T) (r : mm_Res) : Prop := match o with
  | none => ∃ U, r = some (some (.int (nI 0)), U) ∧ faT S U j
  | some c => ∃ U v Q C2, r = mm_ex (d + 4) 149 12 [.ref 92, .int (nI 0), v] [] U ∧ rq S U (W ++ Q.reverse) C2 j ∧ C2 ++ pcs Q = N ++ c ++ x ∧ okQ e Q
noncomputable def gn1 (d : Nat) (v : Value) (T : mm_S) : mm_Res := mm_ex (d + 4) 149 12 [.ref 92, .int (nI 1), v] [] T
noncomputable def gn0 (d : Nat) (v : Value) (T : mm_S) : mm_Res := mm_ex (d + 4) 149 12 [.ref 92, .int (nI 0), v] [] T
def EM (S : mm_S) (t : List Nat) (d k a i j : Nat) (o : Option (List ab_T)) : Prop :=
  (k = 0 → ∀ W n T C v, enT S t T (W ++ List.replicate n 3) C i a → stL 0 W → reS S d 0 W C j o (List.replicate n (Sum.inr 3)) (gn1 d v T)) ∧
  (∀ e, k = e → e = 1 ∨ e = 2 → ∀ W T C v, enT S t T W C i a → stL e W → reS S d e W C j o [] (gn1 d v T) ∧ (o ≠ none → ps t j ≠ 38 ∧ (e = 2 → ps t j ≠ 124))) ∧
  ∀ e, k = e + 2 → e = 1 ∨ e = 2 → (e = 2 → ps t i ≠ 38) → ∀ W Q T C v, enT S t T (W ++ Q.reverse) C i a → stL e W → okQ e Q → reS S d e W (C ++ pcs Q) j o [] (gn0 d v T) ∧ (o ≠ none → ps t j ≠ 38 ∧ (e = 2 → ps t j ≠ 124))
section MP4
variable {S T U V : mm_S} {t : List Nat} {d i j k n c q s a e : Nat} {x y : Int32} {W W0 A B Q : List Nat} {C N : List ab_T} {v : Value} {o : Option (List ab_T)} {z w : List ab_T} {r : mm_Res}
theorem EM_m0 (h : ∀ W n T C v, enT S t T (W ++ List.replicate n 3) C i a → stL 0 W → reS S d 0 W C j o (List.replicate n (Sum.inr 3)) (gn1 d v T)) : EM S t d 0 a i j o := ⟨fun _ => h, fun e he h2 => absurd he (by omega), fun e he h2 => absurd he (by omega)⟩
theorem EM_m1 (hs : s < 2) (h : ∀ W T C v, enT S t T W C i a → stL (s + 1) W → reS S d (s + 1) W C j o [] (gn1 d v T) ∧ (o ≠ none → ps t j ≠ 38 ∧ (s + 1 = 2 → ps t j ≠ 124))) : EM S t d (s + 1) a i j o := by
  refine ⟨fun z => absurd z (by omega), fun e he h2 => ?_, fun e he h2 => absurd he (by omega)⟩
  subst he
  exact h
theorem EM_m3 (hs : s < 2) (h : (s + 1 = 2 → ps t i ≠ 38) → ∀ W Q T C v, enT S t T (W ++ Q.reverse) C i a → stL (s + 1) W → okQ (s + 1) Q → reS S d (s + 1) W (C ++ pcs Q) j o [] (gn0 d v T) ∧ (o ≠ none → ps t j ≠ 38 ∧ (s + 1 = 2 → ps t j ≠ 124))) : EM S t d (s + 3) a i j o := by
  refine ⟨fun z => absurd z (by omega), fun e he h2 => absurd he (by omega), fun e he h2 => ?_⟩
  have e1 : e = s + 1 := by omega
  subst e1
  exact h
theorem okQ_n : okQ e [] := fun q hq => by cases hq
theorem okQ_m (h : okQ s Q) (hs : s < 2) : okQ (s + 1) Q := fun q hq => by have := h q hq; omega
theorem opn_Q (he : e ≤ 2) : ∀ (Q : List Nat), okQ e Q → opn (W ++ Q.reverse) = opn W := by
  intro Q
  induction Q with
  | nil => intro _; rw [List.reverse_nil, List.append_nil]
  | cons q Q ih =>
    intro h
    have hq := h q List.mem_cons_self
    rw [List.reverse_cons, ← List.append_assoc, opn_1, ih (fun z hz => h z (List.mem_cons_of_mem q hz)), if_neg (by omega)]
    rfl
theorem fa_rq (h : rq S T W C i) : faT S T i := ⟨h.1, h.2.1, h.2.2.1⟩
/-- what stood before an E's part is as that part found it -/
theorem en_re (hE : enT S t T W C i a) (hU : rq S U (W ++ Q.reverse) N j) (he : e ≤ 2) (hQ : okQ e Q) {c : List ab_T} (hc : N ++ pcs Q = C ++ c) (hl : c.length + i ≤ j) (hj : j ≤ t.length) : enT S t U (W ++ Q.reverse) N j a := by
  obtain ⟨-, -, h3, h4, h5, h6⟩ := hE
  refine ⟨hU, hj, ?_, fun x hx => ?_, (opn_Q he Q hQ).trans h5, h6⟩
  · have e1 := congrArg List.length hc
    unfold pcs at e1
    rw [List.length_append, List.length_append, List.length_map] at e1
    rw [List.length_append, List.length_reverse]
    omega
  · rcases List.mem_append.mp hx with h | h
    · exact h4 x h
    · have := hQ x (List.mem_reverse.mp h)
      omega
theorem EM_in (h : EM S t d s a i j o) (hs : s < 2) (hE : enT S t T W C i a) (hW : stL s W) : reS S d s W C j o [] (gn1 d v T) ∧ (o ≠ none → s = 1 → ps t j ≠ 38) := by
  rcases (by omega : s = 0 ∨ s = 1) with rfl | rfl
  · have := h.1 rfl W 0 T C v (by rw [List.replicate_zero, List.append_nil]; exact hE) hW
    exact ⟨this, fun _ z => by cases z⟩
  · have := h.2.1 1 rfl (Or.inl rfl) W T C v hE hW
    exact ⟨this.1, fun z _ => (this.2 z).1⟩
theorem stL_m (h : stL (s + 1) W) (hs : s < 2) : stL s W := fun p hp => by have := h p hp; omega
theorem stL_1 (h : q < 3 - e) : stL e (W ++ [q]) := fun p hp => by
  rw [la1] at hp
  have e1 : p = W.length := by omega
  rw [e1, ga_r]
  exact h
theorem w12 (hT1 : rt T t) (h : mm_M T 92 36 = nI i) (hi : i ≤ 100) {b : Nat} (hb : b = 0 ∨ b = 1) : mm_ex (d + 4) 149 12 [.ref 92, .int (nI b), v] [] T = mm_ex (d + 4) 149 (if b = 0 then 71 else 21) [.ref 92, .int (nI b), .int (sg t i)] [] T := by
  rw [b149_12 (wx_k92 hT1.1), s139 hT1 h (by omega), hp_bd, hp_ts, b149_16]
  rcases hb with rfl | rfl
  · rw [if_pos rfl, if_pos rfl]
  · rw [if_neg i01, if_neg (by decide)]
/-- ( or ! opens -/
theorem m149_open (hE : enT S t T W C i a) (hT : rt S t) (hs : ps t i = 33 ∨ ps t i = 40) : (a = 4 → ∃ U, gn1 d v T = some (some (.int (nI 0)), U) ∧ faT S U i) ∧ (a < 4 → ∃ U v2, gn1 d v T = gn1 d v2 U ∧ enT S t U (W ++ [if ps t i = 40 then 0 else 3]) C (i + 1) (a + 1)) := by
  obtain ⟨h1, h2, h3, h4, h5, h6⟩ := hE
  have hS := hT.1
  have hT1 := rq_t h1 hT
  have hw := hT1.1
  have hi : i < t.length := ps_in (by omega)
  have h100 := hT.2.2.2.1
  have e40 := @sg_eq S t i 40 hT (by decide) (by decide)
  have e33 := @sg_eq S t i 33 hT (by decide) (by decide)
  have k148 := s148 (d := d + 3) (q := if ps t i = 40 then 0 else 3) h1 hS (by omega) (by omega) (by split <;> decide)
  have st : gn1 d v T = mm_bd (mm_cl (d + 3) 148 [.ref 92, .int (nI (if ps t i = 40 then 0 else 3))] T) (fun u S2 => mm_ex (d + 4) 149 48 [.ref 92, .int (nI 1), .int (sg t i)] (u.toList ++ []) S2) := by
    unfold gn1
    rw [w12 hT1 h1.2.2.1 (by omega) (Or.inr rfl), if_neg (by decide), b149_21]
    by_cases z : ps t i = 40
    · rw [if_pos (by rw [e40]; exact z), b149_33, if_pos (by rw [e40]; exact z), b149_40 (wx_k92 hw), if_pos z]
    · rw [if_neg (by rw [e40]; exact z), b149_27, if_pos (by rw [e33]; omega), b149_33, if_neg (by rw [e40]; exact z), b149_44 (wx_k92 hw), if_neg z]
  refine ⟨fun z => ⟨T, ?_, fa_rq h1⟩, fun z => ?_⟩
  · rw [st, k148.1 (by omega), hp_bd, hp_ts, b149_48, if_pos rfl, b149_51]
  · obtain ⟨U, g1, g2⟩ := k148.2 (by omega)
    refine ⟨U, .int (sg t i), ?_, g2, by omega, by rw [la1]; omega, fun x hx => ?_, ?_, by omega⟩
    · rw [st, g1, hp_bd, hp_ts, b149_48, if_neg i01, b149_216]
      rfl
    · rcases List.mem_append.mp hx with h | h
      · exact h4 x h
      · have := List.mem_singleton.mp h
        rw [this]
        split <;> decide
    · rw [opn_1, if_pos (by split <;> decide), h5]
/-- ) closes -/
theorem m149_close (h : rq S T (W ++ List.replicate n 3 ++ [0] ++ Q.reverse) C j) (hT : rt S t) (hj : ps t j = 41) (hQ : okQ 2 Q) (hW : stL 0 W) (h4 : ∀ x ∈ W, x < 4) (hj2 : j ≤ 100) (hl : (W ++ List.replicate n 3 ++ [0] ++ Q.reverse).length + C.length ≤ 100) : ∃ U v2, gn0 d v T = gn0 d v2 U ∧ rq S U W (C ++ pcs Q ++ List.replicate n (Sum.inr 3)) (j + 1) := by
  have hS := hT.1
  have hT1 := rq_t h hT
  have hw := hT1.1
  have hl2 : (W ++ List.replicate n 3).length + 1 + Q.length + C.length ≤ 100 := by rw [List.length_append, List.length_reverse, la1] at hl; exact hl
  have o1 : opn (W ++ List.replicate n 3 ++ [0] ++ Q.reverse) = opn (W ++ List.replicate n 3) + 1 := by rw [opn_Q (e := 2) (Nat.le_refl _) Q hQ, opn_1]; rfl
  have hol := @opn_le (W ++ List.replicate n 3)
  obtain ⟨U, g1, g2⟩ := s147 (d := d + 2) hS (m := 1) (Or.inl rfl) (W0 := W ++ List.replicate n 3 ++ [0]) (fun p hp => by
    rw [la1] at hp
    have e1 : p = (W ++ List.replicate n 3).length := by omega
    rw [e1, ga_r]
    decide) Q T C hQ h (by omega) (by omega)
  have wU := rq_W g2 hS
  have g1 : mm_cl (d + 3) 147 [.ref 92, .int (nI 1)] T = some (none, U) := by rw [e147]; exact g1
  obtain ⟨u1, u2, u3, u4, u5, u6, u7, u8⟩ := g2
  rw [la1] at u6 u8
  have o2 : opn (W ++ List.replicate n 3 ++ [0]) = opn (W ++ List.replicate n 3) + 1 := by rw [opn_1]; rfl
  rw [o2] at u7
  have w1 : mm_W (mm_uM U 92 39 (nI (W ++ List.replicate n 3).length)) := wU
  have w2 : mm_W (mm_uM (mm_uM U 92 39 (nI (W ++ List.replicate n 3).length)) 92 40 (nI (opn (W ++ List.replicate n 3)))) := wU
  have r2 : rq S (mm_uM (mm_uM (mm_uM U 92 39 (nI (W ++ List.replicate n 3).length)) 92 40 (nI (opn (W ++ List.replicate n 3)))) 92 36 (nI (j + 1))) (W ++ List.replicate n 3) (C ++ pcs Q) (j + 1) := ⟨wM_u (wM_u (wM_u u1)), fun c j hc => (rdn (fun z => hc (by unfold gp_x; omega))).trans ((rdn (fun z => hc (by unfold gp_x; omega))).trans ((rdn (fun z => hc (by unfold gp_x; omega))).trans (u2 c j hc))), rds, (rdn (by omega)).trans ((rdn (by omega)).trans ((rdn (by omega)).trans u4)), fun n hn => (rdn (by omega)).trans ((rdn (by omega)).trans ((rdn (by omega)).trans (u5 n hn))), (rdn (by omega)).trans ((rdn (by omega)).trans rds), (rdn (by omega)).trans rds, fun p hp => (rdn (by omega)).trans ((rdn (by omega)).trans ((rdn (by omega)).trans ((u8 p (by omega)).trans (by rw [ga_l hp]))))⟩
  have hpl : (pcs Q).length = Q.length := by unfold pcs; rw [List.length_map]
  have hn : n ≤ (W ++ List.replicate n 3).length := by rw [List.length_append, List.length_replicate]; omega
  obtain ⟨V, g3, g4⟩ := s146 (d := d + 2) hS (W0 := W) (fun p hp => by have := hW p hp; omega) h4 n _ _ r2 (by omega) (by rw [List.length_append, hpl]; omega)
  rw [← e146] at g3
  change mm_cl (d + 3) 146 [.ref 92] _ = _ at g3
  have n38 : ¬ sg t j = nI 38 := by rw [@sg_eq S t j 38 hT (by decide) (by decide)]; omega
  have n124 : ¬ sg t j = nI 124 := by rw [@sg_eq S t j 124 hT (by decide) (by decide)]; omega
  have p41 : sg t j = nI 41 := by rw [@sg_eq S t j 41 hT (by decide) (by decide)]; exact hj
  have m40 : mm_M (mm_uM U 92 39 (nI (W ++ List.replicate n 3).length)) 92 40 = nI (opn (W ++ List.replicate n 3) + 1) := (rdn (by omega)).trans u7
  have m36 : mm_M (mm_uM (mm_uM U 92 39 (nI (W ++ List.replicate n 3).length)) 92 40 (nI (opn (W ++ List.replicate n 3)))) 92 36 = nI j := (rdn (by omega)).trans ((rdn (by omega)).trans u3)
  refine ⟨V, .int (sg t j), ?_, g4⟩
  unfold gn0
  rw [w12 hT1 h.2.2.1 (by omega) (Or.inl rfl), if_pos rfl, b149_71, if_neg n38, b149_77, if_neg n124, b149_143, if_pos p41, b149_149 (wx_o92 hw), h.2.2.2.2.2.2.1, o1, if_neg (nI_ge (by omega) (by omega)), b149_156 (wx_k92 hw), g1, hp_bd, hp_tn, b149_161 (wx_o92 wU), u6, pk_sub (by omega), Nat.add_sub_cancel, b149_173 (wx_o92 w1) (wx_o92 w1), m40, pk_sub (by omega), Nat.add_sub_cancel, b149_183 (wx_o92 w2) (wx_o92 w2) (wx_k92 w2), m36, nI_add, g3, hp_bd, hp_tn, b149_195]
end MP4
end
section
/-! ===== how the reference reads: an E is as the document's rules read it ===== -/
section MP5
variable {S T U V : mm_S} {t : List Nat} {d i j k n c q s a e m : Nat} {x y : Int32} {W W0 A B Q : List Nat} {C N : List ab_T} {v : Value} {o : Option (List ab_T)} {z w : List ab_T} {r : mm_Res}
theorem re_none (h : reS S d e W N j none z r) {e2 : Nat} {W2 : List Nat} {N2 w : List ab_T} : reS S d e2 W2 N2 j none w r := h
theorem re_eq {c c2 : List ab_T} (h : reS S d e W N j (some c) z r) (q : N ++ c ++ z = C ++ c2 ++ w) : reS S d e W C j (some c2) w r := by
  obtain ⟨U, v, Q, C2, h1, h2, h3, h4⟩ := h
  exact ⟨U, v, Q, C2, h1, h2, h3.trans q, h4⟩
theorem re_r {r2 : mm_Res} (h : reS S d e W N j o z r) (q : r2 = r) : reS S d e W N j o z r2 := by rw [q]; exact h
theorem rep_1 {α : Type} {x : α} : List.replicate (n + 1) x = List.replicate n x ++ [x] := List.replicate_succ'
theorem m149_test (hT : rt S t) (h1 : ps t i ≠ 33) (h2 : ps t i ≠ 40) (hE : enT S t T (W ++ List.replicate n 3) C i a) (hW : stL 0 W) : reS S d 0 W C (pte t i).1 ((pte t i).2.map (fun x => [x])) (List.replicate n (Sum.inr 3)) (gn1 d v T) := by
  obtain ⟨g1, g2, g3, g4, g5, g6⟩ := hE
  have hS := hT.1
  have hT1 := rq_t g1 hT
  have hw := hT1.1
  have h100 := hT.2.2.2.1
  have n40 : ¬ sg t i = nI 40 := by rw [@sg_eq S t i 40 hT (by decide) (by decide)]; exact h2
  have n33 : ¬ sg t i = nI 33 := by rw [@sg_eq S t i 33 hT (by decide) (by decide)]; exact h1
  obtain ⟨U, f1, f2, f3⟩ := s145 (d := d) g1 hT (by omega) (by omega)
  have st : gn1 d v T = mm_ex (d + 4) 149 57 [.ref 92, .int (nI 1), .int (sg t i)] [.int (if (pte t i).2 = none then nI 0 else nI 1)] U := by
    unfold gn1
    rw [w12 hT1 g1.2.2.1 (by omega) (Or.inr rfl), if_neg (by decide), b149_21, if_neg n40, b149_27, if_neg n33, b149_53 (wx_k92 hw), f1, hp_bd, hp_ts]
  rw [b149_57] at st
  cases hp : (pte t i).2 with
  | none =>
    have q := f3 hp
    rw [hp, if_pos rfl, if_pos rfl] at st
    exact ⟨U, by rw [st, b149_60], fa_rq q⟩
  | some x =>
    have q := f2 x hp
    have wU := rq_W q hS
    have hn : n ≤ (W ++ List.replicate n 3).length := by rw [List.length_append, List.length_replicate]; omega
    obtain ⟨V, f4, f5⟩ := s146 (d := d + 2) hS (W0 := W) (fun p hp => by have := hW p hp; omega) (fun y hy => g4 y (List.mem_append.mpr (Or.inl hy))) n _ _ q (by omega) (by rw [la1]; omega)
    rw [← e146] at f4
    change mm_cl (d + 3) 146 [.ref 92] _ = _ at f4
    have nx : ¬ some x = (none : Option ab_T) := by simp
    rw [hp, if_neg nx, if_neg i01] at st
    refine ⟨V, .int (sg t i), [], C ++ [x] ++ List.replicate n (Sum.inr 3), ?_, ?_, ?_, okQ_n⟩
    · rw [st, b149_62 (wx_k92 wU), f4, hp_bd, hp_tn, b149_66]
    · rw [List.reverse_nil, List.append_nil]
      exact f5
    · unfold pcs
      rw [List.map_nil, List.append_nil]
/-- what PE says is what the reference's reading does -/
theorem PE_EM (hT : rt S t) (p : PE t k a i j o) : PE t k a i j o ∧ EM S t d k a i j o := by
  have h100 := hT.2.2.2.1
  refine p (fun k a i j o => PE t k a i j o ∧ EM S t d k a i j o) ⟨?_, ?_, ?_, ?_, ?_, ?_, ?_, ?_, ?_, ?_⟩
  · intro a i h1 h2
    exact ⟨PE_c.1 a i h1 h2, EM_m0 (fun W n T C v hE hW => m149_test hT h1 h2 hE hW)⟩
  · intro a i h1 h2
    refine ⟨PE_c.2.1 a i h1 h2, EM_m0 (fun W n T C v hE hW => ?_)⟩
    exact (m149_open (d := d) (v := v) hE hT h1).1 (by have := hE.2.2.2.2.2; omega)
  · intro a i j o h1 h2 h3
    refine ⟨PE_c.2.2.1 a i j o h1 h2 h3.1, EM_m0 (fun W n T C v hE hW => ?_)⟩
    obtain ⟨U, v2, g1, g2⟩ := (m149_open (d := d) (v := v) hE hT (Or.inl h1)).2 h2
    rw [if_neg (by omega), List.append_assoc, ← rep_1] at g2
    have g3 := h3.2.1 rfl W (n + 1) U C v2 g2 hW
    refine re_r ?_ g1
    cases o with
    | none => exact re_none g3
    | some c =>
      refine re_eq g3 ?_
      rw [List.append_assoc, List.append_assoc, List.append_assoc]
      rfl
  · intro a i j h1 h2 h3
    refine ⟨PE_c.2.2.2.1 a i j h1 h2 h3.1, EM_m0 (fun W n T C v hE hW => ?_)⟩
    obtain ⟨U, v2, g1, g2⟩ := (m149_open (d := d) (v := v) hE hT (Or.inr h1)).2 h2
    rw [if_pos h1] at g2
    have g3 := (h3.2.2.1 2 rfl (Or.inr rfl) _ U C v2 g2 (stL_1 (by decide))).1
    exact re_r (re_none g3) g1
  · intro a i j c h1 h2 h3
    refine ⟨PE_c.2.2.2.2.1 a i j c h1 h2 h3.1, EM_m0 (fun W n T C v hE hW => ?_)⟩
    have hle := PE_le h3.1
    have hi : i < t.length := ps_in (by omega)
    obtain ⟨U, v2, g1, g2⟩ := (m149_open (d := d) (v := v) hE hT (Or.inr h1)).2 h2
    rw [if_pos h1] at g2
    obtain ⟨g3, g4⟩ := h3.2.2.1 2 rfl (Or.inr rfl) _ U C v2 g2 (stL_1 (by decide))
    obtain ⟨n38, n124⟩ := g4 (by simp)
    have n124 := n124 rfl
    obtain ⟨V, v3, Q, C2, f1, f2, f3, f4⟩ := g3
    rw [List.append_nil] at f3
    have hc := hle.2.2 c rfl
    have E2 := en_re g2 f2 (Nat.le_refl 2) f4 f3 hc (hle.2.1 (by omega))
    have hx4 : ∀ x ∈ W, x < 4 := fun x hx => hE.2.2.2.1 x (List.mem_append.mpr (Or.inl hx))
    have hjl := E2.2.1
    have hb := E2.2.2.1
    by_cases z : ps t j = 41
    · rw [if_pos z, if_pos z]
      obtain ⟨V2, v4, k1, k2⟩ := m149_close (d := d) (v := v3) f2 hT z f4 hW hx4 (by omega) (by omega)
      refine ⟨V2, v4, [], C2 ++ pcs Q ++ List.replicate n (Sum.inr 3), ?_, ?_, ?_, okQ_n⟩
      · rw [g1, f1]
        exact k1
      · rw [List.reverse_nil, List.append_nil]
        exact k2
      · unfold pcs at f3 ⊢
        rw [List.map_nil, List.append_nil, f3]
    · rw [if_neg z, if_neg z]
      obtain ⟨V2, k1, k2⟩ := m149_end (d := d) (v := v3) f2 hT n38 n124 (Or.inl z) (fun p hp => by
        rw [la1] at hp
        have e1 : p = (W ++ List.replicate n 3).length := by omega
        rw [e1, ga_r]
        decide) f4 (by omega) (by omega)
      refine ⟨V2, ?_, fa_rq k2⟩
      rw [g1, f1]
      refine k1.trans ?_
      rw [la1, if_neg (by omega)]
  · intro s a i j hs h2
    refine ⟨PE_c.2.2.2.2.2.1 s a i j hs h2.1, EM_m1 hs (fun W T C v hE hW => ⟨?_, fun z => absurd rfl z⟩)⟩
    exact re_none (EM_in h2.2 hs hE (stL_m hW hs)).1
  · intro s a i j k c o hs h2 h3
    refine ⟨PE_c.2.2.2.2.2.2.1 s a i j k c o hs h2.1 h3.1, EM_m1 hs (fun W T C v hE hW => ?_)⟩
    have hle := PE_le h2.1
    obtain ⟨g3, g4⟩ := EM_in (v := v) h2.2 hs hE (stL_m hW hs)
    obtain ⟨V, v3, Q, C2, f1, f2, f3, f4⟩ := g3
    rw [List.append_nil] at f3
    have E2 := en_re hE f2 (by omega) f4 f3 (hle.2.2 c rfl) (hle.2.1 hE.2.1)
    obtain ⟨k1, k2⟩ := h3.2.2.2 (s + 1) rfl (by omega) (fun z => g4 (by simp) (by omega)) W Q V C2 v3 E2 hW (okQ_m f4 hs)
    rw [f3] at k1
    refine ⟨re_r ?_ f1, fun z => k2 (fun y => z (by rw [y]; rfl))⟩
    cases o with
    | none => exact re_none k1
    | some r =>
      refine re_eq k1 ?_
      rw [List.append_assoc C c r]
  · intro s a j hs h2
    refine ⟨PE_c.2.2.2.2.2.2.2.1 s a j hs h2, EM_m3 hs (fun n38 W Q T C v hE hW hQ => ⟨⟨T, v, Q, C, rfl, hE.1, by rw [List.append_nil, List.append_nil], hQ⟩, fun _ => ?_⟩)⟩
    rcases (by omega : s = 0 ∨ s = 1) with rfl | rfl
    · exact ⟨h2, fun z => by cases z⟩
    · exact ⟨n38 rfl, fun _ => h2⟩
  · intro s a j k hs h2 h3
    refine ⟨PE_c.2.2.2.2.2.2.2.2.1 s a j k hs h2 h3.1, EM_m3 hs (fun n38 W Q T C v hE hW hQ => ⟨?_, fun z => absurd rfl z⟩)⟩
    have hj : j < t.length := ps_in (by rw [h2]; unfold pch; split <;> decide)
    have hQ2 : ∀ q ∈ Q, 2 - s ≤ q ∧ q < 3 := fun q hq => by have := hQ q hq; omega
    have hb := hE.2.2.1
    obtain ⟨U, v2, g1, g2⟩ := m149_op (d := d) (v := v) hE.1 hT hs h2 (fun p hp => by have := hW p hp; omega) hQ2 (by omega) (by omega)
    have hE1 : enT S t U (W ++ [2 - s]) (C ++ pcs Q) (j + 1) a := by
      have hx := hE.2.2.2.1
      rw [List.length_append, List.length_reverse] at hb
      refine ⟨g2, by omega, ?_, fun x h => ?_, ?_, hE.2.2.2.2.2⟩
      · unfold pcs
        rw [List.length_append, List.length_map, la1]
        omega
      · rcases List.mem_append.mp h with h | h
        · exact hx x (List.mem_append.mpr (Or.inl h))
        · have := List.mem_singleton.mp h
          omega
      · rw [opn_1, if_neg (by omega), ← hE.2.2.2.2.1, opn_Q (e := s + 1) (by omega) Q hQ]
        rfl
    exact re_r (re_none (EM_in (v := v2) h3.2 hs hE1 (stL_1 (by omega))).1) g1
  · intro s a j k m c o hs h2 h3 h4
    refine ⟨PE_c.2.2.2.2.2.2.2.2.2 s a j k m c o hs h2 h3.1 h4.1, EM_m3 hs (fun n38 W Q T C v hE hW hQ => ?_)⟩
    have hle := PE_le h3.1
    have hj : j < t.length := ps_in (by rw [h2]; unfold pch; split <;> decide)
    have hQ2 : ∀ q ∈ Q, 2 - s ≤ q ∧ q < 3 := fun q hq => by have := hQ q hq; omega
    have hb := hE.2.2.1
    obtain ⟨U, v2, g1, g2⟩ := m149_op (d := d) (v := v) hE.1 hT hs h2 (fun p hp => by have := hW p hp; omega) hQ2 (by omega) (by omega)
    have hE1 : enT S t U (W ++ [2 - s]) (C ++ pcs Q) (j + 1) a := by
      have hx := hE.2.2.2.1
      rw [List.length_append, List.length_reverse] at hb
      refine ⟨g2, by omega, ?_, fun x h => ?_, ?_, hE.2.2.2.2.2⟩
      · unfold pcs
        rw [List.length_append, List.length_map, la1]
        omega
      · rcases List.mem_append.mp h with h | h
        · exact hx x (List.mem_append.mpr (Or.inl h))
        · have := List.mem_singleton.mp h
          omega
      · rw [opn_1, if_neg (by omega), ← hE.2.2.2.2.1, opn_Q (e := s + 1) (by omega) Q hQ]
        rfl
    obtain ⟨g3, g4⟩ := EM_in (v := v2) h3.2 hs hE1 (stL_1 (by omega))
    obtain ⟨V, v3, R, C2, f1, f2, f3, f4⟩ := g3
    rw [List.append_nil] at f3
    have E2 := en_re hE1 f2 (by omega) f4 f3 (hle.2.2 c rfl) (hle.2.1 (by omega))
    have eW : W ++ [2 - s] ++ R.reverse = W ++ (R ++ [2 - s]).reverse := by rw [List.reverse_append, List.append_assoc]; rfl
    rw [eW] at E2
    have hR : okQ (s + 1) (R ++ [2 - s]) := fun q hq => by
      rcases List.mem_append.mp hq with h | h
      · have := f4 q h
        omega
      · have := List.mem_singleton.mp h
        omega
    obtain ⟨k1, k2⟩ := h4.2.2.2 (s + 1) rfl (by omega) (fun z => g4 (by simp) (by omega)) W (R ++ [2 - s]) V C2 v3 E2 hW hR
    have ep : C2 ++ pcs (R ++ [2 - s]) = C ++ pcs Q ++ c ++ [Sum.inr (2 - s)] := by
      rw [← f3]
      unfold pcs
      rw [List.map_append, ← List.append_assoc]
      rfl
    rw [ep] at k1
    refine ⟨re_r ?_ (g1.trans f1), fun z => k2 (fun y => z (by rw [y]; rfl))⟩
    cases o with
    | none => exact re_none k1
    | some r =>
      refine re_eq k1 ?_
      simp only [List.append_assoc, List.append_nil, List.singleton_append, List.cons_append, List.nil_append]
end MP5
end
section
/-! ===== how the reference reads: words and clauses ===== -/
def pwl : List (List Nat) := [[109, 111, 114, 101], [99, 111, 115, 116], [117, 112], [100, 111, 119, 110], [97, 119, 97, 121], [102, 101, 101]]
def cod (T : mm_S) (C : List ab_T) : Prop := ∀ n, n < C.length → mm_M T 107 (720 + n) = md_en (C.getD n (Sum.inr 0))
def cq (T : mm_S) : List ab_C → Nat → Nat → Prop
  | [], _, _ => True
  | c :: l, k, B => mm_M T 103 (60 + k) = nI c.1 ∧ mm_M T 104 (60 + k) = nI c.2.1 ∧ (c.1 < 2 → ∃ f, f + c.2.2.length ≤ B ∧ mm_M T 105 (60 + k) = nI f ∧ mm_M T 106 (60 + k) = nI (f + c.2.2.length) ∧ md_co T c.2.2 (720 + f)) ∧ cq T l (k + 1) B
def gp_k (c j : Nat) : Prop := gp_x c j ∨ (c = 102 ∧ j = 6) ∨ (103 ≤ c ∧ c ≤ 106 ∧ 60 ≤ j)
def faK (S U : mm_S) (j : Nat) : Prop := U = mm_wM S (mm_M U) ∧ (∀ c j, ¬ gp_k c j → mm_M U c j = mm_M S c j) ∧ mm_M U 92 36 = nI j
def rk (S T : mm_S) (l : List ab_C) (C : List ab_T) (i : Nat) : Prop := faK S T i ∧ mm_M T 92 37 = nI C.length ∧ cod T C ∧ mm_M T 102 6 = nI l.length ∧ cq T l 0 C.length
section MP6
variable {S T U V : mm_S} {t : List Nat} {d i j k n q s a e m w B K : Nat} {x y : Int32} {W W0 A Q : List Nat} {C N : List ab_T} {v : Value} {o : Option (List ab_T)} {l : List ab_C} {c : ab_C} {p : Option ab_C}
theorem co_tr : ∀ {c : List ab_T} {i : Nat}, (∀ n, i ≤ n → n < i + c.length → mm_M U 107 n = mm_M T 107 n) → md_co T c i → md_co U c i := by
  intro c
  induction c with
  | nil => intro i _ _; exact trivial
  | cons x c ih =>
    intro i h hc
    rw [List.length_cons] at h
    exact ⟨(h i (Nat.le_refl _) (by omega)).trans hc.1, ih (fun n a b => h n (by omega) (by omega)) hc.2⟩
theorem co_of : ∀ {c : List ab_T} {C : List ab_T}, cod U (C ++ c) → md_co U c (720 + C.length) := by
  intro c
  induction c with
  | nil => intro C _; exact trivial
  | cons x c ih =>
    intro C h
    refine ⟨?_, ?_⟩
    · have := h C.length (by rw [List.length_append, List.length_cons]; omega)
      rw [List.getD_eq_getElem?_getD, List.getElem?_append_right (Nat.le_refl _), Nat.sub_self] at this
      exact this
    · have e : C ++ x :: c = (C ++ [x]) ++ c := by rw [List.append_assoc]; rfl
      rw [e] at h
      have := ih h
      rw [la1] at this
      exact this
theorem cq_tr : ∀ {l : List ab_C} {k : Nat}, (∀ c j, 103 ≤ c → c ≤ 106 → 60 ≤ j → j < 60 + K → mm_M U c j = mm_M T c j) → (∀ n, n < B → mm_M U 107 (720 + n) = mm_M T 107 (720 + n)) → k + l.length ≤ K → B ≤ n → cq T l k B → cq U l k n := by
  intro l
  induction l with
  | nil => intro k _ _ _ _ _; exact trivial
  | cons c l ih =>
    intro k h h2 hk hB hq
    rw [List.length_cons] at hk
    obtain ⟨q1, q2, q3, q4⟩ := hq
    refine ⟨(h _ _ (by omega) (by omega) (by omega) (by omega)).trans q1, (h _ _ (by omega) (by omega) (by omega) (by omega)).trans q2, fun hc => ?_, ih h h2 (by omega) hB q4⟩
    obtain ⟨f, f1, f2, f3, f4⟩ := q3 hc
    refine ⟨f, by omega, (h _ _ (by omega) (by omega) (by omega) (by omega)).trans f2, (h _ _ (by omega) (by omega) (by omega) (by omega)).trans f3, co_tr (fun n a b => ?_) f4⟩
    have := h2 (n - 720) (by omega)
    rw [show 720 + (n - 720) = n by omega] at this
    exact this
theorem cq_app : ∀ {l : List ab_C} {k : Nat}, cq T l k B → (mm_M T 103 (60 + (k + l.length)) = nI c.1 ∧ mm_M T 104 (60 + (k + l.length)) = nI c.2.1 ∧ (c.1 < 2 → ∃ f, f + c.2.2.length ≤ B ∧ mm_M T 105 (60 + (k + l.length)) = nI f ∧ mm_M T 106 (60 + (k + l.length)) = nI (f + c.2.2.length) ∧ md_co T c.2.2 (720 + f))) → cq T (l ++ [c]) k B := by
  intro l
  induction l with
  | nil => intro k _ h; exact ⟨h.1, h.2.1, h.2.2, trivial⟩
  | cons x l ih =>
    intro k hq h
    rw [List.length_cons, show k + (l.length + 1) = k + 1 + l.length by omega] at h
    exact ⟨hq.1, hq.2.1, hq.2.2.1, ih hq.2.2.2 h⟩
theorem fk_rf (h : mm_M T 92 36 = nI i) : faK T T i := ⟨rfl, fun _ _ _ => rfl, h⟩
theorem fk_tr (h : faK S T i) (h2 : faK T U j) : faK S U j := by
  refine ⟨?_, fun c j hc => (h2.2.1 c j hc).trans (h.2.1 c j hc), h2.2.2⟩
  have e := h2.1
  rw [h.1] at e
  exact e
theorem fk_36 (h : r36 T U i) : faK T U i := ⟨h.1, fun c j hc => h.2.1 c j (fun z => hc (Or.inl (by unfold gp_x; omega))), h.2.2⟩
theorem fk_u (h36 : mm_M T 92 36 = nI i) (h : gp_k n k) (hn : ¬ (92 = n ∧ 36 = k)) : faK T (mm_uM T n k x) i := ⟨hp_uMw, fun c j hc => rdn (fun z => hc (by rw [z.1, z.2]; exact h)), (rdn hn).trans h36⟩
theorem fk_W (h : faK S T i) (hw : mm_W S) : mm_W T := by rw [h.1]; exact hw
theorem fk_t (h : faK S T i) (hT : rt S t) : rt T t := by
  obtain ⟨h1, h2, h3, h4, h5, h6⟩ := hT
  have g := h.2.1
  exact ⟨fk_W h h1, (g _ _ (by unfold gp_k gp_x; omega)).trans h2, fun i hi => (g _ _ (by unfold gp_k gp_x; omega)).trans (h3 i hi), h4, h5, mt_c (fun c j hc => g c j (by unfold gp_k gp_x; omega)) h6⟩
/-- a whole E -/
theorem s149 (hT : rt T t) (h36 : mm_M T 92 36 = nI i) (h37 : mm_M T 92 37 = nI C.length) (hC : cod T C) (hi : i ≤ t.length) (hCi : C.length ≤ i) (p : PE t 2 0 i j o) : (o = none → ∃ U, mm_cl (d + 4) 149 [.ref 92] T = some (some (.int (nI 0)), U) ∧ faT T U j) ∧ (∀ c, o = some c → ∃ U, mm_cl (d + 4) 149 [.ref 92] T = some (some (.int (nI 1)), U) ∧ rq T U [] (C ++ c) j) := by
  have hw := hT.1
  have hle := PE_le p
  have h100 := hT.2.2.2.1
  have r1 : rq T (mm_uM (mm_uM T 92 39 (nI 0)) 92 40 (nI 0)) [] C i := ⟨wM_u hp_uMw, fun c j hc => (rdn (fun z => hc (by unfold gp_x; omega))).trans (rdn (fun z => hc (by unfold gp_x; omega))), (rdn (by omega)).trans ((rdn (by omega)).trans h36), (rdn (by omega)).trans ((rdn (by omega)).trans h37), fun n hn => (rdn (by omega)).trans ((rdn (by omega)).trans (hC n hn)), (rdn (by omega)).trans rds, rds, fun p hp => absurd hp (Nat.not_lt_zero _)⟩
  have E1 : enT T t (mm_uM (mm_uM T 92 39 (nI 0)) 92 40 (nI 0)) [] C i 0 := ⟨r1, hi, hCi, (fun x hx => by cases hx), rfl, Nat.zero_le _⟩
  obtain ⟨g1, g2⟩ := (PE_EM (d := d) hT p).2.2.1 2 rfl (Or.inr rfl) [] _ C .null E1 (fun p hp => by cases hp)
  have st : mm_cl (d + 4) 149 [.ref 92] T = gn1 d .null (mm_uM (mm_uM T 92 39 (nI 0)) 92 40 (nI 0)) := by
    unfold gn1
    rw [e149, b149_0 (wx_o92 hw)]
  refine ⟨fun e => ?_, fun c e => ?_⟩
  · subst e
    obtain ⟨U, f1, f2⟩ := g1
    exact ⟨U, st.trans f1, f2⟩
  · subst e
    obtain ⟨n38, n124⟩ := g2 (by simp)
    obtain ⟨V, v3, Q, C2, f1, f2, f3, f4⟩ := g1
    rw [List.append_nil] at f3
    have E2 := en_re E1 f2 (Nat.le_refl 2) f4 f3 (hle.2.2 c rfl) (hle.2.1 hi)
    have b1 := E2.2.1
    have b2 := E2.2.2.1
    obtain ⟨U, k1, k2⟩ := m149_end (d := d) (v := v3) f2 hT n38 (n124 rfl) (Or.inr E2.2.2.2.2.1) (fun p hp => by cases hp) f4 (by omega) (by omega)
    refine ⟨U, ?_, by rw [← f3]; exact k2⟩
    rw [st, f1]
    exact k1
theorem pw_app : ∀ {A : List Nat} {i : Nat}, pw t (A ++ [n]) i = if (pw t A i).2 = true then pw t [n] (pw t A i).1 else pw t A i := by
  intro A
  induction A with
  | nil => intro i; rfl
  | cons x A ih =>
    intro i
    show (if ps t i = x then pw t (A ++ [n]) (i + 1) else (i, false)) = _
    have e : pw t (x :: A) i = if ps t i = x then pw t A (i + 1) else (i, false) := rfl
    rw [e]
    by_cases h : ps t i = x
    · rw [if_pos h, if_pos h]; exact ih
    · rw [if_neg h, if_neg h]
      rfl
theorem pw_le : ∀ {A : List Nat} {i : Nat}, 0 ∉ A → i ≤ (pw t A i).1 ∧ (i ≤ t.length → (pw t A i).1 ≤ t.length) := by
  intro A
  induction A with
  | nil => intro i _; exact ⟨Nat.le_refl _, fun h => h⟩
  | cons x A ih =>
    intro i h0
    have e : pw t (x :: A) i = if ps t i = x then pw t A (i + 1) else (i, false) := rfl
    rw [e]
    by_cases h : ps t i = x
    · rw [if_pos h]
      have a : i < t.length := ps_in (fun z => h0 (by rw [← z, h]; exact List.mem_cons_self))
      have b := @ih (i + 1) (fun z => h0 (List.mem_cons_of_mem x z))
      exact ⟨by omega, fun _ => b.2 (by omega)⟩
    · rw [if_neg h]
      exact ⟨Nat.le_refl _, fun h => h⟩
theorem wl_f : ∀ w, w < 6 → (pwl.getD w []).length = ([4, 4, 2, 4, 4, 3] : List Nat).getD w 0 ∧ pws.getD w [] = pwl.getD w [] ++ [32] ∧ (pwl.getD w []).length ≤ 4 ∧ gm_w.getD (4 * w) 0 = pfl.getD w 0 ∧ ∀ m, m < (pwl.getD w []).length → gm_w.getD (4 * w + m) 0 = (pwl.getD w []).getD m 0 ∧ 0 < (pwl.getD w []).getD m 0 ∧ (pwl.getD w []).getD m 0 < 128 := by decide
theorem s143_l (hT : rt T t) (h36 : mm_M T 92 36 = nI i) (hi : i < 2 ^ 20) : ∀ (q k : Nat), k + q = 6 → mm_ex (d + 1) 143 4 [.ref 92, .int (lv (ab_at (ps t i) pfl) k), .int (nI k)] [] T = mm_ex (d + 1) 143 37 [.ref 92, .int (pmo (ab_at (ps t i) pfl)), .int (nI 6)] [] T := by
  have hw := hT.1
  intro q
  induction q with
  | zero =>
    intro k hk
    have e : k = 6 := by omega
    subst e
    rw [b143_4, if_pos (by decide), lv_e (k := 6) (fun l hl => (at_ln hl : l < pfl.length))]
  | succ q ih =>
    intro k hk
    have hk6 : k < 6 := by omega
    have h113 : mm_M T 113 (4 * k) = nI (pfl.getD k 0) := (hT.2.2.2.2.2.1 (4 * k) (by omega)).trans (by rw [(wl_f k hk6).2.2.2.1])
    have pb : ∀ k, k < 6 → 0 < pfl.getD k 0 ∧ pfl.getD k 0 < 128 := by decide
    have hp := pb k hk6
    have st : mm_ex (d + 1) 143 4 [.ref 92, .int (lv (ab_at (ps t i) pfl) k), .int (nI k)] [] T = if ab_at (ps t i) pfl = some k then mm_ex (d + 1) 143 25 [.ref 92, .int (lv (ab_at (ps t i) pfl) k), .int (nI k)] [] T else mm_ex (d + 1) 143 29 [.ref 92, .int (lv (ab_at (ps t i) pfl) k), .int (nI k)] [] T := by
      rw [b143_4, if_neg (nI_ge (by omega) (by omega)), b143_10 (wx_k92 hw), s139 hT h36 hi, hp_bd, hp_ts, b143_14 (wx_o92 hw) (wx_s92_33 hw) (by rw [nI_mul, wx_g92_33 hw, wx_N113 hw]; exact hp_inb (by omega) (by omega)) (by rw [wx_g92_33 hw]; exact wx_a113 hw), nI_mul, wx_g92_33 hw, nI_clamp (by omega), h113]
      simp only [sg_eq hT hp.1 hp.2, @at_iff pfl k (ps t i) (by decide) hk6]
    have hih := ih (k + 1) (by omega)
    rw [lv_s] at hih
    rw [st]
    by_cases z : ab_at (ps t i) pfl = some k
    · rw [if_pos z] at hih
      rw [if_pos z, b143_25, nI_add]
      exact hih
    · rw [if_neg z] at hih
      rw [if_neg z, b143_29, nI_add]
      exact hih
theorem s143_w (hw6 : w < 6) : ∀ (A : List Nat) (m i : Nat) (T : mm_S), rt T t → mm_M T 92 36 = nI i → i + A.length < 2 ^ 10 → pwl.getD w [] = (pwl.getD w []).take m ++ A → m + A.length = (pwl.getD w []).length → ∃ U, mm_ex (d + 2) 143 39 [.ref 92, .int (nI w), .int (nI m)] [] T = some (some (.int (if (pw t A i).2 = true then nI w else -1)), U) ∧ r36 T U (pw t A i).1 := by
  have f := wl_f w hw6
  intro A
  induction A with
  | nil =>
    intro m i T hT h36 _ hA hm
    have hw := hT.1
    rw [List.length_nil] at hm
    have h114 : mm_M T 114 w = nI (pwl.getD w []).length := (hT.2.2.2.2.2.2.1 w hw6).trans (by rw [f.1])
    refine ⟨T, ?_, r_rf h36⟩
    rw [b143_39, if_neg (nI_m1 (by omega)), b143_44 (wx_o92 hw) (wx_s92_34 hw) (by rw [wx_g92_34 hw, wx_N114 hw]; exact hp_inb hw6 (by omega)) (by rw [wx_g92_34 hw]; exact wx_a114 hw), wx_g92_34 hw, nI_clamp (by omega), h114, if_pos (nI_le (by omega) (by omega)), b143_79]
    rfl
  | cons x A ih =>
    intro m i T hT h36 hl hA hm
    have hw := hT.1
    rw [List.length_cons] at hm hl
    have hml : m < (pwl.getD w []).length := by omega
    have h114 : mm_M T 114 w = nI (pwl.getD w []).length := (hT.2.2.2.2.2.2.1 w hw6).trans (by rw [f.1])
    have fm := f.2.2.2.2 m hml
    have hio := it_of hA hml
    have hgo : (pwl.getD w []).getD m 0 = x := by rw [List.getD_eq_getElem?_getD, hio]; rfl
    have h113 : mm_M T 113 (4 * w + m) = nI x := (hT.2.2.2.2.2.1 (4 * w + m) (by omega)).trans (by rw [fm.1, hgo])
    rw [hgo] at fm
    obtain ⟨U, g1, g2⟩ := s141 (d := d) hT h36 (by omega) fm.2.1 fm.2.2
    have st : mm_ex (d + 2) 143 39 [.ref 92, .int (nI w), .int (nI m)] [] T = if (if ps t i = x then nI 1 else nI 0) = nI 0 then mm_ex (d + 2) 143 71 [.ref 92, .int (nI w), .int (nI m)] [] U else mm_ex (d + 2) 143 73 [.ref 92, .int (nI w), .int (nI m)] [] U := by
      rw [b143_39, if_neg (nI_m1 (by omega)), b143_44 (wx_o92 hw) (wx_s92_34 hw) (by rw [wx_g92_34 hw, wx_N114 hw]; exact hp_inb hw6 (by omega)) (by rw [wx_g92_34 hw]; exact wx_a114 hw), wx_g92_34 hw, nI_clamp (by omega), h114, if_neg (nI_ge hml (by omega)), b143_54 (wx_o92 hw) (wx_s92_33 hw) (by rw [nI_mul, nI_add, wx_g92_33 hw, wx_N113 hw]; exact hp_inb (by omega) (by omega)) (by rw [wx_g92_33 hw]; exact wx_a113 hw) (wx_k92 hw), nI_mul, nI_add, wx_g92_33 hw, nI_clamp (by omega), h113, g1, hp_bd, hp_ts, b143_68]
    have e : pw t (x :: A) i = if ps t i = x then pw t A (i + 1) else (i, false) := rfl
    rw [e]
    by_cases h : ps t i = x
    · rw [if_pos h] at g2
      rw [if_pos h, if_neg i01] at st
      obtain ⟨V, g3, g4⟩ := ih (m + 1) (i + 1) U (rt_w g2 hT) g2.2.2 (by omega) (by rw [tk1 hio, List.append_assoc]; exact hA) (by omega)
      rw [if_pos h]
      refine ⟨V, ?_, r_tr g2 g4⟩
      rw [st, b143_73, nI_add, g3]
    · rw [if_neg h] at g2
      rw [if_neg h, if_pos rfl] at st
      rw [if_neg h]
      refine ⟨U, ?_, g2⟩
      rw [st, b143_71]
      rfl
end MP6
end
section
/-! ===== how the reference reads: clauses, the whole text ===== -/
section MP7
variable {S T U V : mm_S} {t : List Nat} {d i j k n q s a e m w B K : Nat} {x y : Int32} {W W0 A Q : List Nat} {C C2 N : List ab_T} {v : Value} {o : Option (List ab_T)} {l l2 : List ab_C} {c : ab_C} {p : Option ab_C}
theorem s143 (hT : rt T t) (h36 : mm_M T 92 36 = nI i) (hi : i ≤ 100) : ∃ U, mm_cl (d + 2) 143 [.ref 92] T = some (some (.int (match ab_at (ps t i) pfl with
  | none => -1
  | some w => if (pw t (pwl.getD w []) i).2 = true then nI w else -1)), U) ∧ r36 T U (match ab_at (ps t i) pfl with
  | none => i
  | some w => (pw t (pwl.getD w []) i).1) := by
  have hw := hT.1
  have l1 := s143_l (d := d + 1) hT h36 (by omega) 6 0 rfl
  rw [lv_z] at l1
  have st : mm_cl (d + 2) 143 [.ref 92] T = mm_ex (d + 2) 143 37 [.ref 92, .int (pmo (ab_at (ps t i) pfl)), .int (nI 6)] [] T := by
    rw [e143, b143_0]
    exact l1
  rw [b143_37] at st
  cases h : ab_at (ps t i) pfl with
  | none =>
    refine ⟨T, ?_, r_rf h36⟩
    rw [st, h, b143_39, if_pos (show pmo none = -1 from rfl), b143_79]
    rfl
  | some w =>
    have hw6 : w < 6 := at_ln h
    have f := wl_f w hw6
    obtain ⟨U, g1, g2⟩ := s143_w (d := d) hw6 (pwl.getD w []) 0 i T hT h36 (by omega) (by rw [List.take_zero, List.nil_append]) (Nat.zero_add _)
    refine ⟨U, ?_, g2⟩
    rw [st, h]
    exact g1
theorem rk_36 (h : rk S T l C i) (hr : r36 T U j) : rk S U l C j := by
  obtain ⟨h1, h2, h3, h4, h5⟩ := h
  have g := hr.2.1
  exact ⟨fk_tr h1 (fk_36 hr), (g _ _ (by omega)).trans h2, fun n hn => (g _ _ (by omega)).trans (h3 n hn), (g _ _ (by omega)).trans h4, cq_tr (K := l.length) (fun c j _ _ _ _ => g c j (by omega)) (fun n _ => g _ _ (by omega)) (by omega) (Nat.le_refl _) h5⟩
theorem m150_fin (hS : mm_W S) (h1 : faK S V j) (h2 : mm_M V 92 37 = nI (C ++ N).length) (h3 : cod V (C ++ N)) (h4 : mm_M V 102 6 = nI l.length) (h5 : cq V l 0 C.length) (hl : l.length ≤ 9) (r3 : mm_M V 103 (60 + l.length) = nI w) (r4 : mm_M V 104 (60 + l.length) = nI n) (r5 : mm_M V 105 (60 + l.length) = nI C.length) (hc : (C ++ N).length ≤ 100) : ∃ U, mm_ex (d + 5) 150 91 [.ref 92, .int (nI w), .int (nI n), .int (nI (60 + l.length))] [] V = some (some (.int (nI 1)), U) ∧ rk S U (l ++ [(w, n, N)]) (C ++ N) j := by
  have wV := fk_W h1 hS
  have w1 : mm_W (mm_uM V 106 (60 + l.length) (nI (C ++ N).length)) := wV
  have hcl : C.length + N.length = (C ++ N).length := (List.length_append).symm
  have q1 : faK S (mm_uM V 106 (60 + l.length) (nI (C ++ N).length)) j := fk_tr h1 (fk_u h1.2.2 (by unfold gp_k; omega) (by omega))
  have q2 : faK S (mm_uM (mm_uM V 106 (60 + l.length) (nI (C ++ N).length)) 102 6 (nI (l.length + 1))) j := fk_tr q1 (fk_u q1.2.2 (by unfold gp_k; omega) (by omega))
  refine ⟨mm_uM (mm_uM V 106 (60 + l.length) (nI (C ++ N).length)) 102 6 (nI (l.length + 1)), ?_, q2, (rdn (by omega)).trans ((rdn (by omega)).trans h2), fun n hn => (rdn (by omega)).trans ((rdn (by omega)).trans (h3 n hn)), rds.trans (by rw [la1]), ?_⟩
  · rw [b150_91 (wx_o92 wV) (wx_s92_23 wV) (by rw [wx_g92_23 wV]; exact wx_a106 wV) (by rw [wx_g92_23 wV, wx_N106 wV]; exact hp_inb (by omega) (by omega)) (wx_s92_19 wV), wx_g92_23 wV, wx_g92_19 wV, nI_clamp (by omega), h2, b150_108 (by rw [wx_N102 w1]; rfl) (wx_a102 w1) (wx_a102 w1) (by rw [wx_N102 w1]; rfl), show (nI 6).toNatClampNeg = 6 from rfl, show mm_M (mm_uM V 106 (60 + l.length) (nI (C ++ N).length)) 102 6 = nI l.length from (rdn (by omega)).trans h4, nI_add]
  · refine cq_app (cq_tr (K := l.length) (n := (C ++ N).length) (fun c j _ _ _ _ => (rdn (by omega)).trans (rdn (by omega))) (fun n _ => (rdn (by omega)).trans (rdn (by omega))) (by omega) (by omega) h5) ?_
    rw [Nat.zero_add]
    refine ⟨(rdn (by omega)).trans ((rdn (by omega)).trans r3), (rdn (by omega)).trans ((rdn (by omega)).trans r4), fun _ => ⟨C.length, (by show C.length + N.length ≤ (C ++ N).length; omega), (rdn (by omega)).trans ((rdn (by omega)).trans r5), (rdn (by omega)).trans (rds.trans (by rw [hcl])), ?_⟩⟩
    exact co_of (fun n hn => (rdn (by omega)).trans ((rdn (by omega)).trans (h3 n hn)))
theorem s150 (hT : rt S t) (h : rk S T l C i) (hl : l.length ≤ 9) (hCi : C.length ≤ i) (hi : i ≤ t.length) (p0 : PC t i j p) : (p = none → ∃ U, mm_cl (d + 5) 150 [.ref 92] T = some (some (.int (nI 0)), U) ∧ faK S U j) ∧ (∀ c, p = some c → ∃ U C2, mm_cl (d + 5) 150 [.ref 92] T = some (some (.int (nI 1)), U) ∧ rk S U (l ++ [c]) C2 j ∧ C2.length ≤ j ∧ j ≤ t.length) := by
  have hS := hT.1
  have h100 := hT.2.2.2.1
  have T0 := fk_t h.1 hT
  obtain ⟨U1, g1, g2⟩ := s143 (d := d + 2) T0 h.1.2.2 (by omega)
  have w0 := T0.1
  unfold PC at p0
  cases hw : ab_at (ps t i) pfl with
  | none =>
    rw [hw] at g1 g2 p0
    simp only at g1 g2 p0
    refine ⟨fun _ => ⟨U1, ?_, by rw [p0.1]; exact (rk_36 h g2).1⟩, fun c hc => by rw [p0.2] at hc; cases hc⟩
    rw [e150, b150_0 (wx_k92 w0), g1, hp_bd, hp_ts, b150_4, if_pos rfl, b150_19]
  | some w =>
    have hw6 : w < 6 := at_ln hw
    have f := wl_f w hw6
    rw [hw] at g1 g2 p0
    simp only at g1 g2 p0
    rw [f.2.1, pw_app] at p0
    have n0 : 0 ∉ pwl.getD w [] := by
      have : ∀ w, w < 6 → 0 ∉ pwl.getD w [] := by decide
      exact this w hw6
    have ple := @pw_le t (pwl.getD w []) i n0
    by_cases b1 : (pw t (pwl.getD w []) i).2 = true
    · rw [if_pos b1] at g1 p0
      have K1 := rk_36 h g2
      generalize (pw t (pwl.getD w []) i).1 = a at *
      have T1 := fk_t K1.1 hT
      have w1 := T1.1
      obtain ⟨U2, g3, g4⟩ := s141 (d := d + 3) T1 K1.1.2.2 (by omega) (c := 32) (by decide) (by decide)
      have ew : pw t [32] a = if ps t a = 32 then (a + 1, true) else (a, false) := rfl
      have st : mm_cl (d + 5) 150 [.ref 92] T = if (if ps t a = 32 then nI 1 else nI 0) = nI 0 then mm_ex (d + 5) 150 19 [.ref 92, .int (nI w), .null, .null] [] U2 else mm_ex (d + 5) 150 21 [.ref 92, .int (nI w), .null, .null] [] U2 := by
        rw [e150, b150_0 (wx_k92 w0), g1, hp_bd, hp_ts, b150_4, if_neg (nI_m1 (by omega)), b150_10 (wx_k92 w1), g3, hp_bd, hp_ts, b150_16]
      rw [ew] at p0
      by_cases b2 : ps t a = 32
      · have ain : a < t.length := ps_in (by omega)
        rw [if_pos b2] at g4 st p0
        rw [if_neg i01] at st
        simp only at p0
        rw [if_neg (by simp)] at p0
        have K2 := rk_36 K1 g4
        have T2 := fk_t K2.1 hT
        have w2 := T2.1
        obtain ⟨U3, g5, g6⟩ := s142 (d := d + 2) T2 K2.1.2.2 (by omega)
        have K3 := rk_36 K2 g6
        have nle := @pnu_le t (a + 1)
        have st2 : mm_cl (d + 5) 150 [.ref 92] T = if pmo (pnu t (a + 1)).2 = -1 then mm_ex (d + 5) 150 31 [.ref 92, .int (nI w), .int (pmo (pnu t (a + 1)).2), .null] [] U3 else mm_ex (d + 5) 150 33 [.ref 92, .int (nI w), .int (pmo (pnu t (a + 1)).2), .null] [] U3 := by
          rw [st, b150_21 (wx_k92 w2), g5, hp_bd, hp_ts, b150_25]
        cases hn : (pnu t (a + 1)).2 with
        | none =>
          rw [hn] at st2 p0
          simp only at p0
          rw [if_pos (show pmo none = -1 from rfl)] at st2
          refine ⟨fun _ => ⟨U3, ?_, by rw [p0.1]; exact K3.1⟩, fun c hc => by rw [p0.2] at hc; cases hc⟩
          rw [st2, b150_31]
        | some n =>
          have hn1 := (pnu_n hn).1
          rw [hn] at st2 p0
          simp only at p0
          rw [if_neg (show ¬ pmo (some n) = -1 from nI_m1 (by omega)), show pmo (some n) = nI n from rfl] at st2
          generalize (pnu t (a + 1)).1 = i1 at *
          have T3 := fk_t K3.1 hT
          have w3 := T3.1
          obtain ⟨k1, k2, k3, k4, k5⟩ := K3
          have ck : (nI (60 + l.length)).toNatClampNeg = 60 + l.length := nI_clamp (by omega)
          have bk : mm_inb (nI (60 + l.length)) 70 = true := hp_inb (by omega) (by omega)
          have q1 : faK S (mm_uM U3 103 (60 + l.length) (nI w)) i1 := fk_tr k1 (fk_u k1.2.2 (by unfold gp_k; omega) (by omega))
          have q2 : faK S (mm_uM (mm_uM U3 103 (60 + l.length) (nI w)) 104 (60 + l.length) (nI n)) i1 := fk_tr q1 (fk_u q1.2.2 (by unfold gp_k; omega) (by omega))
          have q3 : faK S (mm_uM (mm_uM (mm_uM U3 103 (60 + l.length) (nI w)) 104 (60 + l.length) (nI n)) 105 (60 + l.length) (nI C.length)) i1 := fk_tr q2 (fk_u q2.2.2 (by unfold gp_k; omega) (by omega))
          have w4 : mm_W (mm_uM (mm_uM U3 103 (60 + l.length) (nI w)) 104 (60 + l.length) (nI n)) := w3
          have st3 : mm_cl (d + 5) 150 [.ref 92] T = if nI 2 ≤ nI w then mm_ex (d + 5) 150 91 [.ref 92, .int (nI w), .int (nI n), .int (nI (60 + l.length))] [] (mm_uM (mm_uM (mm_uM U3 103 (60 + l.length) (nI w)) 104 (60 + l.length) (nI n)) 105 (60 + l.length) (nI C.length)) else mm_ex (d + 5) 150 73 [.ref 92, .int (nI w), .int (nI n), .int (nI (60 + l.length))] [] (mm_uM (mm_uM (mm_uM U3 103 (60 + l.length) (nI w)) 104 (60 + l.length) (nI n)) 105 (60 + l.length) (nI C.length)) := by
            have m37 : mm_M (mm_uM (mm_uM U3 103 (60 + l.length) (nI w)) 104 (60 + l.length) (nI n)) 92 37 = nI C.length := (rdn (by omega)).trans ((rdn (by omega)).trans k2)
            have e6 : (nI 6).toNatClampNeg = 6 := rfl
            rw [st2, b150_33 (wx_o92 w3) (wx_s92_19 w3) (by rw [wx_g92_19 w3, wx_N102 w3]; rfl) (by rw [wx_g92_19 w3]; exact wx_a102 w3) (wx_s92_20 w3) (by rw [wx_g92_20 w3]; exact wx_a103 w3) (by rw [wx_g92_19 w3, e6, k4, nI_add, wx_g92_20 w3, wx_N103 w3]; exact bk) (wx_s92_21 w3) (by rw [wx_g92_21 w3]; exact wx_a104 w3) (by rw [wx_g92_19 w3, e6, k4, nI_add, wx_g92_21 w3, wx_N104 w3]; exact bk) (wx_s92_22 w3), wx_g92_19 w3, wx_g92_20 w3, wx_g92_21 w3, wx_g92_22 w3, e6, k4, nI_add, ck, b150_64 (wx_o92 w4) (wx_a105 w4) (by rw [wx_N105 w4]; exact bk), m37, ck]
          have x2 : mm_M (mm_uM (mm_uM (mm_uM U3 103 (60 + l.length) (nI w)) 104 (60 + l.length) (nI n)) 105 (60 + l.length) (nI C.length)) 92 37 = nI C.length := (rdn (by omega)).trans ((rdn (by omega)).trans ((rdn (by omega)).trans k2))
          have x3 : cod (mm_uM (mm_uM (mm_uM U3 103 (60 + l.length) (nI w)) 104 (60 + l.length) (nI n)) 105 (60 + l.length) (nI C.length)) C := fun n hn => (rdn (by omega)).trans ((rdn (by omega)).trans ((rdn (by omega)).trans (k3 n hn)))
          have x4 : mm_M (mm_uM (mm_uM (mm_uM U3 103 (60 + l.length) (nI w)) 104 (60 + l.length) (nI n)) 105 (60 + l.length) (nI C.length)) 102 6 = nI l.length := (rdn (by omega)).trans ((rdn (by omega)).trans ((rdn (by omega)).trans k4))
          have x5 : cq (mm_uM (mm_uM (mm_uM U3 103 (60 + l.length) (nI w)) 104 (60 + l.length) (nI n)) 105 (60 + l.length) (nI C.length)) l 0 C.length := cq_tr (K := l.length) (fun c j _ _ _ _ => (rdn (by omega)).trans ((rdn (by omega)).trans (rdn (by omega)))) (fun n _ => (rdn (by omega)).trans ((rdn (by omega)).trans (rdn (by omega)))) (by omega) (Nat.le_refl _) k5
          have y3 : mm_M (mm_uM (mm_uM (mm_uM U3 103 (60 + l.length) (nI w)) 104 (60 + l.length) (nI n)) 105 (60 + l.length) (nI C.length)) 103 (60 + l.length) = nI w := (rdn (by omega)).trans ((rdn (by omega)).trans rds)
          have y4 : mm_M (mm_uM (mm_uM (mm_uM U3 103 (60 + l.length) (nI w)) 104 (60 + l.length) (nI n)) 105 (60 + l.length) (nI C.length)) 104 (60 + l.length) = nI n := (rdn (by omega)).trans rds
          have y5 : mm_M (mm_uM (mm_uM (mm_uM U3 103 (60 + l.length) (nI w)) 104 (60 + l.length) (nI n)) 105 (60 + l.length) (nI C.length)) 105 (60 + l.length) = nI C.length := rds
          generalize mm_uM (mm_uM (mm_uM U3 103 (60 + l.length) (nI w)) 104 (60 + l.length) (nI n)) 105 (60 + l.length) (nI C.length) = V at *
          have TV := fk_t q3 hT
          by_cases b3 : w < 2
          · rw [if_neg (nI_ge b3 (by omega)), b150_73 (wx_k92 TV.1)] at st3
            rw [if_pos b3] at p0
            obtain ⟨V2, f1, f2⟩ := s141 (d := d + 3) TV q3.2.2 (by omega) (c := 32) (by decide) (by decide)
            rw [f1, hp_bd, hp_ts, b150_79] at st3
            by_cases b4 : ps t i1 = 32
            · have i1n : i1 < t.length := ps_in (by omega)
              rw [if_pos b4] at f2 p0 st3
              rw [if_neg i01] at st3
              obtain ⟨o', p1, p2⟩ := p0
              have hple := PE_le p1
              have gg := f2.2.1
              have TV2 := rt_w f2 TV
              have z2 : mm_M V2 92 37 = nI C.length := (gg _ _ (by omega)).trans x2
              have z3 : cod V2 C := fun n hn => (gg _ _ (by omega)).trans (x3 n hn)
              obtain ⟨e1, e2⟩ := s149 (d := d) TV2 f2.2.2 z2 z3 (by omega) (by omega) p1
              rw [b150_82 (wx_k92 TV2.1)] at st3
              cases o' with
              | none =>
                obtain ⟨V3, e3, e4⟩ := e1 rfl
                refine ⟨fun _ => ⟨V3, ?_, fk_tr (fk_tr q3 (fk_36 f2)) ⟨e4.1, fun c j hc => e4.2.1 c j (fun z => hc (Or.inl z)), e4.2.2⟩⟩, fun c hc => by rw [p2] at hc; cases hc⟩
                rw [st3, e3, hp_bd, hp_ts, b150_86, if_pos rfl, b150_89]
              | some N =>
                obtain ⟨V3, e3, e4⟩ := e2 N rfl
                refine ⟨(fun hc => by rw [p2] at hc; cases hc), fun c hc => ?_⟩
                rw [p2] at hc
                cases hc
                have qV3 : faK S V3 j := fk_tr (fk_tr q3 (fk_36 f2)) ⟨e4.1, fun c j hc => e4.2.1 c j (fun z => hc (Or.inl z)), e4.2.2.1⟩
                have g3 := e4.2.1
                have hNl := hple.2.2 N rfl
                have hjl := hple.2.1 (by omega)
                have cN : C.length + N.length = (C ++ N).length := (List.length_append).symm
                obtain ⟨V4, e5, e6⟩ := m150_fin (d := d) (C := C) (N := N) (w := w) (n := n) hS qV3 e4.2.2.2.1 e4.2.2.2.2.1 ((g3 _ _ (by unfold gp_x; omega)).trans ((gg _ _ (by omega)).trans x4)) (cq_tr (K := l.length) (fun c j _ _ _ _ => (g3 _ _ (by unfold gp_x; omega)).trans (gg _ _ (by omega))) (fun n hn => by
                  rw [e4.2.2.2.2.1 n (by omega), ga_l hn, x3 n hn]) (by omega) (Nat.le_refl _) x5) hl ((g3 _ _ (by unfold gp_x; omega)).trans ((gg _ _ (by omega)).trans y3)) ((g3 _ _ (by unfold gp_x; omega)).trans ((gg _ _ (by omega)).trans y4)) ((g3 _ _ (by unfold gp_x; omega)).trans ((gg _ _ (by omega)).trans y5)) (by omega)
                refine ⟨V4, C ++ N, ?_, e6, by omega, by omega⟩
                rw [st3, e3, hp_bd, hp_ts, b150_86, if_neg i01, e5]
            · rw [if_neg b4] at f2 p0 st3
              rw [if_pos rfl] at st3
              refine ⟨fun _ => ⟨V2, ?_, by rw [p0.1]; exact fk_tr q3 (fk_36 f2)⟩, fun c hc => by rw [p0.2] at hc; cases hc⟩
              rw [st3, b150_89]
          · rw [if_pos (nI_le (by omega) (by omega))] at st3
            rw [if_neg b3] at p0
            refine ⟨(fun hc => by rw [p0.2] at hc; cases hc), fun c hc => ?_⟩
            rw [p0.2] at hc
            cases hc
            obtain ⟨V4, e5, e6⟩ := m150_fin (d := d) (C := C) (N := []) (w := w) (n := n) hS q3 (by rw [List.append_nil]; exact x2) (by rw [List.append_nil]; exact x3) x4 x5 hl y3 y4 y5 (by rw [List.append_nil]; omega)
            rw [List.append_nil] at e6
            rw [p0.1]
            exact ⟨V4, C, st3.trans e5, e6, by omega, by omega⟩
      · rw [if_neg b2] at g4 st p0
        rw [if_pos rfl] at st
        simp only at p0
        rw [if_pos trivial] at p0
        refine ⟨fun _ => ⟨U2, ?_, by rw [p0.1]; exact (rk_36 K1 g4).1⟩, fun c hc => by rw [p0.2] at hc; cases hc⟩
        rw [st, b150_19]
    · rw [if_neg b1] at g1 p0
      have b1f : (pw t (pwl.getD w []) i).2 = false := by
        cases h : (pw t (pwl.getD w []) i).2 with
        | true => exact absurd h b1
        | false => rfl
      rw [if_pos b1f] at p0
      refine ⟨fun _ => ⟨U1, ?_, by rw [p0.1]; exact (rk_36 h g2).1⟩, fun c hc => by rw [p0.2] at hc; cases hc⟩
      rw [e150, b150_0 (wx_k92 w0), g1, hp_bd, hp_ts, b150_4, if_pos rfl, b150_19]
end MP7
end
section
/-! ===== shop, in the reference ===== -/
section MP8
variable {S T U V : mm_S} {G G2 : gb_G} {t : List Nat} {d i j k n q s a e m w B K h : Nat} {x y z : Int32} {C C2 N : List ab_T} {v : Value} {o : Option (List ab_C)} {l l2 : List ab_C} {c : ab_C} {p : Option ab_C}
theorem s151_l (hT : rt S t) : ∀ (m : Nat) (l : List ab_C) (C : List ab_T) (i : Nat) (T : mm_S), rk S T l C i → m + l.length = 10 → C.length ≤ i → i ≤ t.length → PL t m l i j o → (o = none → ∃ U, mm_ex (d + 6) 151 18 [.ref 92] [] T = some (some (.int (nI j)), U) ∧ faK S U j) ∧ (∀ l2, o = some l2 → ∃ U C2, mm_ex (d + 6) 151 18 [.ref 92] [] T = some (some (.int (-1)), U) ∧ rk S U l2 C2 j ∧ C2.length ≤ 100 ∧ l2.length ≤ 10) := by
  have hS := hT.1
  have h100 := hT.2.2.2.1
  intro m
  induction m with
  | zero => intro l C i T _ _ _ _ p; exact p.elim
  | succ m ih =>
    intro l C i T h hm hCi hi p
    have w0 := (fk_t h.1 hT).1
    rcases p with ⟨p1, p2⟩ | ⟨k, c, p1, p2⟩
    · obtain ⟨U, g1, g2⟩ := (s150 (d := d) hT h (by omega) hCi hi p1).1 rfl
      have wU := fk_W g2 hS
      refine ⟨fun _ => ⟨U, ?_, g2⟩, fun l2 e => by rw [p2] at e; cases e⟩
      rw [b151_18 (wx_k92 w0), g1, hp_bd, hp_ts, b151_22, if_pos rfl, b151_25 (wx_o92 wU), g2.2.2]
    · obtain ⟨U, C2, g1, g2, g3, g4⟩ := (s150 (d := d) hT h (by omega) hCi hi p1).2 c rfl
      have TU := fk_t g2.1 hT
      have wU := TU.1
      have st : mm_ex (d + 6) 151 18 [.ref 92] [] T = if nI k = nI t.length then mm_ex (d + 6) 151 41 [.ref 92] [] U else mm_ex (d + 6) 151 43 [.ref 92] [] U := by
        rw [b151_18 (wx_k92 w0), g1, hp_bd, hp_ts, b151_22, if_neg i01, b151_30 (wx_o92 wU), g2.1.2.2, TU.2.1]
      have e10 : (nI (l ++ [c]).length = nI 10) = ((l ++ [c]).length = 10) := propext (nI_eq (by rw [la1]; omega) (by omega))
      have st2 : k < t.length → mm_ex (d + 6) 151 18 [.ref 92] [] T = if (l ++ [c]).length = 10 then mm_ex (d + 6) 151 64 [.ref 92] [] U else mm_ex (d + 6) 151 55 [.ref 92] [] U := by
        intro hk
        rw [st, if_neg (fun z => by have := (nI_eq (by omega) (by omega)).mp z; omega), b151_43 (wx_o92 wU) (wx_s92_19 wU) (by rw [wx_g92_19 wU, wx_N102 wU]; rfl) (by rw [wx_g92_19 wU]; exact wx_a102 wU), wx_g92_19 wU, show (nI 6).toNatClampNeg = 6 from rfl, g2.2.2.2.1]
        simp only [e10]
      have lc := @la1 _ l c
      rcases p2 with ⟨q1, q2, q3⟩ | ⟨q1, q2, q3, q4⟩ | ⟨q1, q2, q3, q4⟩
      · refine ⟨(fun e => by rw [q3] at e; cases e), fun l2 e => ?_⟩
        rw [q3] at e
        cases e
        subst q2
        refine ⟨U, C2, ?_, g2, by omega, by omega⟩
        rw [st, if_pos (by rw [show j = t.length by omega]), b151_41]
      · subst q3
        refine ⟨fun _ => ?_, (fun l2 e => by rw [q4] at e; cases e)⟩
        by_cases m0 : m = 0
        · refine ⟨U, ?_, g2.1⟩
          rw [st2 q1, if_pos (by omega), b151_64 (wx_o92 wU), g2.1.2.2]
        · have n59 := q2.resolve_left m0
          obtain ⟨V, f1, f2⟩ := s141 (d := d + 4) TU g2.1.2.2 (by omega) (c := 59) (by decide) (by decide)
          rw [if_neg n59] at f1 f2
          have qV := fk_tr g2.1 (fk_36 f2)
          have wV := fk_W qV hS
          refine ⟨V, ?_, qV⟩
          rw [st2 q1, if_neg (by omega), b151_55 (wx_k92 wU), f1, hp_bd, hp_ts, b151_61, if_pos rfl, b151_64 (wx_o92 wV), qV.2.2]
      · obtain ⟨V, f1, f2⟩ := s141 (d := d + 4) TU g2.1.2.2 (by omega) (c := 59) (by decide) (by decide)
        rw [if_pos q3] at f1 f2
        have st3 : mm_ex (d + 6) 151 18 [.ref 92] [] T = mm_ex (d + 6) 151 18 [.ref 92] [] V := by
          rw [st2 q1, if_neg (by omega), b151_55 (wx_k92 wU), f1, hp_bd, hp_ts, b151_61, if_neg i01]
        rw [st3]
        exact ih (l ++ [c]) C2 (k + 1) V (rk_36 g2 f2) (by omega) (by omega) (by omega) q4
theorem s151 (hT : rt S t) (p : PL t 10 [] 0 j o) : (o = none → ∃ U, mm_cl (d + 6) 151 [.ref 92] S = some (some (.int (nI j)), U) ∧ faK S U j) ∧ (∀ l2, o = some l2 → ∃ U C2, mm_cl (d + 6) 151 [.ref 92] S = some (some (.int (-1)), U) ∧ rk S U l2 C2 j ∧ C2.length ≤ 100 ∧ l2.length ≤ 10) := by
  have hw := hT.1
  have q1 : faK S (mm_uM S 92 36 (nI 0)) 0 := ⟨hp_uMw, fun c j hc => rdn (fun z => hc (by unfold gp_k gp_x; omega)), rds⟩
  have q2 : faK S (mm_uM (mm_uM S 92 36 (nI 0)) 92 37 (nI 0)) 0 := fk_tr q1 (fk_u q1.2.2 (by unfold gp_k gp_x; omega) (by omega))
  have q3 : faK S (mm_uM (mm_uM (mm_uM S 92 36 (nI 0)) 92 37 (nI 0)) 102 6 (nI 0)) 0 := fk_tr q2 (fk_u q2.2.2 (by unfold gp_k gp_x; omega) (by omega))
  have st : mm_cl (d + 6) 151 [.ref 92] S = mm_ex (d + 6) 151 18 [.ref 92] [] (mm_uM (mm_uM (mm_uM S 92 36 (nI 0)) 92 37 (nI 0)) 102 6 (nI 0)) := by
    rw [e151, b151_0 (wx_o92 hw) (wx_s92_19 hw) (by rw [wx_g92_19 hw]; exact wx_a102 hw) (by rw [wx_g92_19 hw, wx_N102 hw]; rfl), wx_g92_19 hw]
    rfl
  rw [st]
  exact s151_l hT 10 [] [] 0 _ ⟨q3, (rdn (by omega)).trans rds, fun n hn => absurd hn (Nat.not_lt_zero _), rds, trivial⟩ rfl (Nat.le_refl _) (Nat.zero_le _) p
/-- rows of clauses to their place -/
theorem m152_a (hh : h < 6) (hw : mm_W S) (h17 : mm_M S 92 17 = nI h) : ∀ (q k : Nat) (T : mm_S), k + q = 10 → T = mm_wM S (mm_M T) → (∀ c j, ¬ (103 ≤ c ∧ c ≤ 106 ∧ 10 * h ≤ j ∧ j < 10 * h + 10) → mm_M T c j = mm_M S c j) → (∀ i, i < k → mm_M T 103 (10 * h + i) = mm_M S 103 (60 + i) ∧ mm_M T 104 (10 * h + i) = mm_M S 104 (60 + i) ∧ mm_M T 105 (10 * h + i) = mm_M S 105 (60 + i) ∧ mm_M T 106 (10 * h + i) = mm_M S 106 (60 + i)) → ∃ U, mm_ex d 152 50 [.ref 92, .int x, .int (nI k)] [] T = mm_ex d 152 154 [.ref 92, .int x, .int (nI 10)] [] U ∧ U = mm_wM S (mm_M U) ∧ (∀ c j, ¬ (103 ≤ c ∧ c ≤ 106 ∧ 10 * h ≤ j ∧ j < 10 * h + 10) → mm_M U c j = mm_M S c j) ∧ (∀ i, i < 10 → mm_M U 103 (10 * h + i) = mm_M S 103 (60 + i) ∧ mm_M U 104 (10 * h + i) = mm_M S 104 (60 + i) ∧ mm_M U 105 (10 * h + i) = mm_M S 105 (60 + i) ∧ mm_M U 106 (10 * h + i) = mm_M S 106 (60 + i)) := by
  intro q
  induction q with
  | zero =>
    intro k T hk e hf hc
    have e2 : k = 10 := by omega
    subst e2
    exact ⟨T, by rw [b152_50, if_pos (by decide)], e, hf, hc⟩
  | succ q ih =>
    intro k T hk e hf hc
    have wT : mm_W T := by rw [e]; exact hw
    have t17 : mm_M T 92 17 = nI h := (hf _ _ (by omega)).trans h17
    have ck : (nI (60 + k)).toNatClampNeg = 60 + k := nI_clamp (by omega)
    have bk : mm_inb (nI (60 + k)) 70 = true := hp_inb (by omega) (by omega)
    have cv : (nI (10 * h + k)).toNatClampNeg = 10 * h + k := nI_clamp (by omega)
    have bv : mm_inb (nI (10 * h + k)) 70 = true := hp_inb (by omega) (by omega)
    have st : mm_ex d 152 50 [.ref 92, .int x, .int (nI k)] [] T = mm_ex d 152 50 [.ref 92, .int x, .int (nI (k + 1))] [] (mm_uM (mm_uM (mm_uM (mm_uM T 103 (10 * h + k) (mm_M T 103 (60 + k))) 104 (10 * h + k) (mm_M T 104 (60 + k))) 105 (10 * h + k) (mm_M T 105 (60 + k))) 106 (10 * h + k) (mm_M T 106 (60 + k))) := by
      rw [b152_50, if_neg (nI_ge (by omega) (by omega))]
      simp only [b152_56, b152_86, b152_109, b152_132, wx_o92 wT, wx_k92 wT, wx_q92 wT, wx_g92_1 wT, wx_s92_1 wT, wx_N93 wT, wx_a93 wT, wx_g92_2 wT, wx_s92_2 wT, wx_N94 wT, wx_a94 wT, wx_g92_3 wT, wx_s92_3 wT, wx_N95 wT, wx_a95 wT, wx_g92_4 wT, wx_s92_4 wT, wx_N96 wT, wx_a96 wT, wx_g92_5 wT, wx_s92_5 wT, wx_N97 wT, wx_a97 wT, wx_g92_6 wT, wx_s92_6 wT, wx_N98 wT, wx_a98 wT, wx_g92_7 wT, wx_s92_7 wT, wx_N99 wT, wx_a99 wT, wx_g92_9 wT, wx_s92_9 wT, wx_N100 wT, wx_a100 wT, wx_g92_16 wT, wx_s92_16 wT, wx_N101 wT, wx_a101 wT, wx_g92_19 wT, wx_s92_19 wT, wx_N102 wT, wx_a102 wT, wx_g92_20 wT, wx_s92_20 wT, wx_N103 wT, wx_a103 wT, wx_g92_21 wT, wx_s92_21 wT, wx_N104 wT, wx_a104 wT, wx_g92_22 wT, wx_s92_22 wT, wx_N105 wT, wx_a105 wT, wx_g92_23 wT, wx_s92_23 wT, wx_N106 wT, wx_a106 wT, wx_g92_24 wT, wx_s92_24 wT, wx_N107 wT, wx_a107 wT, wx_g92_25 wT, wx_s92_25 wT, wx_N108 wT, wx_a108 wT, wx_g92_29 wT, wx_s92_29 wT, wx_N109 wT, wx_a109 wT, wx_g92_30 wT, wx_s92_30 wT, wx_N110 wT, wx_a110 wT, wx_g92_31 wT, wx_s92_31 wT, wx_N111 wT, wx_a111 wT, wx_g92_32 wT, wx_s92_32 wT, wx_N112 wT, wx_a112 wT, wx_g92_33 wT, wx_s92_33 wT, wx_N113 wT, wx_a113 wT, wx_g92_34 wT, wx_s92_34 wT, wx_N114 wT, wx_a114 wT, wx_g92_35 wT, wx_s92_35 wT, wx_N115 wT, wx_a115 wT, wx_g92_38 wT, wx_s92_38 wT, wx_N116 wT, wx_a116 wT, wx_g92_41 wT, wx_s92_41 wT, wx_N117 wT, wx_a117 wT, wx_g92_44 wT, wx_s92_44 wT, wx_N118 wT, wx_a118 wT, wx_g92_45 wT, wx_s92_45 wT, wx_N119 wT, wx_a119 wT, wx_g92_46 wT, wx_s92_46 wT, wx_N120 wT, wx_a120 wT, wx_g92_52 wT, wx_s92_52 wT, wx_N121 wT, wx_a121 wT, wx_g92_55 wT, wx_s92_55 wT, wx_N122 wT, wx_a122 wT, wx_g92_56 wT, wx_s92_56 wT, wx_N123 wT, wx_a123 wT, wx_g92_57 wT, wx_s92_57 wT, wx_N124 wT, wx_a124 wT, wx_g92_58 wT, wx_s92_58 wT, wx_N125 wT, wx_a125 wT, wx_g92_64 wT, wx_s92_64 wT, wx_N126 wT, wx_a126 wT, wx_g92_65 wT, wx_s92_65 wT, wx_N127 wT, wx_a127 wT, wx_g92_66 wT, wx_s92_66 wT, wx_N128 wT, wx_a128 wT, wx_g92_67 wT, wx_s92_67 wT, wx_N129 wT, wx_a129 wT, wx_g92_68 wT, wx_s92_68 wT, wx_N130 wT, wx_a130 wT, wx_g92_69 wT, wx_s92_69 wT, wx_N131 wT, wx_a131 wT, wx_g92_70 wT, wx_s92_70 wT, wx_N132 wT, wx_a132 wT, wx_g92_71 wT, wx_s92_71 wT, wx_N133 wT, wx_a133 wT, wx_g92_72 wT, wx_s92_72 wT, wx_N134 wT, wx_a134 wT, wx_g92_73 wT, wx_s92_73 wT, wx_N135 wT, wx_a135 wT, wx_g92_75 wT, wx_s92_75 wT, wx_N136 wT, wx_a136 wT, List.not_mem_nil, false_implies, implies_true, nI_clamp, nI_add, Nat.reducePow, hp_bd, hp_bdi, hp_ts, hp_tn, hp_tsc, hp_tnc, Nat.reduceAdd, Nat.reduceSub, Nat.reduceMul, Nat.reduceLT, Nat.reduceLeDiff, Nat.reduceEqDiff, reduceIte, not_true_eq_false, not_false_eq_true, and_true, true_and, and_self, and_false, false_and, or_true, true_or, or_false, false_or, decide_true, decide_false, Bool.and_true, Bool.true_and, Bool.not_false, Bool.or_false, Bool.false_or, Bool.or_true, Bool.true_or, hp_MuM, hp_LuL, hp_RuR, hp_McpM, hp_LcpL, hp_LuM, hp_RuM, hp_KuM, hp_NuM, hp_nuM, hp_zuM, hp_ouM, hp_auM, hp_kuM, hp_guM, hp_MuL, hp_RuL, hp_KuL, hp_NuL, hp_nuL, hp_zuL, hp_ouL, hp_auL, hp_kuL, hp_guL, hp_MuR, hp_LuR, hp_KuR, hp_NuR, hp_nuR, hp_zuR, hp_ouR, hp_auR, hp_kuR, hp_LcpM, hp_RcpM, hp_KcpM, hp_NcpM, hp_ncpM, hp_zcpM, hp_ocpM, hp_acpM, hp_kcpM, hp_gcpM, hp_McpL, hp_RcpL, hp_KcpL, hp_NcpL, hp_ncpL, hp_zcpL, hp_ocpL, hp_acpL, hp_kcpL, hp_gcpL, hp_MwM, hp_LwM, hp_RwM, hp_KwM, hp_NwM, hp_nwM, hp_zwM, hp_owM, hp_awM, hp_kwM, hp_gwM, hp_MwR, hp_LwR, hp_RwR, hp_KwR, hp_NwR, hp_nwR, hp_zwR, hp_owR, hp_awR, hp_kwR, hp_MwL, hp_LwL, hp_RwL, hp_KwL, hp_NwL, hp_nwL, hp_zwL, hp_owL, hp_awL, hp_kwL, hp_gwL, hp_w2M, hp_w2R, hp_w2L, nI_mul, t17, ck, bk, cv, bv]
    have r : ∀ c j, ¬ (103 ≤ c ∧ c ≤ 106 ∧ j = 10 * h + k) → mm_M (mm_uM (mm_uM (mm_uM (mm_uM T 103 (10 * h + k) (mm_M T 103 (60 + k))) 104 (10 * h + k) (mm_M T 104 (60 + k))) 105 (10 * h + k) (mm_M T 105 (60 + k))) 106 (10 * h + k) (mm_M T 106 (60 + k))) c j = mm_M T c j := fun c j h => (rdn (by omega)).trans ((rdn (by omega)).trans ((rdn (by omega)).trans (rdn (by omega))))
    obtain ⟨U, g1, g2⟩ := ih (k + 1) _ (by omega) (wM_u (wM_u (wM_u (wM_u e)))) (fun c j h => (r c j (by omega)).trans (hf c j h)) (fun i hi => by
      by_cases h2 : i = k
      · subst h2
        exact ⟨(rdn (by omega)).trans ((rdn (by omega)).trans ((rdn (by omega)).trans (rds.trans (hf _ _ (by omega))))), (rdn (by omega)).trans ((rdn (by omega)).trans (rds.trans (hf _ _ (by omega)))), (rdn (by omega)).trans (rds.trans (hf _ _ (by omega))), rds.trans (hf _ _ (by omega))⟩
      · have := hc i (by omega)
        exact ⟨(r _ _ (by omega)).trans this.1, (r _ _ (by omega)).trans this.2.1, (r _ _ (by omega)).trans this.2.2.1, (r _ _ (by omega)).trans this.2.2.2⟩)
    exact ⟨U, st.trans g1, g2⟩
theorem m152_b (hh : h < 6) (hw : mm_W S) (h17 : mm_M S 92 17 = nI h) : ∀ (q k : Nat) (T : mm_S), k + q = 120 → T = mm_wM S (mm_M T) → (∀ c j, ¬ (c = 107 ∧ 120 * h ≤ j ∧ j < 120 * h + 120) → mm_M T c j = mm_M S c j) → (∀ i, i < k → mm_M T 107 (120 * h + i) = mm_M S 107 (720 + i)) → ∃ U, mm_ex d 152 156 [.ref 92, .int x, .int (nI k)] [] T = mm_ex d 152 192 [.ref 92, .int x, .int (nI 120)] [] U ∧ U = mm_wM S (mm_M U) ∧ (∀ c j, ¬ (c = 107 ∧ 120 * h ≤ j ∧ j < 120 * h + 120) → mm_M U c j = mm_M S c j) ∧ (∀ i, i < 120 → mm_M U 107 (120 * h + i) = mm_M S 107 (720 + i)) := by
  intro q
  induction q with
  | zero =>
    intro k T hk e hf hc
    have e2 : k = 120 := by omega
    subst e2
    exact ⟨T, by rw [b152_156, if_pos (by decide)], e, hf, hc⟩
  | succ q ih =>
    intro k T hk e hf hc
    have wT : mm_W T := by rw [e]; exact hw
    have t17 : mm_M T 92 17 = nI h := (hf _ _ (by omega)).trans h17
    have ck : (nI (720 + k)).toNatClampNeg = 720 + k := nI_clamp (by omega)
    have bk : mm_inb (nI (720 + k)) 840 = true := hp_inb (by omega) (by omega)
    have cv : (nI (120 * h + k)).toNatClampNeg = 120 * h + k := nI_clamp (by omega)
    have bv : mm_inb (nI (120 * h + k)) 840 = true := hp_inb (by omega) (by omega)
    have st : mm_ex d 152 156 [.ref 92, .int x, .int (nI k)] [] T = mm_ex d 152 156 [.ref 92, .int x, .int (nI (k + 1))] [] (mm_uM T 107 (120 * h + k) (mm_M T 107 (720 + k))) := by
      rw [b152_156, if_neg (nI_ge (by omega) (by omega))]
      simp only [b152_162, wx_o92 wT, wx_k92 wT, wx_q92 wT, wx_g92_1 wT, wx_s92_1 wT, wx_N93 wT, wx_a93 wT, wx_g92_2 wT, wx_s92_2 wT, wx_N94 wT, wx_a94 wT, wx_g92_3 wT, wx_s92_3 wT, wx_N95 wT, wx_a95 wT, wx_g92_4 wT, wx_s92_4 wT, wx_N96 wT, wx_a96 wT, wx_g92_5 wT, wx_s92_5 wT, wx_N97 wT, wx_a97 wT, wx_g92_6 wT, wx_s92_6 wT, wx_N98 wT, wx_a98 wT, wx_g92_7 wT, wx_s92_7 wT, wx_N99 wT, wx_a99 wT, wx_g92_9 wT, wx_s92_9 wT, wx_N100 wT, wx_a100 wT, wx_g92_16 wT, wx_s92_16 wT, wx_N101 wT, wx_a101 wT, wx_g92_19 wT, wx_s92_19 wT, wx_N102 wT, wx_a102 wT, wx_g92_20 wT, wx_s92_20 wT, wx_N103 wT, wx_a103 wT, wx_g92_21 wT, wx_s92_21 wT, wx_N104 wT, wx_a104 wT, wx_g92_22 wT, wx_s92_22 wT, wx_N105 wT, wx_a105 wT, wx_g92_23 wT, wx_s92_23 wT, wx_N106 wT, wx_a106 wT, wx_g92_24 wT, wx_s92_24 wT, wx_N107 wT, wx_a107 wT, wx_g92_25 wT, wx_s92_25 wT, wx_N108 wT, wx_a108 wT, wx_g92_29 wT, wx_s92_29 wT, wx_N109 wT, wx_a109 wT, wx_g92_30 wT, wx_s92_30 wT, wx_N110 wT, wx_a110 wT, wx_g92_31 wT, wx_s92_31 wT, wx_N111 wT, wx_a111 wT, wx_g92_32 wT, wx_s92_32 wT, wx_N112 wT, wx_a112 wT, wx_g92_33 wT, wx_s92_33 wT, wx_N113 wT, wx_a113 wT, wx_g92_34 wT, wx_s92_34 wT, wx_N114 wT, wx_a114 wT, wx_g92_35 wT, wx_s92_35 wT, wx_N115 wT, wx_a115 wT, wx_g92_38 wT, wx_s92_38 wT, wx_N116 wT, wx_a116 wT, wx_g92_41 wT, wx_s92_41 wT, wx_N117 wT, wx_a117 wT, wx_g92_44 wT, wx_s92_44 wT, wx_N118 wT, wx_a118 wT, wx_g92_45 wT, wx_s92_45 wT, wx_N119 wT, wx_a119 wT, wx_g92_46 wT, wx_s92_46 wT, wx_N120 wT, wx_a120 wT, wx_g92_52 wT, wx_s92_52 wT, wx_N121 wT, wx_a121 wT, wx_g92_55 wT, wx_s92_55 wT, wx_N122 wT, wx_a122 wT, wx_g92_56 wT, wx_s92_56 wT, wx_N123 wT, wx_a123 wT, wx_g92_57 wT, wx_s92_57 wT, wx_N124 wT, wx_a124 wT, wx_g92_58 wT, wx_s92_58 wT, wx_N125 wT, wx_a125 wT, wx_g92_64 wT, wx_s92_64 wT, wx_N126 wT, wx_a126 wT, wx_g92_65 wT, wx_s92_65 wT, wx_N127 wT, wx_a127 wT, wx_g92_66 wT, wx_s92_66 wT, wx_N128 wT, wx_a128 wT, wx_g92_67 wT, wx_s92_67 wT, wx_N129 wT, wx_a129 wT, wx_g92_68 wT, wx_s92_68 wT, wx_N130 wT, wx_a130 wT, wx_g92_69 wT, wx_s92_69 wT, wx_N131 wT, wx_a131 wT, wx_g92_70 wT, wx_s92_70 wT, wx_N132 wT, wx_a132 wT, wx_g92_71 wT, wx_s92_71 wT, wx_N133 wT, wx_a133 wT, wx_g92_72 wT, wx_s92_72 wT, wx_N134 wT, wx_a134 wT, wx_g92_73 wT, wx_s92_73 wT, wx_N135 wT, wx_a135 wT, wx_g92_75 wT, wx_s92_75 wT, wx_N136 wT, wx_a136 wT, List.not_mem_nil, false_implies, implies_true, nI_clamp, nI_add, Nat.reducePow, hp_bd, hp_bdi, hp_ts, hp_tn, hp_tsc, hp_tnc, Nat.reduceAdd, Nat.reduceSub, Nat.reduceMul, Nat.reduceLT, Nat.reduceLeDiff, Nat.reduceEqDiff, reduceIte, not_true_eq_false, not_false_eq_true, and_true, true_and, and_self, and_false, false_and, or_true, true_or, or_false, false_or, decide_true, decide_false, Bool.and_true, Bool.true_and, Bool.not_false, Bool.or_false, Bool.false_or, Bool.or_true, Bool.true_or, hp_MuM, hp_LuL, hp_RuR, hp_McpM, hp_LcpL, hp_LuM, hp_RuM, hp_KuM, hp_NuM, hp_nuM, hp_zuM, hp_ouM, hp_auM, hp_kuM, hp_guM, hp_MuL, hp_RuL, hp_KuL, hp_NuL, hp_nuL, hp_zuL, hp_ouL, hp_auL, hp_kuL, hp_guL, hp_MuR, hp_LuR, hp_KuR, hp_NuR, hp_nuR, hp_zuR, hp_ouR, hp_auR, hp_kuR, hp_LcpM, hp_RcpM, hp_KcpM, hp_NcpM, hp_ncpM, hp_zcpM, hp_ocpM, hp_acpM, hp_kcpM, hp_gcpM, hp_McpL, hp_RcpL, hp_KcpL, hp_NcpL, hp_ncpL, hp_zcpL, hp_ocpL, hp_acpL, hp_kcpL, hp_gcpL, hp_MwM, hp_LwM, hp_RwM, hp_KwM, hp_NwM, hp_nwM, hp_zwM, hp_owM, hp_awM, hp_kwM, hp_gwM, hp_MwR, hp_LwR, hp_RwR, hp_KwR, hp_NwR, hp_nwR, hp_zwR, hp_owR, hp_awR, hp_kwR, hp_MwL, hp_LwL, hp_RwL, hp_KwL, hp_NwL, hp_nwL, hp_zwL, hp_owL, hp_awL, hp_kwL, hp_gwL, hp_w2M, hp_w2R, hp_w2L, nI_mul, t17, ck, bk, cv, bv]
    have r : ∀ c j, ¬ (c = 107 ∧ j = 120 * h + k) → mm_M (mm_uM T 107 (120 * h + k) (mm_M T 107 (720 + k))) c j = mm_M T c j := fun c j h => rdn h
    obtain ⟨U, g1, g2⟩ := ih (k + 1) (mm_uM T 107 (120 * h + k) (mm_M T 107 (720 + k))) (by omega) (wM_u e) (fun c j h => (r c j (by omega)).trans (hf c j h)) (fun i hi => by
      by_cases h2 : i = k
      · subst h2
        exact rds.trans (hf 107 (720 + i) (by omega))
      · exact (r _ _ (by omega)).trans (hc i (by omega)))
    exact ⟨U, st.trans g1, g2⟩
theorem mcl_tr : ∀ {l : List ab_C} {k : Nat}, (∀ c j, 103 ≤ c → c ≤ 106 → 10 * h ≤ j → j < 10 * h + 10 → mm_M U c j = mm_M T c j) → (∀ n, n < 100 → mm_M U 107 (120 * h + n) = mm_M T 107 (120 * h + n)) → k + l.length ≤ 10 → md_cl T h l k → md_cl U h l k := by
  intro l
  induction l with
  | nil => intro k _ _ _ _; exact trivial
  | cons c l ih =>
    intro k g g2 hk hq
    rw [List.length_cons] at hk
    obtain ⟨q1, q2, q3, q4⟩ := hq
    refine ⟨(g _ _ (by omega) (by omega) (by omega) (by omega)).trans q1, (g _ _ (by omega) (by omega) (by omega) (by omega)).trans q2, fun hc => ?_, ih g g2 (by omega) q4⟩
    obtain ⟨f, f1, f2, f3, f4⟩ := q3 hc
    refine ⟨f, by omega, (g _ _ (by omega) (by omega) (by omega) (by omega)).trans f2, (g _ _ (by omega) (by omega) (by omega) (by omega)).trans f3, co_tr (fun n a b => ?_) f4⟩
    have := g2 (n - 120 * h) (by omega)
    rw [show 120 * h + (n - 120 * h) = n by omega] at this
    exact this
theorem co_mv : ∀ {c : List ab_T} {f : Nat}, (∀ n, n < 120 → mm_M U 107 (120 * h + n) = mm_M T 107 (720 + n)) → f + c.length ≤ 120 → md_co T c (720 + f) → md_co U c (120 * h + f) := by
  intro c
  induction c with
  | nil => intro f _ _ _; exact trivial
  | cons x c ih =>
    intro f g hf hc
    rw [List.length_cons] at hf
    exact ⟨(g f (by omega)).trans hc.1, ih (f := f + 1) g (by omega) hc.2⟩
theorem cq_mv : ∀ {l : List ab_C} {k : Nat}, (∀ i, i < 10 → mm_M U 103 (10 * h + i) = mm_M T 103 (60 + i) ∧ mm_M U 104 (10 * h + i) = mm_M T 104 (60 + i) ∧ mm_M U 105 (10 * h + i) = mm_M T 105 (60 + i) ∧ mm_M U 106 (10 * h + i) = mm_M T 106 (60 + i)) → (∀ n, n < 120 → mm_M U 107 (120 * h + n) = mm_M T 107 (720 + n)) → k + l.length ≤ 10 → B ≤ 100 → cq T l k B → md_cl U h l k := by
  intro l
  induction l with
  | nil => intro k _ _ _ _ _; exact trivial
  | cons c l ih =>
    intro k g g2 hk hB hq
    rw [List.length_cons] at hk
    obtain ⟨q1, q2, q3, q4⟩ := hq
    have gk := g k (by omega)
    refine ⟨gk.1.trans q1, gk.2.1.trans q2, fun hc => ?_, ih g g2 (by omega) hB q4⟩
    obtain ⟨f, f1, f2, f3, f4⟩ := q3 hc
    exact ⟨f, by omega, gk.2.2.1.trans f2, gk.2.2.2.trans f3, co_mv g2 (by omega) f4⟩
end MP8
end
section
/-! ===== shop, in the reference: all after it; what an object is stays well ===== -/
/-- cells that shop doesn't touch, h the place -/
def kX (h c j : Nat) : Prop := ¬ (gp_k c j ∨ (c = 92 ∧ (j = 26 ∨ j = 17 ∨ j = 18)) ∨ (c = 102 ∧ j = h) ∨ (103 ≤ c ∧ c ≤ 106 ∧ 10 * h ≤ j ∧ j < 10 * h + 10) ∨ (c = 107 ∧ 120 * h ≤ j ∧ j < 120 * h + 120))
section MP9
variable {S T U V : mm_S} {G G2 : gb_G} {t : List Nat} {d i j k n q s a e m w B K h : Nat} {x y z v : Int32} {C C2 N : List ab_T} {o : Option (List ab_C)} {l l2 : List ab_C} {c : ab_C} {p : Option ab_C} {X : gb_X}
theorem PC_ok (p : PC t i j (some c)) : ab_okC c := by
  unfold PC at p
  cases hw : ab_at (ps t i) pfl with
  | none => rw [hw] at p; cases p.2
  | some w =>
    have hw6 : w < 6 := at_ln hw
    rw [hw] at p
    simp only at p
    split at p
    · cases p.2
    · cases hn : (pnu t (pw t (pws.getD w []) i).1).2 with
      | none => rw [hn] at p; cases p.2
      | some n =>
        have hn1 := (pnu_n hn).1
        rw [hn] at p
        simp only at p
        split at p
        · split at p
          · obtain ⟨o', p1, p2⟩ := p
            cases o' with
            | none => cases p2
            | some c2 =>
              cases p2
              exact ⟨hw6, hn1, fun _ => PE_one p1⟩
          · cases p.2
        · rename_i w2
          have e := p.2
          cases e
          exact ⟨hw6, hn1, fun z => absurd z w2⟩
theorem PC_le (p0 : PC t i j p) (hi : i ≤ t.length) : j ≤ t.length := by
  unfold PC at p0
  cases hw : ab_at (ps t i) pfl with
  | none => rw [hw] at p0; rw [p0.1]; exact hi
  | some w =>
    have hw6 : w < 6 := at_ln hw
    have n0 : ∀ w, w < 6 → 0 ∉ pws.getD w [] := by decide
    have a := (@pw_le t (pws.getD w []) i (n0 w hw6)).2 hi
    have b := (@pnu_le t (pw t (pws.getD w []) i).1).2.1 a
    rw [hw] at p0
    simp only at p0
    split at p0
    · rw [p0.1]; exact a
    · cases hn : (pnu t (pw t (pws.getD w []) i).1).2 with
      | none => rw [hn] at p0; rw [p0.1]; exact b
      | some n =>
        rw [hn] at p0
        simp only at p0
        split at p0
        · split at p0
          · rename_i h32
            obtain ⟨o', p1, p2⟩ := p0
            exact (PE_le p1).2.1 (ps_in (by omega))
          · rw [p0.1]; exact b
        · rw [p0.1]; exact b
theorem PL_le : ∀ (m : Nat) (l : List ab_C) (i : Nat), PL t m l i j o → i ≤ t.length → j ≤ t.length := by
  intro m
  induction m with
  | zero => intro l i p _; exact p.elim
  | succ m ih =>
    intro l i p hi
    rcases p with ⟨p1, p2⟩ | ⟨k, c, p1, p2⟩
    · exact PC_le p1 hi
    · have hk := PC_le p1 hi
      rcases p2 with ⟨q1, q2, q3⟩ | ⟨q1, q2, q3, q4⟩ | ⟨q1, q2, q3, q4⟩
      · omega
      · omega
      · exact ih (l ++ [c]) (k + 1) q4 (by omega)
theorem PL_ok : ∀ (m : Nat) (l : List ab_C) (i : Nat), PL t m l i j (some l2) → m + l.length = 10 → (∀ c ∈ l, ab_okC c) → ab_okS l2 := by
  intro m
  induction m with
  | zero => intro l i p _ _; exact p.elim
  | succ m ih =>
    intro l i p hm hl
    rcases p with ⟨p1, p2⟩ | ⟨k, c, p1, p2⟩
    · cases p2
    · have hc : ∀ c' ∈ l ++ [c], ab_okC c' := fun c' h => by
        rcases List.mem_append.mp h with h | h
        · exact hl c' h
        · rw [List.mem_singleton.mp h]; exact PC_ok p1
      have lc := @la1 _ l c
      rcases p2 with ⟨q1, q2, q3⟩ | ⟨q1, q2, q3, q4⟩ | ⟨q1, q2, q3, q4⟩
      · cases q3
        exact ⟨by omega, hc⟩
      · cases q4
      · exact ih (l ++ [c]) (k + 1) q4 (by omega) hc
theorem ok_st (ok : gb_ok G) : gb_ok (gS_t G []) := ⟨ok.1, ok.2.1, ok.2.2.1, ok.2.2.2.1, Nat.zero_le _, (fun c hc => by cases hc), ok.2.2.2.2.2.2⟩
theorem gx_app (h : gx_ok (gb_s G) X) : gx_ok (gb_s G ++ [l]) X := by
  obtain ⟨h1, h2, h3, h4, h5, h6, h7⟩ := h
  refine ⟨h1, h2, h3, h4, h5, ?_, h7⟩
  cases hh : gx_h X with
  | none => rw [hh] at h6; exact h6
  | some q =>
    rw [hh] at h6
    exact ⟨by rw [la1]; have := h6.1; omega, h6.2.trans (ga_l h6.1).symm⟩
theorem ok_8 (ok : gb_ok G) (p : PS G v G2) : gb_ok G2 := by
  unfold PS at p
  by_cases h6 : (gb_s G).length = 6
  · rw [if_pos h6] at p
    rw [p.2]; exact ok
  · rw [if_neg h6] at p
    obtain ⟨j, o, p1, p2⟩ := p
    cases o with
    | none => rw [p2.2]; exact ok_st ok
    | some l =>
      rw [p2.2]
      have okl : ab_okS l := PL_ok 10 [] 0 p1 rfl (fun c hc => by cases hc)
      obtain ⟨⟨⟨o1, o2, o3, o4, o5, o6⟩, oD, h3, h4, h5, -, -⟩, k2, k3, k4, k5, k6, k7⟩ := ok
      refine ⟨⟨⟨o1, ?_, okl, o4, o5, o6⟩, oD, h3, h4, h5, ⟨by show (gb_s G).length < (gb_s G ++ [l]).length; rw [la1]; omega, ga_r.symm⟩, rfl⟩, fun Y hY => gx_app (k2 Y hY), by show (gb_s G ++ [l]).length ≤ 6; rw [la1]; omega, fun l2 hl2 => ?_, Nat.zero_le _, (fun c hc => by cases hc), k7⟩
      · exact ab_law_lt (fun c hc => (okl.2 c hc).2.1) (by decide)
      · rcases List.mem_append.mp hl2 with h | h
        · exact k4 l2 h
        · rw [List.mem_singleton.mp h]; exact okl
theorem sh_k (g : ∀ c j, kX k c j → mm_M T c j = mm_M S c j) (h18 : mm_M T 92 18 = mm_M S 92 18) {r : Option Nat} (hl : l.length ≤ 10) (hr : ∀ q, r = some q → q ≠ k) (hs : md_sh S r l) : md_sh T r l := by
  cases r with
  | none => exact ⟨h18.trans hs.1, hs.2⟩
  | some q =>
    have nq := hr q rfl
    obtain ⟨q1, q2, q3, q4⟩ := hs
    exact ⟨q1, h18.trans q2, (g _ _ (by unfold kX gp_k gp_x; omega)).trans q3, mcl_tr (fun c j _ _ _ _ => g c j (by unfold kX gp_k gp_x; omega)) (fun n hn => g _ _ (by unfold kX gp_k gp_x; omega)) (by omega) q4⟩
/-- the rest of an object, when a text was read -/
theorem RM_8 (ok : gb_ok G) (hR : RM S G) (hk : k ≤ 6) (g : ∀ c j, kX k c j → mm_M T c j = mm_M S c j) (gL : ∀ j, mm_L T 112 j = mm_L S 112 j) : md_D T (ab_kn (gP G)) (gD G) ∧ (mm_M T 92 0 = nI (ab_kn (gP G)) ∧ (∀ b, b < ab_kn (gP G) → mm_M T 93 b = nI (ab_ki (gP G) b) ∧ mm_M T 94 b = nI (ab_v (gP G) b) ∧ mm_M T 95 b = nI (ab_wo (gP G) b) ∧ mm_M T 96 b = md_fo (ab_fr (gP G) b)) ∧ ∀ i, i < 3 * ab_kn (gP G) → mm_M T 99 i = nI (ab_te (gP G) i)) ∧ mm_M T 92 14 = nI (gx_s G.1) ∧ mm_M T 92 15 = nI (gx_f G.1).length ∧ (∀ i, i < (gx_f G.1).length → mm_M T 101 i = nI ((gx_f G.1).getD i 0)) ∧ mm_M T 92 27 = -1 ∧ gm_i T (gb_i G) ∧ gm_p T (gb_p G) ∧ gm_r T (gb_r G) ∧ gm_c T := by
  obtain ⟨hw, ⟨⟨p1, p2, p3, -, -⟩, ⟨d1, d2, d3, d4, d5, d6, d7, d8⟩, h14, h15, hf, h18, h27⟩, hi, -, -, hp, hr, hc⟩ := hR
  have z : ∀ c j, (c = 92 ∧ j < 17) ∨ (c = 92 ∧ 19 ≤ j ∧ j < 26) ∨ (c = 92 ∧ 27 ≤ j ∧ j < 36) ∨ (c = 92 ∧ 41 ≤ j) ∨ (93 ≤ c ∧ c ≤ 101) ∨ (109 ≤ c ∧ c ≤ 115) ∨ 117 ≤ c → mm_M T c j = mm_M S c j := fun c j q => g c j (by unfold kX gp_k gp_x; omega)
  refine ⟨⟨(z _ _ (by omega)).trans d1, fun p hp => (z _ _ (by omega)).trans (d2 p hp), fun b hb => (z _ _ (by omega)).trans (d3 b hb), fun b hb => (z _ _ (by omega)).trans (d4 b hb), (z _ _ (by omega)).trans d5, (z _ _ (by omega)).trans d6, (z _ _ (by omega)).trans d7, (z _ _ (by omega)).trans d8⟩, ⟨(z _ _ (by omega)).trans p1, fun b hb => ?_, fun i hi => (z _ _ (by omega)).trans (p3 i hi)⟩, (z _ _ (by omega)).trans h14, (z _ _ (by omega)).trans h15, fun i hi => (z _ _ (by omega)).trans (hf i hi), (z _ _ (by omega)).trans h27, mt_i (fun c j q => z c j (by omega)) hi, mt_p (fun c j q => z c j (by omega)) gL hp, mt_r (fun c j q => ?_) hr, mt_c (fun c j q => z c j (by omega)) hc⟩
  · obtain ⟨q1, q2, q3, q4⟩ := p2 b hb
    exact ⟨(z _ _ (by omega)).trans q1, (z _ _ (by omega)).trans q2, (z _ _ (by omega)).trans q3, (z _ _ (by omega)).trans q4⟩
  · exact z c j (by omega)
theorem RM_t0 (ok : gb_ok G) (hR : RM S G) (hw : mm_W T) (g : ∀ c j, ¬ (gp_k c j ∨ (c = 92 ∧ j = 26)) → mm_M T c j = mm_M S c j) (gL : ∀ j, mm_L T 112 j = mm_L S 112 j) (h26 : mm_M T 92 26 = nI 0) : RM T (gS_t G []) := by
  have g6 : ∀ c j, kX 6 c j → mm_M T c j = mm_M S c j := fun c j q => g c j (fun z => q (z.elim Or.inl (fun y => Or.inr (Or.inl ⟨y.1, Or.inl y.2⟩))))
  obtain ⟨a1, ⟨a2, a3, a4⟩, a5, a6, a7, a8, a9, a10, a11, a12⟩ := RM_8 ok hR (Nat.le_refl 6) g6 gL
  have hl10 : (ab_sh (gP G)).length ≤ 10 := ok.1.1.2.2.1.1
  obtain ⟨-, ⟨⟨-, -, -, ⟨r, hr⟩, h27⟩, -, -, -, -, h18, -⟩, -, ⟨hs1, hs2⟩, -⟩ := hR
  have t18 : mm_M T 92 18 = mm_M S 92 18 := g _ _ (by unfold gp_k gp_x; omega)
  have t27 : mm_M T 92 27 = mm_M S 92 27 := g _ _ (by unfold gp_k gp_x; omega)
  refine ⟨hw, ⟨⟨a2, a3, a4, ⟨r, sh_k g6 t18 hl10 (fun q hq => ?_) hr⟩, by rw [t27]; exact h27⟩, a1, a5, a6, a7, t18.trans h18, a8⟩, a9, ⟨(g _ _ (by unfold gp_k gp_x; omega)).trans hs1, fun h hh => ?_⟩, ⟨h26, fun i hi => absurd hi (Nat.not_lt_zero _)⟩, a10, a11, a12⟩
  · rw [hq] at hr
    have := hr.1
    omega
  · have hh : h < (gb_s G).length := hh
    have hlen := ok.2.2.1
    have hok := ok.2.2.2.1 ((gb_s G).getD h []) (by rw [List.getD_eq_getElem?_getD, List.getElem?_eq_getElem hh]; exact List.getElem_mem hh)
    have hok1 : ((gb_s (gS_t G [])).getD h []).length ≤ 10 := hok.1
    exact ⟨(g _ _ (by unfold gp_k gp_x; omega)).trans (hs2 h hh).1, mcl_tr (fun c j _ _ _ _ => g c j (by unfold gp_k gp_x; omega)) (fun n hn => g _ _ (by unfold gp_k gp_x; omega)) (by omega) (hs2 h hh).2⟩
theorem m_8 (ok : gb_ok G) (hR : RM S G) (p : PS G v G2) : oM S (d + 7) 152 [.ref 92] (.int v) G2 := by
  have hw := hR.1
  have h17 : mm_M S 92 17 = nI (gb_s G).length := hR.2.2.2.1.1
  have hT : rt S (gb_t G) := ⟨hw, hR.2.2.2.2.1.1, hR.2.2.2.2.1.2, ok.2.2.2.2.1, ok.2.2.2.2.2.1, hR.2.2.2.2.2.2.2⟩
  have hl6 := ok.2.2.1
  unfold PS at p
  by_cases h6 : (gb_s G).length = 6
  · rw [if_pos h6] at p
    rw [p.1, p.2]
    refine oM_id hR ?_
    rw [e152, b152_0 (wx_o92 hw), h17, if_pos (by rw [h6]), b152_9]
  rw [if_neg h6] at p
  have hlt : (gb_s G).length < 6 := by omega
  obtain ⟨j, o, p1, p2⟩ := p
  obtain ⟨e1, e2⟩ := s151 (d := d) hT p1
  have st : mm_cl (d + 7) 152 [.ref 92] S = mm_bd (mm_cl (d + 6) 151 [.ref 92] S) (fun u S2 => mm_ex (d + 7) 152 16 [.ref 92, .null, .null] (u.toList ++ []) S2) := by
    rw [e152, b152_0 (wx_o92 hw), h17, if_neg (fun z => h6 ((nI_eq (by omega) (by omega)).mp z)), b152_12 (wx_k92 hw)]
  have g0 : ∀ {U : mm_S}, sf_f (fun c j => ¬ kX (gb_s G).length c j) S U → sf_f gm_0 S U := fun h => sf_mo h (fun c j q => by unfold kX gp_k gp_x at q; unfold gm_0; omega)
  cases o with
  | none =>
    obtain ⟨U, g1, g2⟩ := e1 rfl
    have wU := fk_W g2 hw
    have hj := PL_le 10 [] 0 p1 (Nat.zero_le _)
    have h100 := hT.2.2.2.1
    have jm : ¬ nI j = -1 := nI_m1 (by omega)
    rw [p2.1, p2.2]
    have fr : ∀ c j, ¬ (gp_k c j ∨ (c = 92 ∧ j = 26)) → mm_M (mm_uM U 92 26 (nI 0)) c j = mm_M S c j := fun c j hc => (rdn (fun z => hc (Or.inr z))).trans (g2.2.1 c j (fun z => hc (Or.inl z)))
    have eU := wM_u (c := 92) (j := 26) (x := nI 0) g2.1
    refine ⟨mm_uM U 92 26 (nI 0), ?_, RM_t0 ok hR wU fr (fun j => by rw [eU]; rfl) rds, ⟨fun c j hc => ⟨fr c j (fun z => hc (by unfold gp_k gp_x at z; unfold gm_0; omega)), by rw [eU]; rfl, by rw [eU]; rfl⟩, fun c _ => ⟨by rw [eU]; rfl, by rw [eU]; rfl⟩, by rw [eU]; exact Nat.le_refl _⟩, by rw [eU]; rfl, by rw [eU]; rfl⟩
    rw [st, g1, hp_bd, hp_ts, b152_16 (wx_o92 wU), if_neg jm, b152_27]
  | some l =>
    obtain ⟨U, C, g1, g2, g3, g4⟩ := e2 l rfl
    obtain ⟨k1, k2, k3, k4, k5⟩ := g2
    have wU := fk_W k1 hw
    rw [p2.1, p2.2]
    generalize hh : (gb_s G).length = h at *
    have m17 : mm_M (mm_uM U 92 26 (nI 0)) 92 17 = nI h := (rdn (by omega)).trans ((k1.2.1 _ _ (by unfold gp_k gp_x; omega)).trans h17)
    have m6 : mm_M (mm_uM U 92 26 (nI 0)) 102 6 = nI l.length := (rdn (by omega)).trans k4
    have w0 : mm_W (mm_uM U 92 26 (nI 0)) := wU
    have w1 : mm_W (mm_uM (mm_uM U 92 26 (nI 0)) 102 h (nI l.length)) := wU
    have st2 : mm_cl (d + 7) 152 [.ref 92] S = mm_ex (d + 7) 152 50 [.ref 92, .int (-1), .int (nI 0)] [] (mm_uM (mm_uM U 92 26 (nI 0)) 102 h (nI l.length)) := by
      rw [st, g1, hp_bd, hp_ts, b152_16 (wx_o92 wU), if_pos rfl, b152_32 (wx_o92 w0) (wx_s92_19 w0) (by rw [wx_g92_19 w0, wx_N102 w0]; rfl) (by rw [wx_g92_19 w0]; exact wx_a102 w0) (by rw [m17, wx_g92_19 w0, wx_N102 w0]; exact hp_inb (by omega) (by omega)), m17, wx_g92_19 w0, nI_clamp (by omega), show (nI 6).toNatClampNeg = 6 from rfl, m6]
    have q17 : mm_M (mm_uM (mm_uM U 92 26 (nI 0)) 102 h (nI l.length)) 92 17 = nI h := (rdn (by omega)).trans m17
    obtain ⟨V2, a1, a2, a3, a4⟩ := m152_a (d := d + 7) (x := -1) hlt w1 q17 10 0 _ rfl rfl (fun _ _ _ => rfl) (fun i hi => absurd hi (Nat.not_lt_zero _))
    have w2 : mm_W V2 := by rw [a2]; exact w1
    have r17 : mm_M V2 92 17 = nI h := (a3 _ _ (by omega)).trans q17
    obtain ⟨V3, b1, b2, b3, b4⟩ := m152_b (d := d + 7) (x := -1) hlt w2 r17 120 0 _ rfl rfl (fun _ _ _ => rfl) (fun i hi => absurd hi (Nat.not_lt_zero _))
    have w3 : mm_W V3 := by rw [b2]; exact w2
    have u17 : mm_M V3 92 17 = nI h := (b3 _ _ (by omega)).trans r17
    have w4 : mm_W (mm_uM V3 92 18 (nI h)) := w3
    have w5 : mm_W (mm_uM (mm_uM V3 92 18 (nI h)) 92 17 (nI (h + 1))) := w3
    have run : mm_cl (d + 7) 152 [.ref 92] S = some (some (.int (nI h)), mm_uM (mm_uM V3 92 18 (nI h)) 92 17 (nI (h + 1))) := by
      rw [st2, a1, b152_154, b1, b152_192 (wx_o92 w3), u17, b152_202 (wx_o92 w4) (wx_o92 w4), show mm_M (mm_uM V3 92 18 (nI h)) 92 17 = nI h from (rdn (by omega)).trans u17, nI_add, b152_211 (wx_o92 w5), show mm_M (mm_uM (mm_uM V3 92 18 (nI h)) 92 17 (nI (h + 1))) 92 18 = nI h from (rdn (by omega)).trans rds]
    have e1' : mm_uM (mm_uM U 92 26 (nI 0)) 102 h (nI l.length) = mm_wM S (mm_M (mm_uM (mm_uM U 92 26 (nI 0)) 102 h (nI l.length))) := wM_u (wM_u k1.1)
    have e2' : V2 = mm_wM S (mm_M V2) := by
      have e := a2
      rw [e1'] at e
      exact e
    have e3' : V3 = mm_wM S (mm_M V3) := by
      have e := b2
      rw [e2'] at e
      exact e
    have eV := wM_u (c := 92) (j := 17) (x := nI (h + 1)) (wM_u (c := 92) (j := 18) (x := nI h) e3')
    have fr : ∀ c j, kX h c j → mm_M (mm_uM (mm_uM V3 92 18 (nI h)) 92 17 (nI (h + 1))) c j = mm_M S c j := by
      intro c j q
      unfold kX at q
      rw [rdn (fun z => q (by omega)), rdn (fun z => q (by omega)), b3 c j (fun z => q (by omega)), a3 c j (fun z => q (by omega)), rdn (fun z => q (by omega)), rdn (fun z => q (by omega))]
      exact k1.2.1 c j (fun z => q (Or.inl z))
    have m18 : mm_M (mm_uM (mm_uM V3 92 18 (nI h)) 92 17 (nI (h + 1))) 92 18 = nI h := (rdn (by omega)).trans rds
    have m26 : mm_M (mm_uM (mm_uM V3 92 18 (nI h)) 92 17 (nI (h + 1))) 92 26 = nI 0 := (rdn (by omega)).trans ((rdn (by omega)).trans ((b3 _ _ (by omega)).trans ((a3 _ _ (by omega)).trans ((rdn (by omega)).trans rds))))
    have m102 : mm_M (mm_uM (mm_uM V3 92 18 (nI h)) 92 17 (nI (h + 1))) 102 h = nI l.length := (rdn (by omega)).trans ((rdn (by omega)).trans ((b3 _ _ (by omega)).trans ((a3 _ _ (by omega)).trans rds)))
    have hcl : md_cl (mm_uM (mm_uM V3 92 18 (nI h)) 92 17 (nI (h + 1))) h l 0 := by
      refine cq_mv (T := mm_uM (mm_uM U 92 26 (nI 0)) 102 h (nI l.length)) (B := C.length) (fun i hi => ?_) (fun n hn => ?_) (by omega) g3 (cq_tr (K := 10) (fun c j _ _ _ _ => (rdn (by omega)).trans (rdn (by omega))) (fun n _ => (rdn (by omega)).trans (rdn (by omega))) (by omega) (Nat.le_refl _) k5)
      · have := a4 i hi
        exact ⟨(rdn (by omega)).trans ((rdn (by omega)).trans ((b3 _ _ (by omega)).trans this.1)), (rdn (by omega)).trans ((rdn (by omega)).trans ((b3 _ _ (by omega)).trans this.2.1)), (rdn (by omega)).trans ((rdn (by omega)).trans ((b3 _ _ (by omega)).trans this.2.2.1)), (rdn (by omega)).trans ((rdn (by omega)).trans ((b3 _ _ (by omega)).trans this.2.2.2))⟩
      · exact (rdn (by omega)).trans ((rdn (by omega)).trans ((b4 n hn).trans (a3 _ _ (by omega))))
    obtain ⟨c1, ⟨c2, c3, c4⟩, c5, c6, c7, c8, c9, c10, c11, c12⟩ := RM_8 ok hR (show h ≤ 6 by omega) fr (fun j => by rw [eV]; rfl)
    obtain ⟨-, -, -, ⟨-, hs2⟩, -⟩ := hR
    refine ⟨_, run, ⟨w5, ⟨⟨c2, c3, c4, ⟨some h, hlt, m18, m102, hcl⟩, Or.inl ⟨c8, rfl⟩⟩, c1, c5, c6, c7, ?_, c8⟩, c9, ⟨?_, fun q hq => ?_⟩, ⟨m26, fun i hi => absurd hi (Nat.not_lt_zero _)⟩, c10, c11, c12⟩, ⟨fun c j hc => ⟨fr c j (by unfold gm_0 at hc; unfold kX gp_k gp_x; omega), by rw [eV]; rfl, by rw [eV]; rfl⟩, fun c _ => ⟨by rw [eV]; rfl, by rw [eV]; rfl⟩, by rw [eV]; exact Nat.le_refl _⟩, by rw [eV]; rfl, by rw [eV]; rfl⟩
    · show _ = gm_ho (some (gb_s G).length)
      rw [m18, hh]
      rfl
    · show _ = nI (gb_s G ++ [l]).length
      rw [rds, la1, hh]
    · have hq2 : q < (gb_s G ++ [l]).length := hq
      rw [la1, hh] at hq2
      show mm_M _ 102 q = nI ((gb_s G ++ [l]).getD q []).length ∧ md_cl _ q ((gb_s G ++ [l]).getD q []) 0
      by_cases qh : q = h
      · subst qh
        rw [← hh, ga_r]
        rw [hh]
        exact ⟨m102, hcl⟩
      · have hq3 : q < (gb_s G).length := by omega
        rw [ga_l hq3]
        have hok := ok.2.2.2.1 ((gb_s G).getD q []) (by rw [List.getD_eq_getElem?_getD, List.getElem?_eq_getElem hq3]; exact List.getElem_mem hq3)
        have hok1 : ((gb_s G).getD q []).length ≤ 10 := hok.1
        have hx := hs2 q (by omega)
        exact ⟨(fr _ _ (by unfold kX gp_k gp_x; omega)).trans hx.1, mcl_tr (fun c j _ _ _ _ => fr c j (by unfold kX gp_k gp_x; omega)) (fun n hn => fr _ _ (by unfold kX gp_k gp_x; omega)) (by omega) hx.2⟩
end MP9
end
section
/-! ===== the strings of the class ===== -/
def stl : List (List Nat) := [[59], [109, 111, 114, 101, 32], [99, 111, 115, 116, 32], [117, 112, 32], [100, 111, 119, 110, 32], [97, 119, 97, 121, 32], [102, 101, 101, 32], [], [32], [41], [98, 107, 112, 108, 114, 97, 102], [60, 61, 62]]
def stg (q : Nat) : List Nat := stl.getD q []
def sta (q : Nat) : Nat := 1000000 + 2 * q
section CST
variable {S T U : mm_S} {d i j k n q c : Nat} {x y : Int32} {l : List Nat}
theorem c12 (hq : q < 12) : q = 0 ∨ q = 1 ∨ q = 2 ∨ q = 3 ∨ q = 4 ∨ q = 5 ∨ q = 6 ∨ q = 7 ∨ q = 8 ∨ q = 9 ∨ q = 10 ∨ q = 11 := by omega
theorem st_S (hq : q < 12) : mm_isS (sta q) = true := by
  rcases c12 hq with rfl | rfl | rfl | rfl | rfl | rfl | rfl | rfl | rfl | rfl | rfl | rfl <;> decide
theorem st_B (hq : q < 12) : mm_isB (sta q + 1) = true := by
  rcases c12 hq with rfl | rfl | rfl | rfl | rfl | rfl | rfl | rfl | rfl | rfl | rfl | rfl <;> decide
theorem st_b (hq : q < 12) : mm_by (sta q + 1) = (stg q).map nI := by
  rcases c12 hq with rfl | rfl | rfl | rfl | rfl | rfl | rfl | rfl | rfl | rfl | rfl | rfl <;> decide
theorem st_l : ∀ q, q < 12 → (stg q).length ≤ 7 ∧ ∀ i, i < (stg q).length → 0 < (stg q).getD i 0 ∧ (stg q).getD i 0 < 128 := by decide
theorem st_ln (hq : q < 12) : (mm_by (sta q + 1)).length = (stg q).length := by rw [st_b hq, List.length_map]
theorem st_g (hq : q < 12) (hi : i < (stg q).length) : (mm_by (sta q + 1)).getD i 0 = nI ((stg q).getD i 0) := by
  rw [st_b hq, List.getD_eq_getElem?_getD, List.getElem?_map, List.getD_eq_getElem?_getD, List.getElem?_eq_getElem hi]
  rfl
theorem st_k (hn : mm_n S < 1000000) (hq : q < 12) : mm_rk S (sta q) = 100 := by
  rw [hn_k, if_neg (by unfold sta; omega), if_pos (st_S hq)]
theorem st_nk (hn : mm_n S < 1000000) : (decide (sta q + 1 < mm_n S) && decide (13 ≤ mm_K S (sta q + 1)) && decide (mm_K S (sta q + 1) < 19)) = false := by
  rw [decide_eq_false (by unfold sta; omega), Bool.false_and, Bool.false_and]
theorem st_na (hn : mm_n S < 1000000) : mm_arr S (sta q + 1) 15 = false := by
  rw [hn_a, decide_eq_false (by unfold sta; omega), Bool.false_and]
theorem s217 (hq : q < 12) : mm_cl d 217 [.ref (sta q)] S = some (some (.int (nI 0)), S) := by
  rw [e217, b217_0, if_neg i01, b217_6 (st_S hq)]
theorem s218 (hq : q < 12) : mm_cl d 218 [.ref (sta q)] S = some (some (.int (nI 1)), S) := by
  rw [e218, b218_0, if_neg i01, b218_6 (st_S hq), if_pos rfl, b218_13]
theorem s212 (hn : mm_n S < 1000000) (hq : q < 12) : mm_cl (d + 1) 212 [.ref (sta q)] S = some (some (.int (nI (stg q).length)), S) := by
  have e : ∀ m, m < 8 → nI m >>> (nI 0 &&& 31) = nI m := by decide
  have hl := (st_l q hq).1
  rw [e212, b212_0 (st_S hq) (st_nk hn) (st_B hq) (st_k hn hq), s217 hq, hp_bd, hp_tsc, b212_9, st_ln hq, e _ (by omega)]
theorem s213 (hn : mm_n S < 1000000) (hq : q < 12) : mm_cl d 213 [.ref (sta q)] S = some (some (.int (if (stg q).length = 0 then nI 1 else nI 0)), S) := by
  have hl := (st_l q hq).1
  rw [e213, b213_0 (st_S hq) (st_nk hn) (st_B hq), st_ln hq]
  by_cases h : (stg q).length = 0
  · rw [if_pos (by rw [h]), if_pos h, b213_8]
  · rw [if_neg (fun e => h ((nI_eq (by omega) (by omega)).mp e)), if_neg h, b213_12]
theorem f224_0 {x0 x1 : Int32} : mm_ex d 224 0 [.int x0, .int x1, mm_FM] [] S = if x0 < nI 0 then mm_ex d 224 9 [.int x0, .int x1, mm_FM] [] S else mm_ex d 224 4 [.int x0, .int x1, mm_FM] [] S :=
  Eq.trans (mx_iload_n t224 d224_0 (x := x0) rfl) <|
  (mx_ilt t224 d224_1 (tgt := 9) (by decide))
theorem f224_4 {x0 x1 : Int32} : mm_ex d 224 4 [.int x0, .int x1, mm_FM] [] S = if x0 < x1 then mm_ex d 224 16 [.int x0, .int x1, mm_FM] [] S else mm_ex d 224 9 [.int x0, .int x1, mm_FM] [] S :=
  Eq.trans (mx_iload_n t224 d224_4 (x := x0) rfl) <|
  Eq.trans (mx_iload_n t224 d224_5 (x := x1) rfl) <|
  (mx_clt t224 d224_6 (tgt := 16) (by decide))
theorem f224_16 {x0 x1 : Int32} : mm_ex d 224 16 [.int x0, .int x1, mm_FM] [] S = some (some (.int x0), S) :=
  Eq.trans (mx_iload_n t224 d224_16 (x := x0) rfl) <|
  (mx_iret t224 d224_17 (ty := .int) rfl rfl (fun h => nomatch h))
theorem f224 {x0 x1 : Int32} : mm_cl d 224 [.int x0, .int x1, mm_FM] S = mm_ex d 224 0 [.int x0, .int x1, mm_FM] [] S := mm_cl_eq t224 (Nat.le_of_ble_eq_true rfl) rfl
theorem s219 (hi : i < n) (hn : n < 2 ^ 30) : mm_cl (d + 1) 219 [.int (nI i), .int (nI n)] S = some (none, S) := by
  rw [e219, b219_0, f224, f224_0, if_neg (nI_n0 (by omega)), f224_4, if_pos (nI_lt hi (by omega)), f224_16, hp_bd, hp_ts, b219_8]
theorem s214 (hn : mm_n S < 1000000) (hq : q < 12) (hi : i < (stg q).length) : mm_cl (d + 3) 214 [.ref (sta q), .int (nI i)] S = some (some (.int (nI ((stg q).getD i 0))), S) := by
  have hl := (st_l q hq).1
  have h2 := (st_l q hq).2 i hi
  have ci : (nI i).toNatClampNeg = i := nI_clamp (by omega)
  have e : ∀ m, m < 128 → ((nI m &&& nI 255).toUInt32 % 65536).toInt32 = nI m ∧ narrow .char (.int (nI m)) = .int (nI m) := by decide
  have eb := e _ h2.2
  rw [e214, b214_0 (st_k hn hq), s218 hq, hp_bd, hp_ts, b214_4, if_neg i01, b214_7 (st_S hq), e220, b220_0 (st_nk hn) (st_B hq), st_ln hq, s219 hi (by omega), hp_bd, hp_tn, b220_6 (st_na hn) (st_B hq) (by rw [st_ln hq]; exact hp_inb hi (by omega)) (by rw [ci, st_g hq hi, eb.1]; exact eb.2), ci, st_g hq hi, eb.1, hp_bd, hp_ts, b214_15 eb.2]
/-- where a sign is among the signs of a string -/
theorem s223_l (hn : mm_n S < 1000000) (hq : q < 12) (hx : x = nI c) (hc : c < 128) : ∀ k i, i + k = (stg q).length → mm_ex d 223 7 [.ref (sta q + 1), .int y, .int (nI 0), .int (nI (stg q).length), .int x, .int (nI i)] [] S = some (some (.int (pmo ((ab_at c ((stg q).drop i)).map (· + i)))), S) := by
  have hl := (st_l q hq).1
  intro k
  induction k with
  | zero =>
    intro i hi
    have e : i = (stg q).length := by omega
    subst e
    rw [b223_7, if_pos (nI_le (Nat.le_refl _) (by omega)), b223_31, List.drop_length]
    rfl
  | succ k ih =>
    intro i hi
    have hil : i < (stg q).length := by omega
    have h2 := (st_l q hq).2 i hil
    have ci : (nI i).toNatClampNeg = i := nI_clamp (by omega)
    have ed : (stg q).drop i = (stg q).getD i 0 :: (stg q).drop (i + 1) := by
      rw [List.getD_eq_getElem?_getD, List.getElem?_eq_getElem hil]
      exact List.drop_eq_getElem_cons hil
    rw [b223_7, if_neg (nI_ge hil (by omega)), b223_13 (st_na hn) (st_B hq) (by rw [st_ln hq]; exact hp_inb hil (by omega)), ci, st_g hq hil, hx, ed]
    unfold ab_at
    by_cases h : (stg q).getD i 0 = c
    · rw [if_pos (by rw [h]), if_pos h, b223_22]
      show _ = some (some (Value.int (nI (0 + i))), S)
      rw [Nat.zero_add]
    · rw [if_neg (fun e => h ((nI_eq (by omega) (by omega)).mp e)), if_neg h, b223_25, nI_add, ← hx, ih (i + 1) (by omega)]
      congr 4
      cases ab_at c ((stg q).drop (i + 1)) with
      | none => rfl
      | some m =>
        show nI (m + (i + 1)) = nI (m + 1 + i)
        congr 1
        omega
theorem s215 (hn : mm_n S < 1000000) (hq : q < 12) (hl1 : 0 < (stg q).length) (hc : c < 128) : mm_cl (d + 4) 215 [.ref (sta q), .int (nI c)] S = some (some (.int (pmo (ab_at c (stg q)))), S) := by
  have hl := (st_l q hq).1
  have e8 : ∀ m, m < 128 → (nI m).toInt8.toInt32 = nI m := by decide
  have k221 : mm_cl (d + 1) 221 [.int (nI c)] S = some (some (.int (nI 1)), S) := by
    rw [e221, b221_0, if_neg (nI_n0 (by omega)), b221_4, if_neg (nI_nlt (by omega) (by omega)), b221_11]
  have l0 := s223_l (d := d + 1) (S := S) (y := nI c) hn hq (x := nI c) rfl hc (stg q).length 0 (Nat.zero_add _)
  rw [List.drop_zero] at l0
  have em : (ab_at c (stg q)).map (· + 0) = ab_at c (stg q) := by
    cases ab_at c (stg q) with
    | none => rfl
    | some m => rfl
  rw [em] at l0
  have mx : (if nI 0 < nI 0 then nI 0 else nI 0) = nI 0 := by decide
  have mn : (if nI (stg q).length < nI (stg q).length then nI (stg q).length else nI (stg q).length) = nI (stg q).length := by split <;> rfl
  have k222 : mm_cl (d + 2) 222 [.ref (sta q + 1), .int (nI c), .int (nI 0), .int (nI (stg q).length)] S = some (some (.int (pmo (ab_at c (stg q)))), S) := by
    rw [e222, b222_0, k221, hp_bd, hp_ts, b222_4, if_neg i01, b222_9 (st_nk hn) (st_B hq), st_ln hq, mx, mn, if_pos (nI_lt hl1 (by omega)), b222_29, e223, b223_0, e8 c hc, l0, hp_bd, hp_ts, b222_36]
  rw [e215, b215_0 (st_k hn hq), e216, b216_0 (st_k hn hq), s218 hq, hp_bd, hp_ts, b216_4, if_neg i01, b216_7 (st_S hq) (st_k hn hq), s212 hn hq, hp_bd, hp_tsc, b216_17, k222, hp_bd, hp_ts, b216_20, hp_bd, hp_ts, b215_6]
end CST
end
section
/-! ===== how the class reads: signs, numbers, words ===== -/
def ct (S : mm_S) (s : Nat) (t : List Nat) : Prop := mm_W S ∧ mm_sh s ∧ mm_n S < 1000000 ∧ mm_M S 73 0 = nI t.length ∧ (∀ i, i < t.length → mm_M S 74 i = nI (t.getD i 0)) ∧ t.length ≤ 100 ∧ (∀ x ∈ t, x < 128) ∧ mm_R S 73 3 = some s
def q73 (T U : mm_S) (i : Nat) : Prop := U = mm_wM T (mm_M U) ∧ (∀ c j, ¬ (c = 73 ∧ j = 2) → mm_M U c j = mm_M T c j) ∧ mm_M U 73 2 = nI i
section CP
variable {S T U V : mm_S} {t : List Nat} {d i j k n c q s m : Nat} {x y : Int32}
theorem sh_n73 (h : mm_sh s) : ¬ (s ≤ 73 ∧ 73 ≤ s + 4) ∧ ¬ (s ≤ 74 ∧ 74 ≤ s + 4) := by unfold mm_sh at h; omega
theorem q_tr (h : q73 T U i) (h2 : q73 U V j) : q73 T V j := by
  refine ⟨?_, fun c j hc => (h2.2.1 c j hc).trans (h.2.1 c j hc), h2.2.2⟩
  have e := h2.1
  rw [h.1] at e
  exact e
theorem q_rf (h : mm_M T 73 2 = nI i) : q73 T T i := ⟨rfl, fun _ _ _ => rfl, h⟩
theorem q_w : q73 T (mm_uM T 73 2 (nI i)) i := ⟨hp_uMw, fun c j hc => rdn hc, rds⟩
theorem ct_w (h : q73 T U i) (hT : ct T s t) : ct U s t := by
  obtain ⟨h1, h2, h3, h4, h5, h6, h7, h8⟩ := hT
  have g : ∀ c j, ¬ (c = 73 ∧ j = 2) → mm_M U c j = mm_M T c j := h.2.1
  exact ⟨by rw [h.1]; exact h1, h2, by rw [h.1]; exact h3, (g _ _ (by omega)).trans h4, fun i hi => (g _ _ (by omega)).trans (h5 i hi), h6, h7, by rw [h.1]; exact h8⟩
theorem cs_lt (hT : ct S s t) : ps t i < 128 := by
  unfold ps
  by_cases h : i < t.length
  · rw [List.getD_eq_getElem?_getD, List.getElem?_eq_getElem h]
    exact hT.2.2.2.2.2.2.1 _ (List.getElem_mem h)
  · rw [List.getD_eq_getElem?_getD, List.getElem?_eq_none (by omega)]
    exact Nat.zero_lt_succ _
theorem s38 (hT : ct T s t) (h : mm_M T 73 2 = nI i) (hi : i < 2 ^ 20) : mm_cl d 38 [.ref 73] T = some (some (.int (nI (ps t i))), T) := by
  obtain ⟨hw, -, -, h0, h74, h100, -, -⟩ := hT
  rw [e38, b38_0 (wx_o73 hw), h0, h]
  by_cases q : i < t.length
  · rw [if_neg (nI_ge q (by omega)), b38_11 (wx_o73 hw) (wx_s73_1 hw) (by rw [h, wx_g73_1 hw, wx_N74 hw]; exact hp_inb (by omega) (by omega)) (by rw [wx_g73_1 hw]; exact wx_a74 hw), h, wx_g73_1 hw, nI_clamp (by omega), h74 i q]
    rfl
  · have e : ps t i = 0 := by
      unfold ps
      rw [List.getD_eq_getElem?_getD, List.getElem?_eq_none (by omega)]
      rfl
    rw [if_pos (nI_le (by omega) (by omega)), b38_23, e]
theorem l46 (hT : ct T s t) (h : mm_M T 73 2 = nI k) (hk : k < 2 ^ 10) (hi : i < 2 ^ 10) (hn : n < 100) : mm_ex d 46 7 [.ref 73, .int (nI i), .int (nI n)] [] T = if k < i + 2 ∧ pdg (ps t k) = true then mm_ex d 46 7 [.ref 73, .int (nI i), .int (nI (10 * n + (ps t k - 48)))] [] (mm_uM T 73 2 (nI (k + 1))) else mm_ex d 46 87 [.ref 73, .int (nI i), .int (nI n)] [] T := by
  have hl := cs_lt (i := k) hT
  obtain ⟨hw, -, -, h0, h74, h100, -, -⟩ := hT
  rw [b46_7 (wx_o73 hw), h0, h]
  by_cases q : k < t.length
  · have et : mm_M T 74 k = nI (ps t k) := h74 k q
    have ck : (nI k).toNatClampNeg = k := nI_clamp (by omega)
    have bk : mm_inb (nI k) 100 = true := hp_inb (by omega) (by omega)
    rw [if_neg (nI_ge q (by omega)), b46_18 (wx_o73 hw), nI_add, h]
    by_cases q2 : k < i + 2
    · rw [if_neg (nI_ge q2 (by omega)), b46_28 (wx_o73 hw) (wx_s73_1 hw) (by rw [h, wx_g73_1 hw, wx_N74 hw]; exact bk) (by rw [wx_g73_1 hw]; exact wx_a74 hw), h, wx_g73_1 hw, ck, et]
      by_cases q3 : ps t k < 48
      · have np : ¬ (k < i + 2 ∧ pdg (ps t k) = true) := fun z => by have := (pdg_in z.2).2; omega
        rw [if_pos (nI_lt q3 (by omega)), if_neg np]
      · rw [if_neg (nI_nlt (by omega) (by omega)), b46_42 (wx_o73 hw) (wx_s73_1 hw) (by rw [h, wx_g73_1 hw, wx_N74 hw]; exact bk) (by rw [wx_g73_1 hw]; exact wx_a74 hw), h, wx_g73_1 hw, ck, et]
        by_cases q4 : 57 < ps t k
        · have np : ¬ (k < i + 2 ∧ pdg (ps t k) = true) := fun z => by have := (pdg_in z.2).2; omega
          rw [if_pos (nI_lt q4 (by omega)), if_neg np]
        · have hp : k < i + 2 ∧ pdg (ps t k) = true := ⟨q2, by unfold pdg; rw [decide_eq_true (by omega), decide_eq_true (by omega)]; rfl⟩
          rw [if_neg (nI_nlt (by omega) (by omega)), if_pos hp, b46_56 (wx_o73 hw) (wx_s73_1 hw) (by rw [h, wx_g73_1 hw, wx_N74 hw]; exact bk) (by rw [wx_g73_1 hw]; exact wx_a74 hw), h, wx_g73_1 hw, ck, et, nI_mul, nI_add, nI_add, pk_sub (by omega), show 10 * n + ps t k - 48 = 10 * n + (ps t k - 48) by omega]
    · have np : ¬ (k < i + 2 ∧ pdg (ps t k) = true) := fun z => q2 z.1
      rw [if_pos (nI_le (by omega) (by omega)), if_neg np]
  · have np : ¬ (k < i + 2 ∧ pdg (ps t k) = true) := fun z => q (pdg_in z.2).1
    rw [if_pos (nI_le (by omega) (by omega)), if_neg np]
theorem s46 (hT : ct T s t) (h : mm_M T 73 2 = nI i) (hi : i < 2 ^ 9) : ∃ U, mm_cl d 46 [.ref 73] T = some (some (.int (pmo (pnu t i).2)), U) ∧ q73 T U (pnu t i).1 := by
  have hw := hT.1
  have e0 : mm_cl d 46 [.ref 73] T = mm_ex d 46 7 [.ref 73, .int (nI i), .int (nI 0)] [] T := by rw [e46, b46_0 (wx_o73 hw), h]
  have l0 := l46 (d := d) (n := 0) hT h (by omega) (i := i) (by omega) (by decide)
  unfold pnu
  by_cases p1 : pdg (ps t i) = true
  · have a := pdg_in p1
    rw [if_pos ⟨by omega, p1⟩] at l0
    have r1 : q73 T (mm_uM T 73 2 (nI (i + 1))) (i + 1) := q_w
    have T1 := ct_w r1 hT
    have l1 := l46 (d := d) (n := 10 * 0 + (ps t i - 48)) T1 r1.2.2 (by omega) (i := i) (by omega) (by omega)
    have nz : ∀ m, i < m → m < 2 ^ 20 → ¬ nI m = nI i := fun m hm hm2 e => by have := (nI_eq (by omega) (by omega)).mp e; omega
    rw [if_pos p1]
    by_cases p2 : pdg (ps t (i + 1)) = true
    · rw [if_pos ⟨by omega, p2⟩] at l1
      have b := pdg_in p2
      have r2 : q73 T (mm_uM (mm_uM T 73 2 (nI (i + 1))) 73 2 (nI (i + 1 + 1))) (i + 1 + 1) := q_tr r1 q_w
      have T2 := ct_w r2 hT
      have l2 := l46 (d := d) (n := 10 * (10 * 0 + (ps t i - 48)) + (ps t (i + 1) - 48)) T2 r2.2.2 (by omega) (i := i) (by omega) (by omega)
      rw [if_neg (by omega)] at l2
      rw [if_pos p2]
      refine ⟨_, ?_, r2⟩
      rw [e0, l0, l1, l2, b46_87 (wx_o73 T2.1), r2.2.2, if_neg (nz _ (by omega) (by omega)), b46_99]
      show some (some (Value.int (nI (10 * (10 * 0 + (ps t i - 48)) + (ps t (i + 1) - 48)))), _) = some (some (Value.int (nI (10 * (ps t i - 48) + (ps t (i + 1) - 48)))), _)
      rw [show 10 * (10 * 0 + (ps t i - 48)) = 10 * (ps t i - 48) by omega]
    · rw [if_neg (fun z => p2 z.2)] at l1
      rw [if_neg p2]
      refine ⟨_, ?_, r1⟩
      rw [e0, l0, l1, b46_87 (wx_o73 T1.1), r1.2.2, if_neg (nz _ (by omega) (by omega)), b46_99]
      show some (some (Value.int (nI (10 * 0 + (ps t i - 48)))), _) = some (some (Value.int (nI (ps t i - 48))), _)
      rw [show 10 * 0 + (ps t i - 48) = ps t i - 48 by omega]
  · rw [if_neg (fun z => p1 z.2)] at l0
    rw [if_neg p1]
    refine ⟨T, ?_, q_rf h⟩
    rw [e0, l0, b46_87 (wx_o73 hw), h, if_pos rfl, b46_95]
    rfl
/-- the signs of a string, one after another -/
theorem s39_l (hq : q < 12) : ∀ (A : List Nat) (m i : Nat) (T : mm_S), ct T s t → mm_M T 73 2 = nI i → i + A.length < 2 ^ 10 → stg q = (stg q).take m ++ A → m + A.length = (stg q).length → ∃ U, mm_ex (d + 4) 39 2 [.ref 73, .ref (sta q), .int (nI m)] [] T = some (some (.int (if (pw t A i).2 = true then nI 1 else nI 0)), U) ∧ q73 T U (pw t A i).1 := by
  have hl := (st_l q hq).1
  intro A
  induction A with
  | nil =>
    intro m i T hT h _ hA hm
    rw [List.length_nil] at hm
    refine ⟨T, ?_, q_rf h⟩
    rw [b39_2 (st_k hT.2.2.1 hq), s212 (d := d + 2) hT.2.2.1 hq, hp_bd, hp_tsc, b39_7, if_pos (nI_le (by omega) (by omega)), b39_40]
    rfl
  | cons z A ih =>
    intro m i T hT h hb hA hm
    have hw := hT.1
    rw [List.length_cons] at hm hb
    have hml : m < (stg q).length := by omega
    have hio := it_of hA hml
    have hgo : (stg q).getD m 0 = z := by rw [List.getD_eq_getElem?_getD, hio]; rfl
    have hz := (st_l q hq).2 m hml
    rw [hgo] at hz
    have s14 := s214 (d := d) (S := T) hT.2.2.1 hq hml
    rw [hgo] at s14
    have hl1 := cs_lt (i := i) hT
    have e0 : (nI (ps t i) = nI z) = (ps t i = z) := propext (nI_eq (by omega) (by omega))
    have st : mm_ex (d + 4) 39 2 [.ref 73, .ref (sta q), .int (nI m)] [] T = mm_ex (d + 4) 39 19 [.ref 73, .ref (sta q), .int (nI m)] [.int (nI z), .int (nI (ps t i))] T := by
      rw [b39_2 (st_k hT.2.2.1 hq), s212 (d := d + 2) hT.2.2.1 hq, hp_bd, hp_tsc, b39_7, if_neg (nI_ge hml (by omega)), b39_10 (wx_k73 hw), s38 hT h (by omega), hp_bd, hp_ts, b39_14 (st_k hT.2.2.1 hq), s14, hp_bd, hp_tsc]
    rw [b39_19] at st
    simp only [e0] at st
    have e : pw t (z :: A) i = if ps t i = z then pw t A (i + 1) else (i, false) := rfl
    rw [e]
    by_cases g : ps t i = z
    · rw [if_pos g, b39_24 (wx_o73 hw), h, nI_add, nI_add] at st
      rw [if_pos g]
      have r1 : q73 T (mm_uM T 73 2 (nI (i + 1))) (i + 1) := q_w
      obtain ⟨V, g3, g4⟩ := ih (m + 1) (i + 1) _ (ct_w r1 hT) r1.2.2 (by omega) (by rw [tk1 hio, List.append_assoc]; exact hA) (by omega)
      exact ⟨V, st.trans g3, q_tr r1 g4⟩
    · rw [if_neg g, b39_22] at st
      rw [if_neg g]
      exact ⟨T, st, q_rf h⟩
theorem s39 (hq : q < 12) (hT : ct T s t) (h : mm_M T 73 2 = nI i) (hi : i < 2 ^ 9) : ∃ U, mm_cl (d + 4) 39 [.ref 73, .ref (sta q)] T = some (some (.int (if (pw t (stg q) i).2 = true then nI 1 else nI 0)), U) ∧ q73 T U (pw t (stg q) i).1 := by
  have hl := (st_l q hq).1
  obtain ⟨U, g1, g2⟩ := s39_l (d := d) hq (stg q) 0 i T hT h (by omega) (by rw [List.take_zero, List.nil_append]) (Nat.zero_add _)
  refine ⟨U, ?_, g2⟩
  rw [e39, b39_0]
  exact g1
end CP
end
section
/-! ===== how the class reads: an E ===== -/
def gE (s c j : Nat) : Prop := (c = 73 ∧ j = 2) ∨ (c = s ∧ j = 9) ∨ c = s + 4
def feT (S : mm_S) (s : Nat) (U : mm_S) (j : Nat) : Prop := U = mm_wM S (mm_M U) ∧ (∀ c j, ¬ gE s c j → mm_M U c j = mm_M S c j) ∧ mm_M U 73 2 = nI j
def ce (S : mm_S) (s : Nat) (T : mm_S) (C : List ab_T) (i : Nat) : Prop := feT S s T i ∧ mm_M T s 9 = nI C.length ∧ ∀ n, n < C.length → mm_M T (s + 4) n = cd_en (C.getD n (Sum.inr 0))
def rC (S : mm_S) (s : Nat) (C : List ab_T) (j : Nat) (o : Option (List ab_T)) (r : mm_Res) : Prop := match o with
  | none => ∃ U, r = some (some (.int (nI 0)), U) ∧ feT S s U j
  | some c => ∃ U, r = some (some (.int (nI 1)), U) ∧ ce S s U (C ++ c) j
def CF (S : mm_S) (s : Nat) (t : List Nat) (d e : Nat) : Prop := ∀ T C i, ce S s T C i → i ≤ t.length → C.length ≤ i → ∃ j o, PE t 0 (4 - e) i j o ∧ rC S s C j o (mm_cl (d + 3 * e + 6) 44 [.ref 73, .int (nI (4 - e))] T)
def CB (S : mm_S) (s : Nat) (t : List Nat) (d e : Nat) : Prop := ∀ T C i, ce S s T C i → i ≤ t.length → C.length ≤ i → ∃ j o, PE t 1 (4 - e) i j o ∧ rC S s C j o (mm_cl (d + 3 * e + 7) 43 [.ref 73, .int (nI (4 - e))] T)
def CE (S : mm_S) (s : Nat) (t : List Nat) (d e : Nat) : Prop := ∀ T C i, ce S s T C i → i ≤ t.length → C.length ≤ i → ∃ j o, PE t 2 (4 - e) i j o ∧ rC S s C j o (mm_cl (d + 3 * e + 8) 42 [.ref 73, .int (nI (4 - e))] T)
section CP2
variable {S T U V : mm_S} {t : List Nat} {d i j k n c q s m a e : Nat} {x y : Int32} {C N : List ab_T} {o : Option (List ab_T)} {z : ab_T} {r : mm_Res}
theorem fe_t (h : feT S s T i) (hT : ct S s t) : ct T s t := by
  obtain ⟨h1, h2, h3, h4, h5, h6, h7, h8⟩ := hT
  have g := h.2.1
  have n := sh_n73 h2
  exact ⟨by rw [h.1]; exact h1, h2, by rw [h.1]; exact h3, (g _ _ (by unfold gE; omega)).trans h4, fun i hi => (g _ _ (by unfold gE; omega)).trans (h5 i hi), h6, h7, by rw [h.1]; exact h8⟩
theorem ce_36 (hs : mm_sh s) (h : ce S s T C i) (hr : q73 T U j) : ce S s U C j := by
  obtain ⟨⟨h1, h2, h3⟩, h4, h5⟩ := h
  have g := hr.2.1
  have n := sh_n73 hs
  refine ⟨⟨?_, fun c j hc => (g c j (fun z => hc (Or.inl z))).trans (h2 c j hc), hr.2.2⟩, (g _ _ (by omega)).trans h4, fun n hn => (g _ _ (by omega)).trans (h5 n hn)⟩
  have e := hr.1
  rw [h1] at e
  exact e
theorem s49 (hT : ct S s t) (h : ce S s T C i) (hc : C.length < 100) : ∃ U, mm_cl d 49 [.ref s, .int (cd_en z)] T = some (none, U) ∧ ce S s U (C ++ [z]) i := by
  have T1 := fe_t h.1 hT
  have w := T1.1
  have hs := hT.2.1
  have n73 := sh_n73 hs
  obtain ⟨⟨h1, h2, h3⟩, h4, h5⟩ := h
  have w1 : mm_W (mm_uM T (s + 4) C.length (cd_en z)) := w
  refine ⟨mm_uM (mm_uM T (s + 4) C.length (cd_en z)) s 9 (nI (C.length + 1)), ?_, ⟨wM_u (wM_u h1), fun c j hc => (rdn (fun z => hc (by unfold gE; omega))).trans ((rdn (fun z => hc (by unfold gE; omega))).trans (h2 c j hc)), (rdn (by omega)).trans ((rdn (by omega)).trans h3)⟩, rds.trans (by rw [la1]), fun n hn => ?_⟩
  · rw [e49, b49_0 (ws_o w hs) (ws_s7 w hs) (by rw [ws_g7 w hs]; exact ws_a4 w hs), h4, ws_g7 w hs, ws_N4 w hs, if_neg (nI_ge (by omega) (by omega)), b49_12 (ws_o w hs) (ws_s7 w hs) (by rw [ws_g7 w hs]; exact ws_a4 w hs) (by rw [h4, ws_g7 w hs, ws_N4 w hs]; exact hp_inb hc (by omega)), h4, ws_g7 w hs, nI_clamp (by omega), b49_24 (ws_o w1 hs) (ws_o w1 hs), show mm_M (mm_uM T (s + 4) C.length (cd_en z)) s 9 = nI C.length from (rdn (by omega)).trans h4, nI_add]
  · rw [la1] at hn
    rw [rdn (by omega)]
    by_cases q : n = C.length
    · rw [q, rds, ga_r]
    · rw [rdn (by omega), ga_l (by omega)]
      exact h5 n (by omega)
theorem w16 : ∀ m, m < 128 → ((nI m).toUInt32 % 65536).toInt32 = nI m := by decide
theorem s45 (hT : ct S s t) (h : ce S s T C i) (hi : i ≤ 100) (hc : C.length < 100) : ∃ U, mm_cl (d + 5) 45 [.ref 73] T = some (some (.int (if (pte t i).2 = none then nI 0 else nI 1)), U) ∧ (∀ x, (pte t i).2 = some x → ce S s U (C ++ [x]) (pte t i).1) ∧ ((pte t i).2 = none → feT S s U (pte t i).1) := by
  have T0 := fe_t h.1 hT
  have hw := T0.1
  have hs := hT.2.1
  have h36 := h.1.2.2
  have l0 := cs_lt (i := i) hT
  have l1 := cs_lt (i := i + 1) hT
  have k1 := s215 (d := d) (S := T) T0.2.2.1 (q := 10) (by decide) (by decide) l0
  have st : mm_cl (d + 5) 45 [.ref 73] T = if nI 0 ≤ pmo (ab_at (ps t i) plt) then mm_ex (d + 5) 45 17 [.ref 73, .int (pmo (ab_at (ps t i) plt)), .null, .null] [] T else mm_ex (d + 5) 45 15 [.ref 73, .int (pmo (ab_at (ps t i) plt)), .null, .null] [] T := by
    rw [e45, b45_0 (wx_k73 hw), s38 T0 h36 (by omega), hp_bd, hp_tsc, show (1000020 : Nat) = sta 10 from rfl, b45_6 (st_k T0.2.2.1 (by decide)), w16 _ l0, k1, hp_bd, hp_ts, b45_10]
    rfl
  unfold pte
  cases ha : ab_at (ps t i) plt with
  | none =>
    rw [ha, if_neg (show ¬ nI 0 ≤ pmo none by decide), b45_15] at st
    exact ⟨T, st, (fun x hx => by cases hx), fun _ => h.1⟩
  | some l =>
    have hl7 : l < 7 := at_ln ha
    rw [ha, show pmo (some l) = nI l from rfl, if_pos (nI_le (Nat.zero_le _) (by omega)), b45_17 (wx_o73 hw) (wx_k73 hw), h36, nI_add] at st
    simp only
    have r1 : q73 T (mm_uM T 73 2 (nI (i + 1))) (i + 1) := q_w
    have c1 := ce_36 hs h r1
    have T1 := fe_t c1.1 hT
    have w1 := T1.1
    have k2 := s215 (d := d) (S := mm_uM T 73 2 (nI (i + 1))) T1.2.2.1 (q := 11) (by decide) (by decide) l1
    have st2 : mm_cl (d + 5) 45 [.ref 73] T = if nI 0 ≤ pmo (ab_at (ps t (i + 1)) prl) then mm_ex (d + 5) 45 44 [.ref 73, .int (nI l), .int (pmo (ab_at (ps t (i + 1)) prl)), .null] [] (mm_uM T 73 2 (nI (i + 1))) else mm_ex (d + 5) 45 42 [.ref 73, .int (nI l), .int (pmo (ab_at (ps t (i + 1)) prl)), .null] [] (mm_uM T 73 2 (nI (i + 1))) := by
      rw [st, s38 T1 r1.2.2 (by omega), hp_bd, hp_tsc, show (1000022 : Nat) = sta 11 from rfl, b45_33 (st_k T1.2.2.1 (by decide)), w16 _ l1, k2, hp_bd, hp_ts, b45_37]
      rfl
    cases hr : ab_at (ps t (i + 1)) prl with
    | none =>
      rw [hr, if_neg (show ¬ nI 0 ≤ pmo none by decide), b45_42] at st2
      exact ⟨_, st2, (fun x hx => by cases hx), fun _ => c1.1⟩
    | some r =>
      have hr3 : r < 3 := at_ln hr
      rw [hr, show pmo (some r) = nI r from rfl, if_pos (nI_le (Nat.zero_le _) (by omega)), b45_44 (wx_o73 w1) (wx_k73 w1), r1.2.2, nI_add] at st2
      simp only
      have r2 : q73 T (mm_uM (mm_uM T 73 2 (nI (i + 1))) 73 2 (nI (i + 2))) (i + 2) := q_tr r1 q_w
      have c2 := ce_36 hs h r2
      have T2 := fe_t c2.1 hT
      obtain ⟨U, g1, g2⟩ := s46 (d := d + 4) T2 r2.2.2 (by omega)
      have c3 := ce_36 hs c2 g2
      have T3 := fe_t c3.1 hT
      have wU := T3.1
      rw [g1, hp_bd, hp_ts, b45_58] at st2
      cases hn : (pnu t (i + 2)).2 with
      | none =>
        rw [hn, if_neg (show ¬ nI 0 ≤ pmo none by decide), b45_63] at st2
        exact ⟨_, st2, (fun x hx => by cases hx), fun _ => c3.1⟩
      | some n =>
        have hn1 := (pnu_n hn).1
        have R3 := T3.2.2.2.2.2.2.2
        obtain ⟨V, g3, g4⟩ := s49 (d := d + 4) (z := Sum.inl (l, r, n)) hT c3 hc
        have ez : (nI l * nI 3 + nI r) * nI 100 + nI n = cd_en (Sum.inl (l, r, n)) := by rw [nI_mul, nI_add, nI_mul, nI_add]; rfl
        rw [hn, show pmo (some n) = nI n from rfl, if_pos (nI_le (Nat.zero_le _) (by omega)), b45_65 (wx_o73 wU) (hp_rs R3), hp_rg R3, e50, b50_0, hp_bd, hp_tsc, b45_75 (ws_k wU hs), ez, g3, hp_bd, hp_tn, b45_78] at st2
        exact ⟨V, st2, (fun x hx => by cases hx; exact g4), (fun z => by cases z)⟩
theorem L43 (hT : ct S s t) (H : CF S s t d e) : ∀ (r j : Nat) (T : mm_S) (C : List ab_T), t.length - j ≤ r → ce S s T C j → j ≤ t.length → C.length ≤ j → ∃ k o, PE t 3 (4 - e) j k o ∧ rC S s C k o (mm_ex (d + 3 * e + 7) 43 10 [.ref 73, .int (nI (4 - e))] [] T) := by
  have hs := hT.2.1
  have h100 := hT.2.2.2.2.2.1
  have n73 := sh_n73 hs
  intro r
  induction r with
  | zero =>
    intro j T C hr h hj hC
    have T0 := fe_t h.1 hT
    have np : ps t j ≠ pch 0 := fun z => by have := ps_in (t := t) (i := j) (by rw [z]; decide); omega
    refine ⟨j, some [], PE_c.2.2.2.2.2.2.2.1 0 (4 - e) j (by decide) np, T, ?_, by rw [List.append_nil]; exact h⟩
    rw [b43_10 (wx_o73 T0.1), T0.2.2.2.1, h.1.2.2, if_pos (nI_le (by omega) (by omega)), b43_67]
  | succ r ih =>
    intro j T C hr h hj hC
    have T0 := fe_t h.1 hT
    have hw := T0.1
    by_cases p : ps t j = pch 0
    · have jl : j < t.length := ps_in (by rw [p]; decide)
      have pj : ps t j = 38 := p
      have r1 : q73 T (mm_uM T 73 2 (nI (j + 1))) (j + 1) := q_w
      have c1 := ce_36 hs h r1
      obtain ⟨k, o, p1, p2⟩ := H _ C (j + 1) c1 (by omega) (by omega)
      have hle := PE_le p1
      have T1 := fe_t c1.1 hT
      have st : mm_ex (d + 3 * e + 7) 43 10 [.ref 73, .int (nI (4 - e))] [] T = mm_bd (mm_cl (d + 3 * e + 6) 44 [.ref 73, .int (nI (4 - e))] (mm_uM T 73 2 (nI (j + 1)))) (fun u S2 => mm_ex (d + 3 * e + 7) 43 50 [.ref 73, .int (nI (4 - e))] (u.toList ++ []) S2) := by
        rw [b43_10 (wx_o73 hw), T0.2.2.2.1, h.1.2.2, if_neg (nI_ge jl (by omega)), b43_21 (wx_o73 hw) (wx_s73_1 hw) (by rw [h.1.2.2, wx_g73_1 hw, wx_N74 hw]; exact hp_inb (by omega) (by omega)) (by rw [wx_g73_1 hw]; exact wx_a74 hw), h.1.2.2, wx_g73_1 hw, nI_clamp (by omega), T0.2.2.2.2.1 j jl, show t.getD j 0 = 38 from pj, if_pos rfl, b43_35 (wx_o73 hw) (wx_k73 hw), h.1.2.2, nI_add]
      cases o with
      | none =>
        obtain ⟨U, q1, q2⟩ := p2
        refine ⟨k, none, PE_c.2.2.2.2.2.2.2.2.1 0 (4 - e) j k (by decide) p p1, U, ?_, q2⟩
        rw [st, q1, hp_bd, hp_ts, b43_50, if_pos rfl, b43_53]
      | some c =>
        obtain ⟨U, q1, q2⟩ := p2
        have hcl := hle.2.2 c rfl
        have cl : (C ++ c).length = C.length + c.length := List.length_append
        have kl := hle.2.1 (by omega)
        have TU := fe_t q2.1 hT
        have RU := TU.2.2.2.2.2.2.2
        obtain ⟨V, q3, q4⟩ := s49 (d := d + 3 * e + 6) (z := Sum.inr (2 - 0)) hT q2 (by omega)
        have cl2 := @la1 _ (C ++ c) (Sum.inr (2 - 0))
        obtain ⟨m, o2, p3, p4⟩ := ih k V (C ++ c ++ [Sum.inr (2 - 0)]) (by omega) q4 kl (by omega)
        refine ⟨m, _, PE_c.2.2.2.2.2.2.2.2.2 0 (4 - e) j k m c o2 (by decide) p p1 p3, ?_⟩
        have st2 : mm_ex (d + 3 * e + 7) 43 10 [.ref 73, .int (nI (4 - e))] [] T = mm_ex (d + 3 * e + 7) 43 10 [.ref 73, .int (nI (4 - e))] [] V := by
          rw [st, q1, hp_bd, hp_ts, b43_50, if_neg i01, b43_55 (wx_o73 TU.1) (hp_rs RU) (by rw [hp_rg RU]; exact ws_k TU.1 hs), hp_rg RU, show (-2 : Int32) = cd_en (Sum.inr (2 - 0)) from rfl, q3, hp_bd, hp_tn, b43_64]
        rw [st2]
        cases o2 with
        | none => exact p4
        | some r2 =>
          obtain ⟨W, w1, w2⟩ := p4
          refine ⟨W, w1, ?_⟩
          rw [List.append_assoc, List.append_assoc] at w2
          exact w2
    · have st : mm_ex (d + 3 * e + 7) 43 10 [.ref 73, .int (nI (4 - e))] [] T = mm_ex (d + 3 * e + 7) 43 67 [.ref 73, .int (nI (4 - e))] [] T := by
        rw [b43_10 (wx_o73 hw), T0.2.2.2.1, h.1.2.2]
        by_cases jl : j < t.length
        · have hl := cs_lt (i := j) hT
          have np : ¬ nI (t.getD j 0) = nI 38 := fun z => by
            have hx : t.getD j 0 < 2 ^ 31 := (show ps t j < 2 ^ 31 by omega)
            exact p ((nI_eq hx (by decide)).mp z)
          rw [if_neg (nI_ge jl (by omega)), b43_21 (wx_o73 hw) (wx_s73_1 hw) (by rw [h.1.2.2, wx_g73_1 hw, wx_N74 hw]; exact hp_inb (by omega) (by omega)) (by rw [wx_g73_1 hw]; exact wx_a74 hw), h.1.2.2, wx_g73_1 hw, nI_clamp (by omega), T0.2.2.2.2.1 j jl, if_neg np]
        · rw [if_pos (nI_le (by omega) (by omega))]
      refine ⟨j, some [], PE_c.2.2.2.2.2.2.2.1 0 (4 - e) j (by decide) p, T, ?_, by rw [List.append_nil]; exact h⟩
      rw [st, b43_67]
theorem CB_of (hT : ct S s t) (H : CF S s t d e) : CB S s t d e := by
  intro T C i h hi hC
  have T0 := fe_t h.1 hT
  have h100 := hT.2.2.2.2.2.1
  obtain ⟨j, o, p1, p2⟩ := H T C i h hi hC
  have hle := PE_le p1
  have st : mm_cl (d + 3 * e + 7) 43 [.ref 73, .int (nI (4 - e))] T = mm_bd (mm_cl (d + 3 * e + 6) 44 [.ref 73, .int (nI (4 - e))] T) (fun u S2 => mm_ex (d + 3 * e + 7) 43 5 [.ref 73, .int (nI (4 - e))] (u.toList ++ []) S2) := by
    rw [e43, b43_0 (wx_k73 T0.1)]
  cases o with
  | none =>
    obtain ⟨U, q1, q2⟩ := p2
    refine ⟨j, none, PE_c.2.2.2.2.2.1 0 (4 - e) i j (by decide) p1, U, ?_, q2⟩
    rw [st, q1, hp_bd, hp_ts, b43_5, if_pos rfl, b43_8]
  | some c =>
    obtain ⟨U, q1, q2⟩ := p2
    have hcl := hle.2.2 c rfl
    have cl : (C ++ c).length = C.length + c.length := List.length_append
    obtain ⟨k, o2, p3, p4⟩ := L43 hT H (t.length - j) j U (C ++ c) (Nat.le_refl _) q2 (hle.2.1 hi) (by omega)
    refine ⟨k, _, PE_c.2.2.2.2.2.2.1 0 (4 - e) i j k c o2 (by decide) p1 p3, ?_⟩
    have st2 : mm_cl (d + 3 * e + 7) 43 [.ref 73, .int (nI (4 - e))] T = mm_ex (d + 3 * e + 7) 43 10 [.ref 73, .int (nI (4 - e))] [] U := by
      rw [st, q1, hp_bd, hp_ts, b43_5, if_neg i01]
    rw [st2]
    cases o2 with
    | none => exact p4
    | some r2 =>
      obtain ⟨W, w1, w2⟩ := p4
      refine ⟨W, w1, ?_⟩
      rw [List.append_assoc] at w2
      exact w2
theorem L42 (hT : ct S s t) (H : CB S s t d e) : ∀ (r j : Nat) (T : mm_S) (C : List ab_T), t.length - j ≤ r → ce S s T C j → j ≤ t.length → C.length ≤ j → ∃ k o, PE t 4 (4 - e) j k o ∧ rC S s C k o (mm_ex (d + 3 * e + 8) 42 10 [.ref 73, .int (nI (4 - e))] [] T) := by
  have hs := hT.2.1
  have h100 := hT.2.2.2.2.2.1
  have n73 := sh_n73 hs
  intro r
  induction r with
  | zero =>
    intro j T C hr h hj hC
    have T0 := fe_t h.1 hT
    have np : ps t j ≠ pch 1 := fun z => by have := ps_in (t := t) (i := j) (by rw [z]; decide); omega
    refine ⟨j, some [], PE_c.2.2.2.2.2.2.2.1 1 (4 - e) j (by decide) np, T, ?_, by rw [List.append_nil]; exact h⟩
    rw [b42_10 (wx_o73 T0.1), T0.2.2.2.1, h.1.2.2, if_pos (nI_le (by omega) (by omega)), b42_67]
  | succ r ih =>
    intro j T C hr h hj hC
    have T0 := fe_t h.1 hT
    have hw := T0.1
    by_cases p : ps t j = pch 1
    · have jl : j < t.length := ps_in (by rw [p]; decide)
      have pj : ps t j = 124 := p
      have r1 : q73 T (mm_uM T 73 2 (nI (j + 1))) (j + 1) := q_w
      have c1 := ce_36 hs h r1
      obtain ⟨k, o, p1, p2⟩ := H _ C (j + 1) c1 (by omega) (by omega)
      have hle := PE_le p1
      have T1 := fe_t c1.1 hT
      have st : mm_ex (d + 3 * e + 8) 42 10 [.ref 73, .int (nI (4 - e))] [] T = mm_bd (mm_cl (d + 3 * e + 7) 43 [.ref 73, .int (nI (4 - e))] (mm_uM T 73 2 (nI (j + 1)))) (fun u S2 => mm_ex (d + 3 * e + 8) 42 50 [.ref 73, .int (nI (4 - e))] (u.toList ++ []) S2) := by
        rw [b42_10 (wx_o73 hw), T0.2.2.2.1, h.1.2.2, if_neg (nI_ge jl (by omega)), b42_21 (wx_o73 hw) (wx_s73_1 hw) (by rw [h.1.2.2, wx_g73_1 hw, wx_N74 hw]; exact hp_inb (by omega) (by omega)) (by rw [wx_g73_1 hw]; exact wx_a74 hw), h.1.2.2, wx_g73_1 hw, nI_clamp (by omega), T0.2.2.2.2.1 j jl, show t.getD j 0 = 124 from pj, if_pos rfl, b42_35 (wx_o73 hw) (wx_k73 hw), h.1.2.2, nI_add]
      cases o with
      | none =>
        obtain ⟨U, q1, q2⟩ := p2
        refine ⟨k, none, PE_c.2.2.2.2.2.2.2.2.1 1 (4 - e) j k (by decide) p p1, U, ?_, q2⟩
        rw [st, q1, hp_bd, hp_ts, b42_50, if_pos rfl, b42_53]
      | some c =>
        obtain ⟨U, q1, q2⟩ := p2
        have hcl := hle.2.2 c rfl
        have cl : (C ++ c).length = C.length + c.length := List.length_append
        have kl := hle.2.1 (by omega)
        have TU := fe_t q2.1 hT
        have RU := TU.2.2.2.2.2.2.2
        obtain ⟨V, q3, q4⟩ := s49 (d := d + 3 * e + 7) (z := Sum.inr (2 - 1)) hT q2 (by omega)
        have cl2 := @la1 _ (C ++ c) (Sum.inr (2 - 1))
        obtain ⟨m, o2, p3, p4⟩ := ih k V (C ++ c ++ [Sum.inr (2 - 1)]) (by omega) q4 kl (by omega)
        refine ⟨m, _, PE_c.2.2.2.2.2.2.2.2.2 1 (4 - e) j k m c o2 (by decide) p p1 p3, ?_⟩
        have st2 : mm_ex (d + 3 * e + 8) 42 10 [.ref 73, .int (nI (4 - e))] [] T = mm_ex (d + 3 * e + 8) 42 10 [.ref 73, .int (nI (4 - e))] [] V := by
          rw [st, q1, hp_bd, hp_ts, b42_50, if_neg i01, b42_55 (wx_o73 TU.1) (hp_rs RU) (by rw [hp_rg RU]; exact ws_k TU.1 hs), hp_rg RU, show (-3 : Int32) = cd_en (Sum.inr (2 - 1)) from rfl, q3, hp_bd, hp_tn, b42_64]
        rw [st2]
        cases o2 with
        | none => exact p4
        | some r2 =>
          obtain ⟨W, w1, w2⟩ := p4
          refine ⟨W, w1, ?_⟩
          rw [List.append_assoc, List.append_assoc] at w2
          exact w2
    · have st : mm_ex (d + 3 * e + 8) 42 10 [.ref 73, .int (nI (4 - e))] [] T = mm_ex (d + 3 * e + 8) 42 67 [.ref 73, .int (nI (4 - e))] [] T := by
        rw [b42_10 (wx_o73 hw), T0.2.2.2.1, h.1.2.2]
        by_cases jl : j < t.length
        · have hl := cs_lt (i := j) hT
          have np : ¬ nI (t.getD j 0) = nI 124 := fun z => by
            have hx : t.getD j 0 < 2 ^ 31 := (show ps t j < 2 ^ 31 by omega)
            exact p ((nI_eq hx (by decide)).mp z)
          rw [if_neg (nI_ge jl (by omega)), b42_21 (wx_o73 hw) (wx_s73_1 hw) (by rw [h.1.2.2, wx_g73_1 hw, wx_N74 hw]; exact hp_inb (by omega) (by omega)) (by rw [wx_g73_1 hw]; exact wx_a74 hw), h.1.2.2, wx_g73_1 hw, nI_clamp (by omega), T0.2.2.2.2.1 j jl, if_neg np]
        · rw [if_pos (nI_le (by omega) (by omega))]
      refine ⟨j, some [], PE_c.2.2.2.2.2.2.2.1 1 (4 - e) j (by decide) p, T, ?_, by rw [List.append_nil]; exact h⟩
      rw [st, b42_67]
theorem CE_of (hT : ct S s t) (H : CB S s t d e) : CE S s t d e := by
  intro T C i h hi hC
  have T0 := fe_t h.1 hT
  have h100 := hT.2.2.2.2.2.1
  obtain ⟨j, o, p1, p2⟩ := H T C i h hi hC
  have hle := PE_le p1
  have st : mm_cl (d + 3 * e + 8) 42 [.ref 73, .int (nI (4 - e))] T = mm_bd (mm_cl (d + 3 * e + 7) 43 [.ref 73, .int (nI (4 - e))] T) (fun u S2 => mm_ex (d + 3 * e + 8) 42 5 [.ref 73, .int (nI (4 - e))] (u.toList ++ []) S2) := by
    rw [e42, b42_0 (wx_k73 T0.1)]
  cases o with
  | none =>
    obtain ⟨U, q1, q2⟩ := p2
    refine ⟨j, none, PE_c.2.2.2.2.2.1 1 (4 - e) i j (by decide) p1, U, ?_, q2⟩
    rw [st, q1, hp_bd, hp_ts, b42_5, if_pos rfl, b42_8]
  | some c =>
    obtain ⟨U, q1, q2⟩ := p2
    have hcl := hle.2.2 c rfl
    have cl : (C ++ c).length = C.length + c.length := List.length_append
    obtain ⟨k, o2, p3, p4⟩ := L42 hT H (t.length - j) j U (C ++ c) (Nat.le_refl _) q2 (hle.2.1 hi) (by omega)
    refine ⟨k, _, PE_c.2.2.2.2.2.2.1 1 (4 - e) i j k c o2 (by decide) p1 p3, ?_⟩
    have st2 : mm_cl (d + 3 * e + 8) 42 [.ref 73, .int (nI (4 - e))] T = mm_ex (d + 3 * e + 8) 42 10 [.ref 73, .int (nI (4 - e))] [] U := by
      rw [st, q1, hp_bd, hp_ts, b42_5, if_neg i01]
    rw [st2]
    cases o2 with
    | none => exact p4
    | some r2 =>
      obtain ⟨W, w1, w2⟩ := p4
      refine ⟨W, w1, ?_⟩
      rw [List.append_assoc] at w2
      exact w2
end CP2
end
section
/-! ===== how the class reads: F, and with it a whole E ===== -/
section CP3
variable {S T U V : mm_S} {t : List Nat} {i j k n c q s m a e : Nat} {x y : Int32} {C N : List ab_T} {o : Option (List ab_T)} {z : ab_T} {r : mm_Res}
theorem c44_t {d : Nat} (hT : ct S s t) (h : ce S s T C i) (hi : i ≤ t.length) (hC : C.length ≤ i) (h1 : ps t i ≠ 33) (h2 : ps t i ≠ 40) : rC S s C (pte t i).1 ((pte t i).2.map (fun x => [x])) (mm_cl (d + 6) 44 [.ref 73, .int x] T) := by
  have T0 := fe_t h.1 hT
  have hw := T0.1
  have hl := cs_lt (i := i) hT
  have h100 := hT.2.2.2.2.2.1
  by_cases hi1 : i < t.length
  · obtain ⟨U, g1, g2, g3⟩ := s45 (d := d) hT h (by omega) (by omega)
    have st : mm_cl (d + 6) 44 [.ref 73, .int x] T = some (some (.int (if (pte t i).2 = none then nI 0 else nI 1)), U) := by
      rw [e44, b44_0 (wx_k73 hw), s38 T0 h.1.2.2 (by omega), hp_bd, hp_ts, b44_4, if_neg (fun z => h1 ((nI_eq (by omega) (by omega)).mp z)), b44_11, if_neg (fun z => h2 ((nI_eq (by omega) (by omega)).mp z)), b44_17 (wx_k73 hw), g1, hp_bd, hp_ts, b44_21 (by split <;> rfl)]
    rw [st]
    cases hp : (pte t i).2 with
    | none =>
      rw [if_pos rfl]
      exact ⟨U, rfl, g3 hp⟩
    | some x =>
      rw [if_neg (show ¬ some x = (none : Option ab_T) from fun z => by cases z)]
      exact ⟨U, rfl, g2 x hp⟩
  · have e0 : ab_at (ps t i) plt = none := by
      cases ha : ab_at (ps t i) plt with
      | none => rfl
      | some l => exact absurd (at_ps ha (by decide)) hi1
    have ep : pte t i = (i, none) := by unfold pte; rw [e0]
    have k1 := s215 (d := d) (S := T) T0.2.2.1 (q := 10) (by decide) (by decide) hl
    have e1 : ab_at (ps t i) (stg 10) = none := e0
    rw [ep]
    refine ⟨T, ?_, h.1⟩
    rw [e44, b44_0 (wx_k73 hw), s38 T0 h.1.2.2 (by omega), hp_bd, hp_ts, b44_4, if_neg (fun z => h1 ((nI_eq (by omega) (by omega)).mp z)), b44_11, if_neg (fun z => h2 ((nI_eq (by omega) (by omega)).mp z)), b44_17 (wx_k73 hw), e45, b45_0 (wx_k73 hw), s38 T0 h.1.2.2 (by omega), hp_bd, hp_tsc, show (1000020 : Nat) = sta 10 from rfl, b45_6 (st_k T0.2.2.1 (by decide)), w16 _ hl, k1, hp_bd, hp_ts, b45_10, e1, if_neg (show ¬ nI 0 ≤ pmo none by decide), b45_15, hp_bd, hp_ts, b44_21 rfl]
theorem CF_all (hT : ct S s t) : ∀ (e d : Nat), e ≤ 4 → CF S s t d e := by
  have hs := hT.2.1
  have h100 := hT.2.2.2.2.2.1
  intro e
  induction e with
  | zero =>
    intro d _ T C i h hi hC
    have T0 := fe_t h.1 hT
    have hw := T0.1
    have hl := cs_lt (i := i) hT
    by_cases h1 : ps t i = 33 ∨ ps t i = 40
    · refine ⟨i, none, PE_c.2.1 4 i h1 (Nat.le_refl 4), T, ?_, h.1⟩
      show mm_cl (d + 6) 44 [.ref 73, .int (nI 4)] T = _
      have st : mm_cl (d + 6) 44 [.ref 73, .int (nI 4)] T = mm_ex (d + 6) 44 22 [.ref 73, .int (nI 4), .int (nI (ps t i))] [] T := by
        rw [e44, b44_0 (wx_k73 hw), s38 T0 h.1.2.2 (by omega), hp_bd, hp_ts, b44_4]
        by_cases z : ps t i = 33
        · rw [if_pos (by rw [z])]
        · rw [if_neg (fun y => z ((nI_eq (by omega) (by omega)).mp y)), b44_11, if_pos (by rw [h1.resolve_left z])]
      rw [st, b44_22, if_neg (by decide), b44_27]
    · have h1a : ps t i ≠ 33 := fun z => h1 (Or.inl z)
      have h1b : ps t i ≠ 40 := fun z => h1 (Or.inr z)
      exact ⟨_, _, PE_c.1 4 i h1a h1b, c44_t (d := d) hT h hi hC h1a h1b⟩
  | succ e ih =>
    intro d he T C i h hi hC
    have T0 := fe_t h.1 hT
    have hw := T0.1
    have hl := cs_lt (i := i) hT
    show ∃ j o, PE t 0 (4 - (e + 1)) i j o ∧ rC S s C j o (mm_cl (d + 3 * e + 8 + 1) 44 [.ref 73, .int (nI (4 - (e + 1)))] T)
    have ea : 4 - (e + 1) + 1 = 4 - e := by omega
    generalize hb : 4 - (e + 1) = b at *
    by_cases h1 : ps t i = 33 ∨ ps t i = 40
    · have il : i < t.length := ps_in (by omega)
      have r1 : q73 T (mm_uM T 73 2 (nI (i + 1))) (i + 1) := q_w
      have c1 := ce_36 hs h r1
      have T1 := fe_t c1.1 hT
      have w1 := T1.1
      have st : mm_cl (d + 3 * e + 8 + 1) 44 [.ref 73, .int (nI b)] T = if nI (ps t i) = nI 40 then mm_ex (d + 3 * e + 8 + 1) 44 45 [.ref 73, .int (nI b), .int (nI (ps t i))] [] (mm_uM T 73 2 (nI (i + 1))) else mm_ex (d + 3 * e + 8 + 1) 44 70 [.ref 73, .int (nI b), .int (nI (ps t i))] [] (mm_uM T 73 2 (nI (i + 1))) := by
        have st0 : mm_cl (d + 3 * e + 8 + 1) 44 [.ref 73, .int (nI b)] T = mm_ex (d + 3 * e + 8 + 1) 44 22 [.ref 73, .int (nI b), .int (nI (ps t i))] [] T := by
          rw [e44, b44_0 (wx_k73 hw), s38 T0 h.1.2.2 (by omega), hp_bd, hp_ts, b44_4]
          by_cases z : ps t i = 33
          · rw [if_pos (by rw [z])]
          · rw [if_neg (fun y => z ((nI_eq (by omega) (by omega)).mp y)), b44_11, if_pos (by rw [h1.resolve_left z])]
        rw [st0, b44_22, if_pos (nI_lt (by omega) (by omega)), b44_29 (wx_o73 hw), h.1.2.2, nI_add]
      by_cases z : ps t i = 40
      · rw [if_pos (by rw [z])] at st
        obtain ⟨j, o, p1, p2⟩ := CE_of hT (CB_of hT (ih d (by omega))) _ C (i + 1) c1 (by omega) (by omega)
        rw [← ea] at p1 p2
        have hle := PE_le p1
        rw [b44_45 (wx_k73 w1), nI_add] at st
        cases o with
        | none =>
          obtain ⟨U, q1, q2⟩ := p2
          refine ⟨j, none, PE_c.2.2.2.1 b i j z (by omega) p1, U, ?_, q2⟩
          rw [st, q1, hp_bd, hp_ts, b44_52, if_pos rfl, b44_68]
        | some c =>
          obtain ⟨U, q1, q2⟩ := p2
          have TU := fe_t q2.1 hT
          have jl := hle.2.1 (by omega)
          obtain ⟨V, q3, q4⟩ := s39 (d := d + 3 * e + 4) (q := 9) (by decide) TU q2.1.2.2 (by omega)
          change mm_cl (d + 3 * e + 8) 39 [.ref 73, .ref 1000018] U = _ at q3
          have epw : pw t (stg 9) j = if ps t j = 41 then (j + 1, true) else (j, false) := rfl
          rw [epw] at q3 q4
          refine ⟨_, _, PE_c.2.2.2.2.1 b i j c z (by omega) p1, ?_⟩
          rw [q1, hp_bd, hp_ts, b44_52, if_neg i01, b44_55 (wx_k73 TU.1), q3, hp_bd, hp_ts, b44_61] at st
          have c4 := ce_36 hs q2 q4
          rw [st]
          by_cases y : ps t j = 41
          · rw [if_pos y] at c4
            rw [if_pos y, if_pos y, if_pos y, if_pos rfl, if_neg i01, b44_64]
            exact ⟨V, rfl, c4⟩
          · rw [if_neg y] at c4
            rw [if_neg y, if_neg y, if_neg y]
            refine ⟨V, ?_, c4.1⟩
            rw [if_neg (show ¬ (j, false).2 = true from fun z => by cases z), if_pos rfl, b44_68]
      · have z3 : ps t i = 33 := h1.resolve_right z
        rw [if_neg (fun y => z ((nI_eq (by omega) (by omega)).mp y))] at st
        obtain ⟨j, o, p1, p2⟩ := ih (d + 2) (by omega) _ C (i + 1) c1 (by omega) (by omega)
        rw [← ea, show d + 2 + 3 * e + 6 = d + 3 * e + 8 by omega] at p2
        rw [← ea] at p1
        have hle := PE_le p1
        rw [b44_70 (wx_k73 w1), nI_add] at st
        refine ⟨j, _, PE_c.2.2.1 b i j o z3 (by omega) p1, ?_⟩
        cases o with
        | none =>
          obtain ⟨U, q1, q2⟩ := p2
          refine ⟨U, ?_, q2⟩
          rw [st, q1, hp_bd, hp_ts, b44_77, if_pos rfl, b44_80]
        | some c =>
          obtain ⟨U, q1, q2⟩ := p2
          have hcl := hle.2.2 c rfl
          have cl : (C ++ c).length = C.length + c.length := List.length_append
          have jl := hle.2.1 (by omega)
          have TU := fe_t q2.1 hT
          have RU := TU.2.2.2.2.2.2.2
          obtain ⟨V, q3, q4⟩ := s49 (d := d + 3 * e + 8) (z := Sum.inr 3) hT q2 (by omega)
          refine ⟨V, ?_, by rw [List.append_assoc] at q4; exact q4⟩
          rw [st, q1, hp_bd, hp_ts, b44_77, if_neg i01, b44_82 (wx_o73 TU.1) (hp_rs RU) (by rw [hp_rg RU]; exact ws_k TU.1 hs), hp_rg RU, show (-1 : Int32) = cd_en (Sum.inr 3) from rfl, q3, hp_bd, hp_tn, b44_90]
    · have h1a : ps t i ≠ 33 := fun z => h1 (Or.inl z)
      have h1b : ps t i ≠ 40 := fun z => h1 (Or.inr z)
      exact ⟨_, _, PE_c.1 b i h1a h1b, c44_t (d := d + 3 * e + 3) hT h hi hC h1a h1b⟩
/-- a whole E -/
theorem s42 {d : Nat} (hT : ct S s t) (h : ce S s T C i) (hi : i ≤ t.length) (hC : C.length ≤ i) : ∃ j o, PE t 2 0 i j o ∧ rC S s C j o (mm_cl (d + 20) 42 [.ref 73, .int (nI 0)] T) := CE_of hT (CB_of hT (CF_all hT 4 d (Nat.le_refl _))) T C i h hi hC
end CP3
end
section
/-! ===== how the class reads: clauses ===== -/
def gKs (s c j : Nat) : Prop := (c = 73 ∧ j = 2) ∨ (s ≤ c ∧ c ≤ s + 4)
def feK (S : mm_S) (s : Nat) (U : mm_S) (j : Nat) : Prop := U = mm_wM S (mm_M U) ∧ (∀ c j, ¬ gKs s c j → mm_M U c j = mm_M S c j) ∧ mm_M U 73 2 = nI j
def ck (S : mm_S) (s : Nat) (T : mm_S) (l : List ab_C) (C : List ab_T) (i : Nat) : Prop := feK S s T i ∧ (mm_M T s 0 = nI (ab_law l 2 1) ∧ mm_M T s 1 = nI (ab_law l 3 1) ∧ mm_M T s 2 = nI (min 9 (ab_law l 4 1)) ∧ mm_M T s 3 = nI (ab_law l 5 0)) ∧ mm_M T s 8 = nI (cd_el l).length ∧ mm_M T s 9 = nI C.length ∧ (∀ n, n < C.length → mm_M T (s + 4) n = cd_en (C.getD n (Sum.inr 0))) ∧ cd_cl T s (cd_el l) 0 0 (cd_el l).length C.length
section CP4
variable {S T U V : mm_S} {t : List Nat} {d i j k n q s m a e w N K : Nat} {x y : Int32} {C D : List ab_T} {o : Option (List ab_T)} {z : ab_T} {r : mm_Res} {l L : List ab_C} {c : ab_C} {p : Option ab_C}
theorem law_1 : ab_law (l ++ [c]) w n = if c.1 = w then c.2.1 else ab_law l w n := by
  unfold ab_law
  rw [List.foldl_append]
  rfl
theorem el_1 : cd_el (l ++ [c]) = if c.1 < 2 then cd_el l ++ [c] else cd_el l := by
  unfold cd_el
  rw [List.filter_append]
  by_cases h : c.1 < 2
  · rw [if_pos h, List.filter_cons_of_pos (by simpa using h)]; rfl
  · rw [if_neg h, List.filter_cons_of_neg (by simpa using h), List.filter_nil, List.append_nil]
theorem cco_tr : ∀ {c : List ab_T} {i : Nat}, (∀ n, i ≤ n → n < i + c.length → mm_M U q n = mm_M T q n) → cd_co T q c i → cd_co U q c i := by
  intro c
  induction c with
  | nil => intro i _ _; exact trivial
  | cons x c ih =>
    intro i h hc
    rw [List.length_cons] at h
    exact ⟨(h i (Nat.le_refl _) (by omega)).trans hc.1, ih (fun n a b => h n (by omega) (by omega)) hc.2⟩
theorem cco_of : ∀ {c : List ab_T} {C : List ab_T}, (∀ n, n < (C ++ c).length → mm_M U q n = cd_en ((C ++ c).getD n (Sum.inr 0))) → cd_co U q c C.length := by
  intro c
  induction c with
  | nil => intro C _; exact trivial
  | cons x c ih =>
    intro C h
    refine ⟨?_, ?_⟩
    · have := h C.length (by rw [List.length_append, List.length_cons]; omega)
      rw [List.getD_eq_getElem?_getD, List.getElem?_append_right (Nat.le_refl _), Nat.sub_self] at this
      exact this
    · have e : C ++ x :: c = (C ++ [x]) ++ c := by rw [List.append_assoc]; rfl
      rw [e] at h
      have := ih h
      rw [la1] at this
      exact this
theorem ccl_le : ∀ {L : List ab_C} {k i j n : Nat}, cd_cl T s L k i j n → k + L.length = j ∧ i ≤ n := by
  intro L
  induction L with
  | nil => intro k i j n h; exact ⟨h.1, Nat.le_of_eq h.2⟩
  | cons c L ih =>
    intro k i j n h
    have := ih h.2.2.2.2
    rw [List.length_cons]
    omega
theorem ccl_tr : ∀ {L : List ab_C} {k i j n : Nat}, (∀ m a, 1 ≤ m → m ≤ 3 → a < j → mm_M U (s + m) a = mm_M T (s + m) a) → (∀ a, a < n → mm_M U (s + 4) a = mm_M T (s + 4) a) → cd_cl T s L k i j n → cd_cl U s L k i j n := by
  intro L
  induction L with
  | nil => intro k i j n _ _ h; exact h
  | cons c L ih =>
    intro k i j n g g4 h
    have e := ccl_le h.2.2.2.2
    exact ⟨(g 1 k (by omega) (by omega) (by omega)).trans h.1, (g 2 k (by omega) (by omega) (by omega)).trans h.2.1, (g 3 k (by omega) (by omega) (by omega)).trans h.2.2.1, cco_tr (fun a _ b => g4 a (by omega)) h.2.2.2.1, ih g g4 h.2.2.2.2⟩
theorem ccl_app : ∀ {L : List ab_C} {k i j n : Nat}, cd_cl T s L k i j n → mm_M T (s + 1) j = nI c.1 → mm_M T (s + 2) j = nI c.2.1 → mm_M T (s + 3) j = nI (n + c.2.2.length) → cd_co T (s + 4) c.2.2 n → cd_cl T s (L ++ [c]) k i (j + 1) (n + c.2.2.length) := by
  intro L
  induction L with
  | nil =>
    intro k i j n h h1 h2 h3 h4
    obtain ⟨e1, e2⟩ := h
    subst e1
    subst e2
    exact ⟨h1, h2, h3, h4, rfl, rfl⟩
  | cons b L ih =>
    intro k i j n h h1 h2 h3 h4
    exact ⟨h.1, h.2.1, h.2.2.1, h.2.2.2.1, ih h.2.2.2.2 h1 h2 h3 h4⟩
theorem gE_K {s c j : Nat} (h : gE s c j) : gKs s c j := by unfold gE at h; unfold gKs; omega
theorem k_tr (h : feK S s T i) (h2 : feK T s U j) : feK S s U j := by
  refine ⟨?_, fun c j hc => (h2.2.1 c j hc).trans (h.2.1 c j hc), h2.2.2⟩
  have e := h2.1
  rw [h.1] at e
  exact e
theorem k_36 (h : q73 T U i) : feK T s U i := ⟨h.1, fun c j hc => h.2.1 c j (fun z => hc (Or.inl z)), h.2.2⟩
theorem k_E (h : feT T s U i) : feK T s U i := ⟨h.1, fun c j hc => h.2.1 c j (fun z => hc (gE_K z)), h.2.2⟩
theorem k_u (hs : mm_sh s) (h : mm_M T 73 2 = nI i) (h1 : s ≤ n) (h2 : n ≤ s + 4) : feK T s (mm_uM T n k x) i := by
  have := sh_n73 hs
  exact ⟨hp_uMw, fun c j hc => rdn (fun z => hc (by unfold gKs; omega)), (rdn (by omega)).trans h⟩
theorem k_t (h : feK S s T i) (hT : ct S s t) : ct T s t := by
  obtain ⟨h1, h2, h3, h4, h5, h6, h7, h8⟩ := hT
  have g := h.2.1
  have n := sh_n73 h2
  exact ⟨by rw [h.1]; exact h1, h2, by rw [h.1]; exact h3, (g _ _ (by unfold gKs; omega)).trans h4, fun i hi => (g _ _ (by unfold gKs; omega)).trans (h5 i hi), h6, h7, by rw [h.1]; exact h8⟩
theorem ck_36 (hs : mm_sh s) (h : ck S s T l C i) (hr : q73 T U j) : ck S s U l C j := by
  obtain ⟨h1, ⟨f1, f2, f3, f4⟩, h3, h4, h5, h6⟩ := h
  have g := hr.2.1
  have n := sh_n73 hs
  exact ⟨k_tr h1 (k_36 hr), ⟨(g _ _ (by omega)).trans f1, (g _ _ (by omega)).trans f2, (g _ _ (by omega)).trans f3, (g _ _ (by omega)).trans f4⟩, (g _ _ (by omega)).trans h3, (g _ _ (by omega)).trans h4, fun n hn => (g _ _ (by omega)).trans (h5 n hn), ccl_tr (fun m a _ _ _ => g _ _ (by omega)) (fun a _ => g _ _ (by omega)) h6⟩
def pwq (o : Option Nat) : Nat := match o with
  | none => 7
  | some w => w + 1
theorem s40 (hx : n < 128) : mm_cl d 40 [.int (nI n)] S = some (some (.ref (sta (pwq (ab_at n pfl)))), S) := by
  cases h : ab_at n pfl with
  | none =>
    have nn : ∀ c, ab_at c pfl ≠ none → c < 128 → ¬ nI n = nI c := fun c hc hl e => by
      have := (nI_eq (by omega) (by omega)).mp e
      rw [this] at h
      exact hc h
    rw [e40, b40_0, b40_1, if_neg (nn 97 (by decide) (by decide)), if_neg (nn 99 (by decide) (by decide)), if_neg (nn 100 (by decide) (by decide)), if_neg (nn 102 (by decide) (by decide)), if_neg (nn 109 (by decide) (by decide)), if_neg (nn 117 (by decide) (by decide)), b40_78]
    rfl
  | some w =>
    have hw := at_some h
    have hw6 : w < 6 := hw.1
    rcases (by omega : w = 0 ∨ w = 1 ∨ w = 2 ∨ w = 3 ∨ w = 4 ∨ w = 5) with rfl | rfl | rfl | rfl | rfl | rfl
    · have e : n = 109 := hw.2.symm
      subst e
      rw [e40, b40_0, b40_1, if_neg (by decide), if_neg (by decide), if_neg (by decide), if_neg (by decide), if_pos rfl, b40_60]
      rfl
    · have e : n = 99 := hw.2.symm
      subst e
      rw [e40, b40_0, b40_1, if_neg (by decide), if_pos rfl, b40_63]
      rfl
    · have e : n = 117 := hw.2.symm
      subst e
      rw [e40, b40_0, b40_1, if_neg (by decide), if_neg (by decide), if_neg (by decide), if_neg (by decide), if_neg (by decide), if_pos rfl, b40_66]
      rfl
    · have e : n = 100 := hw.2.symm
      subst e
      rw [e40, b40_0, b40_1, if_neg (by decide), if_neg (by decide), if_pos rfl, b40_69]
      rfl
    · have e : n = 97 := hw.2.symm
      subst e
      rw [e40, b40_0, b40_1, if_pos rfl, b40_72]
      rfl
    · have e : n = 102 := hw.2.symm
      subst e
      rw [e40, b40_0, b40_1, if_neg (by decide), if_neg (by decide), if_neg (by decide), if_pos rfl, b40_75]
      rfl
theorem stg_w : ∀ w, w < 6 → stg (w + 1) = pws.getD w [] ∧ 0 < (stg (w + 1)).length := by decide
/-- a clause with an E is put -/
theorem s51 (hT : ct S s t) (h1 : feK S s T i) (h8 : mm_M T s 8 = nI K) (hK : K < 10) (h9 : mm_M T s 9 = nI N) : mm_cl d 51 [.ref s, .int x, .int y] T = some (none, mm_uM (mm_uM (mm_uM (mm_uM T (s + 1) K x) (s + 2) K y) (s + 3) K (nI N)) s 8 (nI (K + 1))) := by
  have T0 := k_t h1 hT
  have w := T0.1
  have hs := hT.2.1
  have ckk : (nI K).toNatClampNeg = K := nI_clamp (by omega)
  have bk : mm_inb (nI K) 10 = true := hp_inb hK (by omega)
  have w1 : mm_W (mm_uM T (s + 1) K x) := w
  have w2 : mm_W (mm_uM (mm_uM T (s + 1) K x) (s + 2) K y) := w
  have w3 : mm_W (mm_uM (mm_uM (mm_uM T (s + 1) K x) (s + 2) K y) (s + 3) K (nI N)) := w
  have m1 : mm_M (mm_uM T (s + 1) K x) s 8 = nI K := (rdn (by omega)).trans h8
  have m2 : mm_M (mm_uM (mm_uM T (s + 1) K x) (s + 2) K y) s 8 = nI K := (rdn (by omega)).trans m1
  have m3 : mm_M (mm_uM (mm_uM (mm_uM T (s + 1) K x) (s + 2) K y) (s + 3) K (nI N)) s 8 = nI K := (rdn (by omega)).trans m2
  have m9 : mm_M (mm_uM (mm_uM T (s + 1) K x) (s + 2) K y) s 9 = nI N := (rdn (by omega)).trans ((rdn (by omega)).trans h9)
  rw [e51, b51_0 (ws_o w hs), h8, if_neg (nI_ge hK (by omega)), b51_9 (ws_o w hs) (ws_s4 w hs) (by rw [ws_g4 w hs]; exact ws_a1 w hs) (by rw [h8, ws_g4 w hs, ws_N1 w hs]; exact bk) (ws_s5 w hs), h8, ws_g4 w hs, ws_g5 w hs, ckk, b51_24 (ws_o w1 hs) (ws_a2 w1 hs) (by rw [m1, ws_N2 w1 hs]; exact bk) (ws_o w1 hs) (ws_s6 w1 hs), m1, ws_g6 w1 hs, ckk, b51_34 (ws_o w2 hs) (ws_o w2 hs) (ws_a3 w2 hs) (by rw [m2, ws_N3 w2 hs]; exact bk), m2, m9, ckk, b51_44 (ws_o w3 hs) (ws_o w3 hs), m3, nI_add]
end CP4
end
section
/-! ===== how the class reads: a clause ===== -/
def rK (S : mm_S) (s : Nat) (l : List ab_C) (j : Nat) (p : Option ab_C) (r : mm_Res) : Prop := match p with
  | none => ∃ U, r = some (some (.int (nI 0)), U) ∧ feK S s U j
  | some c => ∃ U C2, r = some (some (.int (nI 1)), U) ∧ ck S s U (l ++ [c]) C2 j ∧ C2.length ≤ j
section CP5
variable {S T U V : mm_S} {t : List Nat} {d i j k n q s m a e w N K : Nat} {x y : Int32} {C D : List ab_T} {o : Option (List ab_T)} {z : ab_T} {r : mm_Res} {l L : List ab_C} {c : ab_C} {p : Option ab_C}
theorem ck_f (hs : mm_sh s) (h : ck S s T l C i) (h2 : 2 ≤ w) (h6 : w < 6) : ck S s (mm_uM T s (w - 2) (nI (if w = 4 then min 9 n else n))) (l ++ [(w, n, [])]) C i := by
  obtain ⟨h1, ⟨f1, f2, f3, f4⟩, h3, h4, h5, h7⟩ := h
  have n73 := sh_n73 hs
  have el : cd_el (l ++ [(w, n, [])]) = cd_el l := by rw [el_1]; exact if_neg (show ¬ w < 2 by omega)
  refine ⟨k_tr h1 (k_u hs h1.2.2 (Nat.le_refl _) (by omega)), ⟨?_, ?_, ?_, ?_⟩, ?_, (rdn (by omega)).trans h4, fun n hn => (rdn (by omega)).trans (h5 n hn), ?_⟩
  · rw [law_1]
    show _ = nI (if w = 2 then n else ab_law l 2 1)
    by_cases e : w = 2
    · subst e; rw [if_pos rfl]; exact rds
    · rw [if_neg e, rdn (by omega)]; exact f1
  · rw [law_1]
    show _ = nI (if w = 3 then n else ab_law l 3 1)
    by_cases e : w = 3
    · subst e; rw [if_pos rfl]; exact rds
    · rw [if_neg e, rdn (by omega)]; exact f2
  · rw [law_1]
    show _ = nI (min 9 (if w = 4 then n else ab_law l 4 1))
    by_cases e : w = 4
    · subst e; rw [if_pos rfl]; exact rds
    · rw [rdn (by omega), if_neg e]; exact f3
  · rw [law_1]
    show _ = nI (if w = 5 then n else ab_law l 5 0)
    by_cases e : w = 5
    · subst e; rw [if_pos rfl]; exact rds
    · rw [if_neg e, rdn (by omega)]; exact f4
  · rw [el, rdn (by omega)]; exact h3
  · rw [el]
    exact ccl_tr (fun m a _ _ _ => rdn (by omega)) (fun a _ => rdn (by omega)) h7
theorem s41 (hT : ct S s t) (h : ck S s T l C i) (hl : l.length ≤ 9) (hC : C.length ≤ i) (hi : i ≤ t.length) : ∃ j p, PC t i j p ∧ rK S s l j p (mm_cl (d + 21) 41 [.ref 73] T) := by
  have hs := hT.2.1
  have n73 := sh_n73 hs
  have h100 := hT.2.2.2.2.2.1
  have T0 := k_t h.1 hT
  have hw := T0.1
  have hn := cs_lt (i := i) hT
  have st : ∀ q, q < 12 → pwq (ab_at (ps t i) pfl) = q → mm_cl (d + 21) 41 [.ref 73] T = mm_ex (d + 21) 41 14 [.ref 73, .int (nI (ps t i)), .ref (sta q), .null] [.int (if (stg q).length = 0 then nI 1 else nI 0)] T := by
    intro q hq e
    rw [e41, b41_0 (wx_k73 hw), s38 T0 h.1.2.2 (by omega), hp_bd, hp_ts, b41_4, s40 hn, hp_bd, hp_ts, e, b41_9 (st_k T0.2.2.1 hq), s213 T0.2.2.1 hq, hp_bd, hp_ts]
  cases ha : ab_at (ps t i) pfl with
  | none =>
    refine ⟨i, none, by unfold PC; rw [ha]; exact ⟨rfl, rfl⟩, T, ?_, h.1⟩
    rw [st 7 (by decide) (by rw [ha]; rfl), b41_14, if_pos (show (stg 7).length = 0 from rfl), if_neg i01, b41_25]
  | some w =>
    have hw6 : w < 6 := at_ln ha
    have hpw := at_some ha
    have sw := stg_w w hw6
    have n0 : ∀ w, w < 6 → 0 ∉ pws.getD w [] := by decide
    have st := st (w + 1) (by omega) (by rw [ha]; rfl)
    have nl : ¬ (stg (w + 1)).length = 0 := by omega
    rw [b41_14, if_neg nl, if_pos rfl, b41_17 (wx_k73 hw)] at st
    obtain ⟨U1, g1, g2⟩ := s39 (d := d + 16) (q := w + 1) (by omega) T0 h.1.2.2 (by omega)
    change mm_cl (d + 20) 39 _ _ = _ at g1
    rw [sw.1] at g1 g2
    rw [g1, hp_bd, hp_ts, b41_22] at st
    have k1 := ck_36 hs h g2
    have ple := (@pw_le t (pws.getD w []) i (n0 w hw6)).2 hi
    have ple0 := (@pw_le t (pws.getD w []) i (n0 w hw6)).1
    by_cases b1 : (pw t (pws.getD w []) i).2 = true
    · rw [if_pos b1, if_neg i01] at st
      have T1 := k_t k1.1 hT
      obtain ⟨U2, g3, g4⟩ := s46 (d := d + 20) T1 k1.1.2.2 (by omega)
      have k2 := ck_36 hs k1 g4
      have T2 := k_t k2.1 hT
      have w2 := T2.1
      have nle := @pnu_le t (pw t (pws.getD w []) i).1
      rw [b41_27 (wx_k73 T1.1), g3, hp_bd, hp_ts, b41_31] at st
      cases hnn : (pnu t (pw t (pws.getD w []) i).1).2 with
      | none =>
        rw [hnn, if_neg (show ¬ nI 0 ≤ pmo none by decide), b41_36] at st
        refine ⟨(pnu t (pw t (pws.getD w []) i).1).1, none, ?_, U2, st, k2.1⟩
        unfold PC
        rw [ha]
        simp only
        rw [if_neg (by rw [b1]; decide), hnn]
        first
          | exact ⟨rfl, rfl⟩
          | exact ⟨trivial, trivial⟩
      | some n =>
        have hn1 := (pnu_n hnn).1
        rw [hnn, show pmo (some n) = nI n from rfl, if_pos (nI_le (Nat.zero_le _) (by omega)), b41_38] at st
        have pcn : ∀ {j : Nat} {p : Option ab_C}, (if w < 2 then (if ps t (pnu t (pw t (pws.getD w []) i).1).1 = 32 then ∃ o', PE t 2 0 ((pnu t (pw t (pws.getD w []) i).1).1 + 1) j o' ∧ p = o'.map (fun c => (w, n, c)) else j = (pnu t (pw t (pws.getD w []) i).1).1 ∧ p = none) else j = (pnu t (pw t (pws.getD w []) i).1).1 ∧ p = some (w, n, [])) → PC t i j p := by
          intro j p hp
          unfold PC
          rw [ha]
          simp only
          rw [if_neg (by rw [b1]; decide), hnn]
          exact hp
        have RU := T2.2.2.2.2.2.2.2
        by_cases b3 : w < 2
        · have st88 : mm_cl (d + 21) 41 [.ref 73] T = mm_ex (d + 21) 41 88 [.ref 73, .int (nI (ps t i)), .ref (sta (w + 1)), .int (nI n)] [] U2 := by
            rw [st, b41_39]
            rcases (by omega : w = 0 ∨ w = 1) with rfl | rfl
            · have e : ps t i = 109 := hpw.2.symm
              rw [e, if_neg (by decide), if_neg (by decide), if_neg (by decide), if_pos rfl]
            · have e : ps t i = 99 := hpw.2.symm
              rw [e, if_neg (by decide), if_pos rfl]
          generalize (pnu t (pw t (pws.getD w []) i).1).1 = b at *
          obtain ⟨U3, f1, f2⟩ := s39 (d := d + 16) (q := 8) (by decide) T2 k2.1.2.2 (by omega)
          change mm_cl (d + 20) 39 [.ref 73, .ref 1000016] _ = _ at f1
          have epw : pw t (stg 8) b = if ps t b = 32 then (b + 1, true) else (b, false) := rfl
          rw [epw] at f1 f2
          rw [b41_88 (wx_k73 w2), f1, hp_bd, hp_ts, b41_94] at st88
          have k3 := ck_36 hs k2 f2
          by_cases b4 : ps t b = 32
          · rw [if_pos b4] at k3 st88
            rw [if_pos rfl, if_neg i01] at st88
            have bl : b < t.length := ps_in (by omega)
            have T3 := k_t k3.1 hT
            obtain ⟨⟨z1, z2, z3⟩, ⟨f1', f2', f3', f4'⟩, k8, k9, kc, kcl⟩ := k3
            have E3 : ce U3 s U3 C (b + 1) := ⟨⟨rfl, fun _ _ _ => rfl, z3⟩, k9, kc⟩
            obtain ⟨j, o, p1, p2⟩ := s42 (d := d) T3 E3 (by omega) (by omega)
            have hle := PE_le p1
            rw [b41_97 (wx_k73 T3.1)] at st88
            refine ⟨j, o.map (fun c => (w, n, c)), pcn (by rw [if_pos b3, if_pos b4]; exact ⟨o, p1, rfl⟩), ?_⟩
            cases o with
            | none =>
              obtain ⟨U4, q1, q2⟩ := p2
              refine ⟨U4, ?_, k_tr ⟨z1, z2, z3⟩ (k_E q2)⟩
              rw [st88, q1, hp_bd, hp_ts, b41_102, if_pos rfl, b41_105]
            | some c =>
              obtain ⟨U4, ⟨q1, q2⟩⟩ := p2
              have hcl := hle.2.2 c rfl
              have cl : (C ++ c).length = C.length + c.length := List.length_append
              have jl := hle.2.1 (by omega)
              have kU4 : feK S s U4 j := k_tr ⟨z1, z2, z3⟩ (k_E q2.1)
              have T4 := k_t kU4 hT
              have R4 := T4.2.2.2.2.2.2.2
              have gg := q2.1.2.1
              have elK : (cd_el l).length ≤ 9 := Nat.le_trans (List.length_filter_le _ _) hl
              have m8 : mm_M U4 s 8 = nI (cd_el l).length := (gg _ _ (by unfold gE; omega)).trans k8
              have k51 := s51 (d := d + 20) (x := nI w) (y := nI n) hT kU4 m8 (by omega) q2.2.1
              have fin : mm_cl (d + 21) 41 [.ref 73] T = some (some (.int (nI 1)), mm_uM (mm_uM (mm_uM (mm_uM U4 (s + 1) (cd_el l).length (nI w)) (s + 2) (cd_el l).length (nI n)) (s + 3) (cd_el l).length (nI (C ++ c).length)) s 8 (nI ((cd_el l).length + 1))) := by
                rw [st88, q1, hp_bd, hp_ts, b41_102, if_neg i01, b41_107 (wx_o73 T4.1) (hp_rs R4), hp_rg R4]
                rcases (by omega : w = 0 ∨ w = 1) with rfl | rfl
                · have e : ps t i = 109 := hpw.2.symm
                  rw [if_pos (by rw [e]), b41_117 (ws_k T4.1 hs), k51, hp_bd, hp_tn, b41_126]
                · have e : ps t i = 99 := hpw.2.symm
                  rw [if_neg (by rw [e]; decide), b41_121 (ws_k T4.1 hs), k51, hp_bd, hp_tn, b41_126]
              have el : cd_el (l ++ [(w, n, c)]) = cd_el l ++ [(w, n, c)] := by rw [el_1]; exact if_pos b3
              have v1 : feK S s (mm_uM U4 (s + 1) (cd_el l).length (nI w)) j := k_tr kU4 (k_u hs kU4.2.2 (by omega) (by omega))
              have v2 : feK S s (mm_uM (mm_uM U4 (s + 1) (cd_el l).length (nI w)) (s + 2) (cd_el l).length (nI n)) j := k_tr v1 (k_u hs v1.2.2 (by omega) (by omega))
              have v3 : feK S s (mm_uM (mm_uM (mm_uM U4 (s + 1) (cd_el l).length (nI w)) (s + 2) (cd_el l).length (nI n)) (s + 3) (cd_el l).length (nI (C ++ c).length)) j := k_tr v2 (k_u hs v2.2.2 (by omega) (by omega))
              have v4 : feK S s (mm_uM (mm_uM (mm_uM (mm_uM U4 (s + 1) (cd_el l).length (nI w)) (s + 2) (cd_el l).length (nI n)) (s + 3) (cd_el l).length (nI (C ++ c).length)) s 8 (nI ((cd_el l).length + 1))) j := k_tr v3 (k_u hs v3.2.2 (by omega) (by omega))
              have rr : ∀ m a, ¬ ((s + 1 ≤ m ∧ m ≤ s + 3 ∧ a = (cd_el l).length) ∨ (m = s ∧ a = 8)) → mm_M (mm_uM (mm_uM (mm_uM (mm_uM U4 (s + 1) (cd_el l).length (nI w)) (s + 2) (cd_el l).length (nI n)) (s + 3) (cd_el l).length (nI (C ++ c).length)) s 8 (nI ((cd_el l).length + 1))) m a = mm_M U4 m a := fun m a h => (rdn (by omega)).trans ((rdn (by omega)).trans ((rdn (by omega)).trans (rdn (by omega))))
              have lw : ∀ y z, 2 ≤ y → ab_law (l ++ [(w, n, c)]) y z = ab_law l y z := fun y z hy => by rw [law_1]; exact if_neg (show ¬ w = y by omega)
              refine ⟨_, C ++ c, fin, ⟨v4, ⟨?_, ?_, ?_, ?_⟩, ?_, ?_, fun a ha => ?_, ?_⟩, by omega⟩
              · rw [rr _ _ (by omega), lw 2 1 (by decide), gg _ _ (by unfold gE; omega)]; exact f1'
              · rw [rr _ _ (by omega), lw 3 1 (by decide), gg _ _ (by unfold gE; omega)]; exact f2'
              · rw [rr _ _ (by omega), lw 4 1 (by decide), gg _ _ (by unfold gE; omega)]; exact f3'
              · rw [rr _ _ (by omega), lw 5 0 (by decide), gg _ _ (by unfold gE; omega)]; exact f4'
              · rw [rds, el, la1]
              · rw [rr _ _ (by omega)]; exact q2.2.1
              · rw [rr _ _ (by omega)]; exact q2.2.2 a ha
              · rw [el, la1]
                refine Eq.mp (congrArg (fun z => cd_cl _ s (cd_el l ++ [(w, n, c)]) 0 0 ((cd_el l).length + 1) z) cl.symm) ?_
                refine ccl_app (c := (w, n, c)) (ccl_tr (fun m a h1 h2 h3 => (rr _ _ (by omega)).trans (gg _ _ (by unfold gE; omega))) (fun a ha => ?_) kcl) ?_ ?_ ?_ ?_
                · rw [rr _ _ (by omega), q2.2.2 a (by omega), ga_l ha]
                  exact (kc a ha).symm
                · exact (rdn (by omega)).trans ((rdn (by omega)).trans ((rdn (by omega)).trans rds))
                · exact (rdn (by omega)).trans ((rdn (by omega)).trans rds)
                · rw [rdn (by omega), rds]
                  exact congrArg nI cl
                · exact cco_of (fun a ha => (rr _ _ (by omega)).trans (q2.2.2 a ha))
          · rw [if_neg b4] at k3 st88
            refine ⟨b, none, pcn (by rw [if_pos b3, if_neg b4]; exact ⟨rfl, rfl⟩), U3, ?_, k3.1⟩
            rw [st88, if_neg (show ¬ (b, false).2 = true from fun z => by cases z), if_pos rfl, b41_105]
        · have fin : mm_cl (d + 21) 41 [.ref 73] T = some (some (.int (nI 1)), mm_uM U2 s (w - 2) (nI (if w = 4 then min 9 n else n))) := by
            have hso := ws_o w2 hs
            rw [st, b41_39]
            rcases (by omega : w = 2 ∨ w = 3 ∨ w = 4 ∨ w = 5) with rfl | rfl | rfl | rfl
            · have e : ps t i = 117 := hpw.2.symm
              rw [e, if_neg (by decide), if_neg (by decide), if_neg (by decide), if_neg (by decide), if_pos rfl, b41_128 (wx_o73 w2) (hp_rs RU) (by rw [hp_rg RU]; exact hso), hp_rg RU]
              rfl
            · have e : ps t i = 100 := hpw.2.symm
              rw [e, if_neg (by decide), if_neg (by decide), if_pos rfl, b41_138 (wx_o73 w2) (hp_rs RU) (by rw [hp_rg RU]; exact hso), hp_rg RU]
              rfl
            · have e : ps t i = 97 := hpw.2.symm
              have em : (if nI 9 < nI n then nI 9 else nI n) = nI (min 9 n) := by
                by_cases q : 9 < n
                · rw [if_pos (nI_lt q (by omega)), show min 9 n = 9 by omega]
                · rw [if_neg (nI_nlt (by omega) (by omega)), show min 9 n = n by omega]
              rw [e, if_pos rfl, b41_148 (wx_o73 w2) (hp_rs RU) (by rw [hp_rg RU]; exact hso), hp_rg RU, em]
              rfl
            · have e : ps t i = 102 := hpw.2.symm
              rw [e, if_neg (by decide), if_neg (by decide), if_neg (by decide), if_neg (by decide), if_neg (by decide), b41_163 (wx_o73 w2) (hp_rs RU) (by rw [hp_rg RU]; exact hso), hp_rg RU]
              rfl
          exact ⟨_, some (w, n, []), pcn (by rw [if_neg b3]; exact ⟨rfl, rfl⟩), _, C, fin, ck_f hs k2 (by omega) hw6, by omega⟩
    · have b1f : (pw t (pws.getD w []) i).2 = false := by
        cases h : (pw t (pws.getD w []) i).2 with
        | true => exact absurd h b1
        | false => rfl
      rw [if_neg b1, if_pos rfl, b41_25] at st
      refine ⟨(pw t (pws.getD w []) i).1, none, ?_, U1, st, k1.1⟩
      unfold PC
      rw [ha]
      simp only
      rw [if_pos b1f]
      first
        | exact ⟨rfl, rfl⟩
        | exact ⟨trivial, trivial⟩
end CP5
end
section
/-! ===== how the class reads: the whole text ===== -/
def rL (S : mm_S) (s j : Nat) (o : Option (List ab_C)) (r : mm_Res) : Prop := match o with
  | none => ∃ U, r = some (some (.int (nI j)), U) ∧ feK S s U j
  | some l => ∃ U C, r = some (some (.int (-1)), U) ∧ ck S s U l C j ∧ C.length ≤ 100
section CP6
variable {S T U V : mm_S} {t : List Nat} {d i j k n q s m a e w N K : Nat} {x y : Int32} {C D : List ab_T} {r : mm_Res} {l L : List ab_C} {c : ab_C} {p : Option ab_C} {o : Option (List ab_C)}
theorem L37 (hT : ct S s t) : ∀ (m : Nat) (l : List ab_C) (C : List ab_T) (i : Nat) (T : mm_S), ck S s T l C i → m + 1 + l.length = 10 → C.length ≤ i → i ≤ t.length → ∃ j o, PL t (m + 1) l i j o ∧ rL S s j o (mm_ex (d + 22) 37 19 [.ref 73, .ref s, .int (nI (l.length + 1))] [] T) := by
  have hs := hT.2.1
  have h100 := hT.2.2.2.2.2.1
  intro m
  induction m with
  | zero =>
    intro l C i T h hm hC hi
    have T0 := k_t h.1 hT
    obtain ⟨k, p, p1, p2⟩ := s41 (d := d) hT h (by omega) hC hi
    have hk := PC_le p1 hi
    have st : mm_ex (d + 22) 37 19 [.ref 73, .ref s, .int (nI (l.length + 1))] [] T = mm_bd (mm_cl (d + 21) 41 [.ref 73] T) (fun u S2 => mm_ex (d + 22) 37 29 [.ref 73, .ref s, .int (nI (l.length + 1))] (u.toList ++ []) S2) := by
      rw [b37_19, if_neg (nI_nlt (by omega) (by omega)), b37_25 (wx_k73 T0.1)]
    cases p with
    | none =>
      obtain ⟨U, q1, q2⟩ := p2
      have TU := k_t q2 hT
      refine ⟨k, none, Or.inl ⟨p1, rfl⟩, U, ?_, q2⟩
      rw [st, q1, hp_bd, hp_ts, b37_29, if_pos rfl, b37_32 (wx_o73 TU.1), q2.2.2]
    | some c =>
      obtain ⟨U, C2, q1, q2, q3⟩ := p2
      have TU := k_t q2.1 hT
      have st2 : mm_ex (d + 22) 37 19 [.ref 73, .ref s, .int (nI (l.length + 1))] [] T = if nI k < nI t.length then mm_ex (d + 22) 37 50 [.ref 73, .ref s, .int (nI (l.length + 1))] [] U else mm_ex (d + 22) 37 48 [.ref 73, .ref s, .int (nI (l.length + 1))] [] U := by
        rw [st, q1, hp_bd, hp_ts, b37_29, if_neg i01, b37_37 (wx_o73 TU.1), q2.1.2.2, TU.2.2.2.1]
      by_cases kl : k < t.length
      · refine ⟨k, none, Or.inr ⟨k, c, p1, Or.inr (Or.inl ⟨kl, Or.inl rfl, rfl, rfl⟩)⟩, U, ?_, q2.1⟩
        rw [st2, if_pos (nI_lt kl (by omega)), b37_50, if_pos (by rw [show l.length + 1 = 10 by omega]), b37_65 (wx_o73 TU.1), q2.1.2.2]
      · refine ⟨k, some (l ++ [c]), Or.inr ⟨k, c, p1, Or.inl ⟨by omega, rfl, rfl⟩⟩, U, C2, ?_, q2, by omega⟩
        rw [st2, if_neg (nI_nlt (by omega) (by omega)), b37_48]
  | succ m ih =>
    intro l C i T h hm hC hi
    have T0 := k_t h.1 hT
    obtain ⟨k, p, p1, p2⟩ := s41 (d := d) hT h (by omega) hC hi
    have hk := PC_le p1 hi
    have st : mm_ex (d + 22) 37 19 [.ref 73, .ref s, .int (nI (l.length + 1))] [] T = mm_bd (mm_cl (d + 21) 41 [.ref 73] T) (fun u S2 => mm_ex (d + 22) 37 29 [.ref 73, .ref s, .int (nI (l.length + 1))] (u.toList ++ []) S2) := by
      rw [b37_19, if_neg (nI_nlt (by omega) (by omega)), b37_25 (wx_k73 T0.1)]
    cases p with
    | none =>
      obtain ⟨U, q1, q2⟩ := p2
      have TU := k_t q2 hT
      refine ⟨k, none, Or.inl ⟨p1, rfl⟩, U, ?_, q2⟩
      rw [st, q1, hp_bd, hp_ts, b37_29, if_pos rfl, b37_32 (wx_o73 TU.1), q2.2.2]
    | some c =>
      obtain ⟨U, C2, q1, q2, q3⟩ := p2
      have TU := k_t q2.1 hT
      have st2 : mm_ex (d + 22) 37 19 [.ref 73, .ref s, .int (nI (l.length + 1))] [] T = if nI k < nI t.length then mm_ex (d + 22) 37 50 [.ref 73, .ref s, .int (nI (l.length + 1))] [] U else mm_ex (d + 22) 37 48 [.ref 73, .ref s, .int (nI (l.length + 1))] [] U := by
        rw [st, q1, hp_bd, hp_ts, b37_29, if_neg i01, b37_37 (wx_o73 TU.1), q2.1.2.2, TU.2.2.2.1]
      by_cases kl : k < t.length
      · have n10 : ¬ nI (l.length + 1) = nI 10 := fun z => by
          have := (nI_eq (by omega) (by omega)).mp z
          omega
        obtain ⟨V, f1, f2⟩ := s39 (d := d + 17) (q := 0) (by decide) TU q2.1.2.2 (by omega)
        change mm_cl (d + 21) 39 [.ref 73, .ref 1000000] _ = _ at f1
        have epw : pw t (stg 0) k = if ps t k = 59 then (k + 1, true) else (k, false) := rfl
        rw [epw] at f1 f2
        have kV := ck_36 hs q2 f2
        have TV := k_t kV.1 hT
        rw [if_pos (nI_lt kl (by omega)), b37_50, if_neg n10, b37_56 (wx_k73 TU.1), f1, hp_bd, hp_ts, b37_62] at st2
        by_cases h59 : ps t k = 59
        · rw [if_pos h59] at kV st2
          rw [if_pos rfl, if_neg i01, b37_70, nI_add] at st2
          have lc := @la1 _ l c
          obtain ⟨j, o, r1, r2⟩ := ih (l ++ [c]) C2 (k + 1) V kV (by omega) (by omega) (by omega)
          rw [lc] at r2
          refine ⟨j, o, Or.inr ⟨k, c, p1, Or.inr (Or.inr ⟨kl, by omega, h59, r1⟩)⟩, ?_⟩
          rw [st2]
          exact r2
        · rw [if_neg h59] at kV st2
          refine ⟨k, none, Or.inr ⟨k, c, p1, Or.inr (Or.inl ⟨kl, Or.inr h59, rfl, rfl⟩)⟩, V, ?_, kV.1⟩
          rw [st2, if_neg (show ¬ (k, false).2 = true from fun z => by cases z), if_pos rfl, b37_65 (wx_o73 TV.1), kV.1.2.2]
      · refine ⟨k, some (l ++ [c]), Or.inr ⟨k, c, p1, Or.inl ⟨by omega, rfl, rfl⟩⟩, U, C2, ?_, q2, by omega⟩
        rw [st2, if_neg (nI_nlt (by omega) (by omega)), b37_48]
/-- into a shop that is cleared -/
theorem s37 (hT : ct S s t) : ∃ j o, PL t 10 [] 0 j o ∧ rL S s j o (mm_ex (d + 22) 37 6 [.ref 73, .ref s, .null] [.ref 73] S) := by
  have hw := hT.1
  have hs := hT.2.1
  have n73 := sh_n73 hs
  have R := hT.2.2.2.2.2.2.2
  have e0 : ∀ {X : mm_S} {n k : Nat} {x : Int32}, n = s → (X = mm_wM S (mm_M X) ∧ ∀ c j, ¬ gKs s c j → mm_M X c j = mm_M S c j) → (mm_uM X n k x = mm_wM S (mm_M (mm_uM X n k x)) ∧ ∀ c j, ¬ gKs s c j → mm_M (mm_uM X n k x) c j = mm_M S c j) := by
    intro X n k x hn h
    exact ⟨wM_u h.1, fun c j hc => (rdn (fun z => hc (by unfold gKs; omega))).trans (h.2 c j hc)⟩
  have b0 : S = mm_wM S (mm_M S) ∧ ∀ c j, ¬ gKs s c j → mm_M S c j = mm_M S c j := ⟨rfl, fun _ _ _ => rfl⟩
  have b6 := e0 (n := s) (k := 3) (x := nI 0) rfl (e0 (n := s) (k := 2) (x := nI 1) rfl (e0 (n := s) (k := 1) (x := nI 1) rfl (e0 (n := s) (k := 0) (x := nI 1) rfl (e0 (n := s) (k := 9) (x := nI 0) rfl (e0 (n := s) (k := 8) (x := nI 0) rfl b0)))))
  have st : mm_ex (d + 22) 37 6 [.ref 73, .ref s, .null] [.ref 73] S = mm_ex (d + 22) 37 19 [.ref 73, .ref s, .int (nI 1)] [] (mm_uM (mm_uM (mm_uM (mm_uM (mm_uM (mm_uM (mm_uM S s 8 (nI 0)) s 9 (nI 0)) s 0 (nI 1)) s 1 (nI 1)) s 2 (nI 1)) s 3 (nI 0)) 73 2 (nI 0)) := by
    have w6 : mm_W (mm_uM (mm_uM (mm_uM (mm_uM (mm_uM (mm_uM S s 8 (nI 0)) s 9 (nI 0)) s 0 (nI 1)) s 1 (nI 1)) s 2 (nI 1)) s 3 (nI 0)) := hw
    rw [b37_6 (wx_o73 hw) (hp_rs R) (by rw [hp_rg R]; exact ws_k hw hs), hp_rg R, e48, b48_0 (ws_o hw hs), hp_bd, hp_tn, b37_12 (wx_o73 w6)]
  rw [st]
  refine L37 (d := d) hT 9 [] [] 0 _ ⟨⟨wM_u b6.1, fun c j hc => (rdn (fun z => hc (Or.inl z))).trans (b6.2 c j hc), rds⟩, ⟨?_, ?_, ?_, ?_⟩, ?_, ?_, fun n hn => absurd hn (Nat.not_lt_zero _), ⟨rfl, rfl⟩⟩ rfl (Nat.le_refl _) (Nat.zero_le _)
  · exact (rdn (by omega)).trans ((rdn (by omega)).trans ((rdn (by omega)).trans ((rdn (by omega)).trans rds)))
  · exact (rdn (by omega)).trans ((rdn (by omega)).trans ((rdn (by omega)).trans rds))
  · exact (rdn (by omega)).trans ((rdn (by omega)).trans rds)
  · exact (rdn (by omega)).trans rds
  · exact (rdn (by omega)).trans ((rdn (by omega)).trans ((rdn (by omega)).trans ((rdn (by omega)).trans ((rdn (by omega)).trans ((rdn (by omega)).trans rds)))))
  · exact (rdn (by omega)).trans ((rdn (by omega)).trans ((rdn (by omega)).trans ((rdn (by omega)).trans ((rdn (by omega)).trans rds))))
end CP6
end
section
/-! ===== shop, in the class: what stays ===== -/
def sf_h (F : Nat → Nat → Prop) (S : mm_S) (k : Nat) : Prop := (∀ c j, 137 ≤ c → c < mm_n S → ¬ F c j) ∧ ∀ s m j, mm_sh s → s ≠ 43 + 5 * k → m ≤ 4 → ¬ F (s + m) j
section C8
variable {F : Nat → Nat → Prop} {S T : mm_S} {a b c j k e n s : Nat} {X : gb_X} {P : ab_P} {D : ab_D} {G : gb_G}
theorem ad_ne {o : Option Nat} (h : ∀ q, o = some q → q < k) : gc_ad o ≠ 43 + 5 * k := by
  cases o with
  | none => show 1 ≠ 43 + 5 * k; omega
  | some q =>
    have := h q rfl
    show 43 + 5 * q ≠ 43 + 5 * k
    omega
theorem tr_P8 (h : sf_f F S T) (ho : sf_h F S k) (h0 : ∀ m j, (m = 0 ∧ (j = 8 ∨ j = 9 ∨ j = 10)) ∨ m = 1 ∨ m = 2 ∨ m = 3 → ¬ F (a + m) j) (h8 : mm_R S a 8 = some s) (hs : s ≠ 43 + 5 * k) (hp : cd_P S a P) : cd_P T a P := by
  obtain ⟨h1, h2, h3, h4, h5, s2, h6, h7, h9⟩ := hp
  have es : s2 = s := Option.some.inj (h6.symm.trans h8)
  subst es
  refine ⟨(h.1 a 10 (h0 0 10 (by omega))).1.trans h1, (h.1 a 9 (h0 0 9 (by omega))).1.trans h2, fun b hb => (h.1 _ _ (h0 2 b (by omega))).1.trans (h3 b hb), fun i hi => (h.1 _ _ (h0 3 i (by omega))).1.trans (h4 i hi), fun b hb => ?_, s2, (h.1 a 8 (h0 0 8 (by omega))).2.2.trans h6, h7, tr_cs h (fun m j hm => ho.2 s2 m j h7 hs hm) h9⟩
  obtain ⟨e, he, hb2⟩ := h5 b hb
  exact ⟨e, (h.1 _ _ (h0 1 b (by omega))).2.2.trans he, tr_by h (fun j _ => ho.1 e j hb2.1 hb2.2.1) hb2⟩
theorem tr_X8 (h : sf_f F S T) (ho : sf_h F S k) (h0 : ∀ m j, (m = 0 ∧ 8 ≤ j ∧ j ≤ 17) ∨ (1 ≤ m ∧ m ≤ 7) → ¬ F (a + m) j) (hX : ∀ q, gx_h X = some q → q < k) (hp : gc_X S a X) : gc_X T a X := by
  obtain ⟨h1, h2, h3, h4, h5, h6⟩ := hp
  exact ⟨tr_P8 h ho (fun m j hm => h0 m j (by omega)) h6 (ad_ne hX) h1, tr_D h (fun m j hm => h0 m j (by omega)) h2, (h.1 a 16 (h0 0 16 (by omega))).1.trans h3, (h.1 a 17 (h0 0 17 (by omega))).1.trans h4, fun i hi => (h.1 _ _ (h0 7 i (by omega))).1.trans (h5 i hi), (h.1 a 8 (h0 0 8 (by omega))).2.2.trans h6⟩
theorem tr_i8 {o : Option gb_X} (h : sf_f F S T) (ho : sf_h F S k) (h0 : ¬ F 0 12) (h1 : ∀ c j, 15 ≤ c → c ≤ 23 → ¬ F c j) (hX : ∀ Y, o = some Y → ∀ q, gx_h Y = some q → q < k) (hp : gc_i S o) : gc_i T o := by
  cases o with
  | none => exact (h.1 _ _ h0).1.trans hp
  | some Y => exact ⟨(h.1 _ _ h0).1.trans hp.1, tr_X8 h ho (fun m j hm => h1 _ _ (by omega) (by omega)) (hX Y rfl) hp.2⟩
theorem h_lt (h : gx_ok (gb_s G) X) : ∀ q, gx_h X = some q → q < (gb_s G).length := by
  intro q hq
  have := h.2.2.2.2.2.1
  rw [hq] at this
  exact this.1
end C8
end
section
/-! ===== shop, in the class ===== -/
def F8 (k c j : Nat) : Prop := (c = 73 ∧ (j = 0 ∨ j = 2 ∨ j = 3)) ∨ (43 + 5 * k ≤ c ∧ c ≤ 43 + 5 * k + 4)
def F9 (k c j : Nat) : Prop := F8 k c j ∨ (c = 6 ∧ (j = 8 ∨ j = 9)) ∨ (c = 0 ∧ j = 11)
section C8B
variable {S T U V : mm_S} {a b c d j k e n s : Nat} {X : gb_X} {P : ab_P} {D : ab_D} {G : gb_G}
theorem F8_h (hk : k < 6) : sf_h (F8 k) S k := ⟨fun c j h _ q => by unfold F8 at q; omega, fun s m j hs hne hm q => by unfold F8 at q; unfold mm_sh at hs; omega⟩
theorem F9_h (hk : k < 6) : sf_h (F9 k) S k := ⟨fun c j h _ q => by unfold F9 F8 at q; omega, fun s m j hs hne hm q => by unfold F9 F8 at q; unfold mm_sh at hs; omega⟩
theorem RC_8f (ok : gb_ok G) (hR : RC S G) (hk : k = (gb_s G).length) (hk6 : k < 6) (h : sf_f (F8 k) S T) (hw : mm_W T) (h0 : mm_M T 73 0 = nI 0) : RC T (gS_t G []) := by
  obtain ⟨-, h1, h2, h3, h4, ⟨s1, s2, s3⟩, h6, h7, h8⟩ := hR
  have ho := F8_h (S := S) hk6
  refine ⟨hw, tr_X8 h ho (fun m j hm => ?_) (fun q hq => by rw [hk]; exact h_lt ok.1 q hq) h1, tr_q h (fun j => ?_) ?_ h2, tr_q h (fun j => ?_) ?_ h3, tr_i8 h ho ?_ (fun c j a b => ?_) (fun Y hY q hq => by rw [hk]; exact h_lt (ok.2.1 Y hY) q hq) h4, ⟨(h.1 _ _ ?_).1.trans s1, fun i hi => ?_, tr_cs h (fun m j hm => ?_) s3⟩, ⟨h0, fun i hi => absurd hi (Nat.not_lt_zero _)⟩, tr_p h (fun c j a b => ?_) h7, tr_r h (fun j => ?_) h8⟩
  all_goals first
    | (unfold F8; omega)
    | skip
  have hi2 : i < k := by rw [hk]; exact hi
  exact tr_cs h (fun m j hm q => by unfold F8 at q; omega) (s2 i hi)
theorem c_8 (ok : gb_ok G) (hR : RC S G) (hn : mm_n S < 1000000) : ∃ v G2, PS G v G2 ∧ oC S (d + 23) 81 [.ref 0] (.int v) G2 := by
  have hw := hR.1
  have h11 : mm_M S 0 11 = nI (gb_s G).length := hR.2.2.2.2.2.1.1
  have hl6 := ok.2.2.1
  by_cases h6 : (gb_s G).length = 6
  · refine ⟨-4, G, by unfold PS; rw [if_pos h6]; exact ⟨rfl, rfl⟩, oC_id hR ?_⟩
    rw [e81, b81_0 (wx_o0 hw), h11, h6, if_neg (by decide), b81_9]
  have PSn : ∀ j, PL (gb_t G) 10 [] 0 j none → PS G (-10 - nI j) (gS_t G []) := fun j h => by
    unfold PS
    rw [if_neg h6]
    exact ⟨j, none, h, rfl, rfl⟩
  have PSs : ∀ j l, PL (gb_t G) 10 [] 0 j (some l) → PS G (nI (gb_s G).length) (gS_sh G l) := fun j l h => by
    unfold PS
    rw [if_neg h6]
    exact ⟨j, some l, h, rfl, rfl⟩
  generalize hk : (gb_s G).length = k at *
  have hk6 : k < 6 := by omega
  have hs : mm_sh (43 + 5 * k) := by unfold mm_sh; omega
  have R42 : mm_R S 42 k = some (43 + 5 * k) := by
    rcases (by omega : k = 0 ∨ k = 1 ∨ k = 2 ∨ k = 3 ∨ k = 4 ∨ k = 5) with rfl | rfl | rfl | rfl | rfl | rfl <;> exact hw.2.2 42 _ _ rfl
  have w1 : mm_W (mm_uR S 73 3 (some (43 + 5 * k))) := sf_W (sf_uR (F := fun c j => c = 73 ∧ j = 3) ⟨rfl, rfl⟩) hw (fun c j b hF e => by
    obtain ⟨rfl, rfl⟩ := hF
    cases e)
  have hn137 : 137 ≤ mm_n S := hw.1
  have hT : ct (mm_uR S 73 3 (some (43 + 5 * k))) (43 + 5 * k) (gb_t G) := ⟨w1, hs, hn, hR.2.2.2.2.2.2.1.1, hR.2.2.2.2.2.2.1.2, ok.2.2.2.2.1, ok.2.2.2.2.2.1, by rw [hp_RuR, if_pos ⟨rfl, rfl⟩]⟩
  obtain ⟨j, o, p1, p2⟩ := s37 (d := d) hT
  have hj := PL_le 10 [] 0 p1 (Nat.zero_le _)
  have h100 := ok.2.2.2.2.1
  have st : mm_cl (d + 23) 81 [.ref 0] S = mm_bd (mm_ex (d + 22) 37 6 [.ref 73, .ref (43 + 5 * k), .null] [.ref 73] (mm_uR S 73 3 (some (43 + 5 * k)))) (fun v S2 => mm_ex (d + 23) 81 30 [.ref 0, .ref (43 + 5 * k), .null, .null] (v.toList ++ []) S2) := by
    have c11 : (nI k).toNatClampNeg = k := nI_clamp (by omega)
    rw [e81, b81_0 (wx_o0 hw), h11, if_pos (nI_lt hk6 (by omega)), b81_12 (wx_o0 hw) (wx_s0_4 hw) (by rw [h11, wx_g0_4 hw, wx_N42 hw]; exact hp_inb hk6 (by omega)) (by rw [wx_g0_4 hw]; exact wx_a42 hw) (by rw [h11, c11, wx_g0_4 hw]; exact hp_rs R42) (wx_s0_5 hw) (by rw [wx_g0_5 hw]; exact wx_k73 hw), h11, c11, wx_g0_4 hw, wx_g0_5 hw, hp_rg R42, e37, b37_0 (wx_o73 hw) (by omega)]
  have fF : ∀ {U : mm_S} {j : Nat}, feK (mm_uR S 73 3 (some (43 + 5 * k))) (43 + 5 * k) U j → sf_f (F8 k) S U ∧ mm_n U = mm_n S ∧ mm_z U = mm_z S := by
    intro U j h
    refine ⟨sf_tr (sf_uR (by unfold F8; omega)) ⟨fun c j hc => ⟨h.2.1 c j (fun z => hc (by unfold gKs at z; unfold F8; omega)), by rw [h.1]; rfl, by rw [h.1]; rfl⟩, fun c _ => ⟨by rw [h.1]; rfl, by rw [h.1]; rfl⟩, by rw [h.1]; exact Nat.le_refl _⟩, by rw [h.1]; rfl, by rw [h.1]; rfl⟩
  cases o with
  | none =>
    obtain ⟨U, q1, q2⟩ := p2
    have TU := k_t q2 hT
    have wU := TU.1
    obtain ⟨f1, f2, f3⟩ := fF q2
    have f4 : sf_f (F8 k) S (mm_uM U 73 0 (nI 0)) := sf_tr f1 (sf_uM (by unfold F8; omega))
    refine ⟨_, _, PSn j p1, mm_uM U 73 0 (nI 0), ?_, RC_8f ok hR hk.symm hk6 f4 wU rds, sf_mo f4 (fun c j q => by unfold F8 at q; unfold gc_0; omega), sz_s f2 f3⟩
    rw [st, q1, hp_bd, hp_ts, b81_30 (wx_o0 wU) (wx_s0_5 wU) (by rw [wx_g0_5 wU]; exact wx_k73 wU), wx_g0_5 wU, e36, b36_0 (wx_o73 wU), hp_bd, hp_tn, b81_38, if_neg (nI_n0 (by omega)), b81_42]
  | some l =>
    obtain ⟨U, C, q1, ⟨k1, ⟨l1, l2, l3, l4⟩, k8, k9, kc, kcl⟩, hC⟩ := p2
    have okl : ab_okS l := PL_ok 10 [] 0 p1 rfl (fun c hc => by cases hc)
    have TU := k_t k1 hT
    have wU := TU.1
    obtain ⟨f1, f2, f3⟩ := fF k1
    have hU : mm_n U = mm_n S := f2
    have fU : sf_f (F9 k) S U := sf_mo f1 (fun c j q => Or.inl q)
    have w0 : mm_W (mm_uM U 73 0 (nI 0)) := wU
    have w2 : mm_W (mm_uR (mm_uM U 73 0 (nI 0)) 6 8 (some (43 + 5 * k))) := sf_W (sf_uR (F := fun c j => c = 6 ∧ j = 8) ⟨rfl, rfl⟩) w0 (fun c j b hF e => by
      obtain ⟨rfl, rfl⟩ := hF
      cases e)
    have m3 : mm_M (mm_uM U 73 0 (nI 0)) (43 + 5 * k) 3 = nI (ab_law l 5 0) := (rdn (by omega)).trans l4
    have m11 : mm_M (mm_uM (mm_uR (mm_uM U 73 0 (nI 0)) 6 8 (some (43 + 5 * k))) 6 9 (nI (ab_law l 5 0))) 0 11 = nI k := (rdn (by omega)).trans ((show mm_M (mm_uM U 73 0 (nI 0)) 0 11 = nI k from (rdn (by omega)).trans ((f1.1 0 11 (by unfold F8; omega)).1.trans h11)))
    have w3 : mm_W (mm_uM (mm_uR (mm_uM U 73 0 (nI 0)) 6 8 (some (43 + 5 * k))) 6 9 (nI (ab_law l 5 0))) := w2
    have w4 : mm_W (mm_uM (mm_uM (mm_uR (mm_uM U 73 0 (nI 0)) 6 8 (some (43 + 5 * k))) 6 9 (nI (ab_law l 5 0))) 0 11 (nI (k + 1))) := w2
    have f4 : sf_f (F9 k) S (mm_uM (mm_uM (mm_uR (mm_uM U 73 0 (nI 0)) 6 8 (some (43 + 5 * k))) 6 9 (nI (ab_law l 5 0))) 0 11 (nI (k + 1))) := sf_tr fU (sf_tr (sf_uM (by unfold F9 F8; omega)) (sf_tr (sf_uR (by unfold F9; omega)) (sf_tr (sf_uM (by unfold F9; omega)) (sf_uM (by unfold F9; omega)))))
    have rr : ∀ c j, ¬ ((c = 73 ∧ j = 0) ∨ (c = 6 ∧ j = 9) ∨ (c = 0 ∧ j = 11)) → mm_M (mm_uM (mm_uM (mm_uR (mm_uM U 73 0 (nI 0)) 6 8 (some (43 + 5 * k))) 6 9 (nI (ab_law l 5 0))) 0 11 (nI (k + 1))) c j = mm_M U c j := fun c j h => (rdn (by omega)).trans ((rdn (by omega)).trans (show mm_M (mm_uM U 73 0 (nI 0)) c j = mm_M U c j from rdn (by omega)))
    have R8 : mm_R (mm_uM (mm_uM (mm_uR (mm_uM U 73 0 (nI 0)) 6 8 (some (43 + 5 * k))) 6 9 (nI (ab_law l 5 0))) 0 11 (nI (k + 1))) 6 8 = some (43 + 5 * k) := by
      show mm_R (mm_uR (mm_uM U 73 0 (nI 0)) 6 8 (some (43 + 5 * k))) 6 8 = _
      rw [hp_RuR, if_pos ⟨rfl, rfl⟩]
    have run : mm_cl (d + 23) 81 [.ref 0] S = some (some (.int (nI k)), mm_uM (mm_uM (mm_uR (mm_uM U 73 0 (nI 0)) 6 8 (some (43 + 5 * k))) 6 9 (nI (ab_law l 5 0))) 0 11 (nI (k + 1))) := by
      rw [st, q1, hp_bd, hp_ts, b81_30 (wx_o0 wU) (wx_s0_5 wU) (by rw [wx_g0_5 wU]; exact wx_k73 wU), wx_g0_5 wU, e36, b36_0 (wx_o73 wU), hp_bd, hp_tn, b81_38, if_pos (by decide), b81_47 (wx_o0 w0) (wx_s0_0 w0) (by rw [wx_g0_0 w0]; exact wx_k6 w0), wx_g0_0 w0, e10, b10_0 (wx_o6 w0) (by show 43 + 5 * k < mm_n U; omega) (ws_o w0 hs), m3, hp_bd, hp_tn, b81_55 (wx_o0 w3), m11, nI_add]
    have hcs : cd_cs (mm_uM (mm_uM (mm_uR (mm_uM U 73 0 (nI 0)) 6 8 (some (43 + 5 * k))) 6 9 (nI (ab_law l 5 0))) 0 11 (nI (k + 1))) (43 + 5 * k) l := ⟨(rr _ _ (by omega)).trans l1, (rr _ _ (by omega)).trans l2, (rr _ _ (by omega)).trans l3, (rr _ _ (by omega)).trans l4, (cd_el l).length, C.length, Nat.le_trans (List.length_filter_le _ _) okl.1, hC, (rr _ _ (by omega)).trans k8, (rr _ _ (by omega)).trans k9, ccl_tr (fun m a _ _ _ => rr _ _ (by omega)) (fun a _ => rr _ _ (by omega)) kcl⟩
    have ho := F9_h (S := S) hk6
    obtain ⟨-, ⟨⟨x1, x2, x3, x4, x5, -⟩, xD, x16, x17, xf, xh⟩, ⟨h2, -⟩, h3, h4, ⟨s1, s2, s3⟩, h6', h7, h8⟩ := hR
    have g := f4.1
    refine ⟨_, _, PSs j l p1, _, run, ⟨w4, ⟨⟨(g _ _ (by unfold F9 F8; omega)).1.trans x1, ?_, fun b hb => (g _ _ (by unfold F9 F8; omega)).1.trans (x3 b hb), fun i hi => (g _ _ (by unfold F9 F8; omega)).1.trans (x4 i hi), fun b hb => ?_, 43 + 5 * k, R8, hs, hcs⟩, tr_D f4 (fun m j hm => by unfold F9 F8; omega) xD, (g _ _ (by unfold F9 F8; omega)).1.trans x16, (g _ _ (by unfold F9 F8; omega)).1.trans x17, fun i hi => (g _ _ (by unfold F9 F8; omega)).1.trans (xf i hi), ?_⟩, ⟨fun i hi e he => ?_, 43 + 5 * k, hs, R8⟩, tr_q f4 (fun j => by unfold F9 F8; omega) (by unfold F9 F8; omega) h3, tr_i8 f4 ho (by unfold F9 F8; omega) (fun c j a b => by unfold F9 F8; omega) (fun Y hY q hq => by rw [← hk]; exact h_lt (ok.2.1 Y hY) q hq) h4, ⟨?_, fun i hi => ?_, tr_cs f4 (fun m j hm => by unfold F9 F8; omega) s3⟩, ⟨?_, fun i hi => absurd hi (Nat.not_lt_zero _)⟩, tr_p f4 (fun c j a b => by unfold F9 F8; omega) h7, tr_r f4 (fun j => by unfold F9 F8; omega) h8⟩, sf_mo f4 (fun c j q => by unfold F9 F8 at q; unfold gc_0; omega), sz_s f2 f3⟩
    · exact (rdn (by omega)).trans rds
    · obtain ⟨e, he, hy⟩ := x5 b hb
      exact ⟨e, (g _ _ (by unfold F9 F8; omega)).2.2.trans he, tr_by f4 (fun j _ => ho.1 e j hy.1 hy.2.1) hy⟩
    · show _ = some (gc_ad (some (gb_s G).length))
      rw [R8, hk]
      rfl
    · rw [(g _ _ (by unfold F9 F8; omega)).2.2] at he
      exact tr_o f4 (h2 i hi e he)
    · show _ = nI (gb_s G ++ [l]).length
      rw [rds, la1, hk]
    · have hi2 : i < (gb_s G ++ [l]).length := hi
      rw [la1, hk] at hi2
      show cd_cs _ (43 + 5 * i) ((gb_s G ++ [l]).getD i [])
      by_cases ik : i = k
      · subst ik
        rw [← hk, ga_r]
        rw [hk]
        exact hcs
      · rw [ga_l (by omega)]
        exact tr_cs f4 (fun m j hm q => by unfold F9 F8 at q; omega) (s2 i (by omega))
    · exact (rdn (by omega)).trans ((rdn (by omega)).trans (show mm_M (mm_uM U 73 0 (nI 0)) 73 0 = nI 0 from rds))
end C8B
end
section
/-! ===== both objects: a call of one leaves the other ===== -/
section BO
variable {S T : mm_S} {G : gb_G}
theorem gm_so : sf_o gm_0 S := ⟨fun c j hc _ q => by unfold gm_0 at q; omega, fun s m j hs hm q => by unfold gm_0 at q; unfold mm_sh at hs; omega⟩
theorem RC_m (ok : gb_ok G) (h : sf_f gm_0 S T) (hw : mm_W T) (hR : RC S G) : RC T G := by
  obtain ⟨-, h1, h2, h3, h4, h5, h6, h7, h8⟩ := hR
  refine ⟨hw, tr_X h gm_so (fun m j hm => ?_) h1, tr_q h (fun j => ?_) ?_ h2, tr_q h (fun j => ?_) ?_ h3, tr_i h gm_so ?_ (fun c j a b => ?_) h4, tr_s ok.2.2.1 h gm_so ?_ h5, tr_t h ?_ (fun j => ?_) h6, tr_p h (fun c j a b => ?_) h7, tr_r h (fun j => ?_) h8⟩ <;> (unfold gm_0; omega)
theorem RM_c (ok : gb_ok G) (h : sf_f gc_0 S T) (hw : mm_W T) (hR : RM S G) : RM T G := by
  obtain ⟨-, h1, h2, h3, h4, h5, h6, h7⟩ := hR
  have g := fun c j q => (h.1 c j q).1
  refine ⟨hw, mt_X ok.1.1.1 (row_le ok.1.1 ok.1.2.1) (fun c j q => g c j ?_) h1, mt_i (fun c j q => g c j ?_) h2, mt_s (fun c j q => g c j ?_) h3, mt_t (fun c j q => g c j ?_) h4, mt_p (fun c j q => g c j ?_) (fun j => (h.1 112 j ?_).2.1) h5, mt_r (fun c j q => g c j ?_) h6, mt_c (fun c j q => g c j ?_) h7⟩
  · unfold nX at q; unfold gc_0; omega
  all_goals (unfold gc_0; omega)
end BO
end
section
/-! ===== the start: both relations, of the empty object ===== -/
def g0_P : ab_P := (0, fun _ => 0, fun _ => 0, fun _ => 0, fun _ => none, fun _ => 0, [], 0)
def g0_D : ab_D := ([], fun _ => 0, fun _ => 0, 1, 5, nI 0, nI 0)
def g0_X : gb_X := (g0_P, g0_D, 0, [], none)
def g0_G : gb_G := (g0_X, none, [], [], (fun _ => (-1, 0, fun _ => 0)), [])
section ST0
variable {S : mm_S}
theorem n0a {p : Nat → Prop} : ∀ b, b < 0 → p b := fun b h => absurd h (Nat.not_lt_zero b)
theorem g0_ok : gb_ok g0_G := by
  refine ⟨⟨⟨by decide, by decide, ⟨by decide, fun c hc => by cases hc⟩, n0a, fun b f h => absurd h (Nat.not_lt_zero b), n0a⟩, ⟨List.nodup_nil, (fun b hb => by cases hb), n0a, by decide, by decide⟩, by decide, by decide, (fun f hf => by cases hf), rfl, rfl⟩, (fun Y h => by cases h), by decide, (fun l hl => by cases hl), by decide, (fun c hc => by cases hc), (fun t ht => Or.inl ⟨rfl, rfl⟩), by decide, fun b hb => by cases hb⟩
theorem st_M (t : ∀ b, b < 137 → mm_Tb S b) (a j : Nat) (v : Int32) (ha : a < 137) (h : (j, v) ∈ mm_tQ a) : mm_M S a j = v := (t a ha).2.2.1 (j, v) h
theorem st_R (t : ∀ b, b < 137 → mm_Tb S b) (a j : Nat) (v : Option Nat) (ha : a < 137) (h : (j, v) ∈ mm_tP a) : mm_R S a j = v := (t a ha).2.2.2 (j, v) h
theorem g0_RC (t : ∀ b, b < 137 → mm_Tb S b) (hw : mm_W S) : RC S g0_G := by
  have m := fun a j v ha h => st_M t a j v ha h
  have r := fun a j v ha h => st_R t a j v ha h
  have c1 : cd_cs S 1 [] := ⟨m 1 0 (nI 1) (by decide) (by decide +kernel), m 1 1 (nI 1) (by decide) (by decide +kernel), m 1 2 (nI 1) (by decide) (by decide +kernel), m 1 3 (nI 0) (by decide) (by decide +kernel), 0, 0, by decide, by decide, m 1 8 (nI 0) (by decide) (by decide +kernel), m 1 9 (nI 0) (by decide) (by decide +kernel), rfl, rfl⟩
  have q : ∀ a, a = 7 ∨ a = 16 → ∀ i, i < 6 → ∀ e, mm_R S a i = some e → mm_obj S e 0 = true := by
    intro a ha i hi e he
    have h : mm_R S a i = none := by
      rcases ha with rfl | rfl <;> (rcases (by omega : i = 0 ∨ i = 1 ∨ i = 2 ∨ i = 3 ∨ i = 4 ∨ i = 5) with rfl | rfl | rfl | rfl | rfl | rfl <;> exact r _ _ none (by decide) (by decide +kernel))
    rw [h] at he; cases he
  refine ⟨hw, ⟨⟨m 6 10 (nI 0) (by decide) (by decide +kernel), m 6 9 (nI 0) (by decide) (by decide +kernel), n0a, n0a, n0a, 1, r 6 8 (some 1) (by decide) (by decide +kernel), Or.inl rfl, c1⟩, ⟨m 6 11 (nI 0) (by decide) (by decide +kernel), n0a, n0a, n0a, m 6 12 (nI 1) (by decide) (by decide +kernel), m 6 13 (nI 5) (by decide) (by decide +kernel), m 6 14 (nI 0) (by decide) (by decide +kernel), m 6 15 (nI 0) (by decide) (by decide +kernel)⟩, m 6 16 (nI 0) (by decide) (by decide +kernel), m 6 17 (nI 0) (by decide) (by decide +kernel), n0a, r 6 8 (some 1) (by decide) (by decide +kernel)⟩,
    ⟨q 7 (Or.inl rfl), 1, Or.inl rfl, r 6 8 (some 1) (by decide) (by decide +kernel)⟩, ⟨q 16 (Or.inr rfl), 1, Or.inl rfl, r 15 8 (some 1) (by decide) (by decide +kernel)⟩, m 0 12 (nI 0) (by decide) (by decide +kernel), ⟨m 0 11 (nI 0) (by decide) (by decide +kernel), n0a, c1⟩, ⟨m 73 0 (nI 0) (by decide) (by decide +kernel), n0a⟩, ?_, ⟨m 88 0 (nI 0) (by decide) (by decide +kernel), n0a⟩⟩
  intro u hu
  rcases (by omega : u = 0 ∨ u = 1 ∨ u = 2 ∨ u = 3 ∨ u = 4 ∨ u = 5) with rfl | rfl | rfl | rfl | rfl | rfl <;> exact ⟨m _ 1 (-1) (by decide) (by decide +kernel), m _ 2 (nI 0) (by decide) (by decide +kernel), n0a⟩
theorem g0_RM (t : ∀ b, b < 137 → mm_Tb S b) (hw : mm_W S) : RM S g0_G := by
  have m := fun a j v ha h => st_M t a j v ha h
  have z : ∀ j, j = 0 ∨ j = 8 ∨ j = 12 ∨ j = 13 ∨ j = 14 ∨ j = 15 ∨ j = 17 ∨ j = 26 ∨ j = 28 ∨ j = 59 → mm_M S 92 j = nI 0 := by
    intro j hj
    rcases hj with rfl | rfl | rfl | rfl | rfl | rfl | rfl | rfl | rfl | rfl <;> exact m _ _ _ (by decide) (by decide +kernel)
  have y : ∀ j, j = 18 ∨ j = 27 → mm_M S 92 j = -1 := by
    intro j hj
    rcases hj with rfl | rfl <;> exact m _ _ _ (by decide) (by decide +kernel)
  refine ⟨hw, ⟨⟨z 0 (by decide), n0a, n0a, ⟨none, y 18 (by decide), rfl⟩, Or.inl ⟨y 27 (by decide), rfl⟩⟩, ⟨z 8 (by decide), n0a, n0a, n0a, m 92 10 (nI 1) (by decide) (by decide +kernel), m 92 11 (nI 5) (by decide) (by decide +kernel), z 12 (by decide), z 13 (by decide)⟩, z 14 (by decide), z 15 (by decide), n0a, y 18 (by decide), y 27 (by decide)⟩, z 59 (by decide), ⟨z 17 (by decide), n0a⟩, ⟨z 26 (by decide), n0a⟩, fun u hu => ⟨?_, fun h => absurd rfl h, n0a⟩, ⟨z 28 (by decide), n0a⟩, fun i hi => ?_, fun i hi => ?_, fun i hi => ?_⟩
  · rcases (by omega : u = 0 ∨ u = 1 ∨ u = 2 ∨ u = 3 ∨ u = 4 ∨ u = 5) with rfl | rfl | rfl | rfl | rfl | rfl <;> exact m _ _ _ (by decide) (by decide +kernel)
  · exact m 113 i _ (by decide) ((by decide +kernel : ∀ i, i < 24 → (i, nI (gm_w.getD i 0)) ∈ mm_tQ 113) i hi)
  · exact m 114 i _ (by decide) ((by decide +kernel : ∀ i, i < 6 → (i, nI (([4, 4, 2, 4, 4, 3] : List Nat).getD i 0)) ∈ mm_tQ 114) i hi)
  · exact m 115 i _ (by decide) ((by decide +kernel : ∀ i, i < 7 → (i, nI (([98, 107, 112, 108, 114, 97, 102] : List Nat).getD i 0)) ∈ mm_tQ 115) i hi)
end ST0
/-! ===== a round of the law: the class's call, then the reference's ===== -/
def LI (S : mm_S) (G : gb_G) (i L : Nat) : Prop := RC S G ∧ RM S G ∧ gb_ok G ∧ mm_n S ≤ 137 + i ∧ mm_z S ≤ 4358 + 4 * i ∧ mm_N S mm_SC = L
/-- what a call of the class leaves for the reference's -/
def LJ (S T : mm_S) : Prop := mm_W T ∧ mm_n T ≤ 600000 ∧ mm_N T mm_SC = mm_N S mm_SC ∧ mm_M T mm_SC = mm_M S mm_SC
section STP
variable {S : mm_S} {G G2 : gb_G} {i L y y2 : Nat} {as as2 : List Value} {v v2 : Value}
theorem li_n (hi : i ≤ 600) (h : LI S G i L) : mm_n S ≤ 600000 := by have := h.2.2.2.1; omega
theorem stp (hi : i ≤ 600) (hI : LI S G i L) (hc : oC S 29 y as v G2) (ok2 : gb_ok G2) (hm : ∀ T, RM T G → oM T 29 y2 as2 v2 G2) : ∃ T U, mm_cl 29 y as S = some (some v, T) ∧ mm_cl 29 y2 as2 T = some (some v2, U) ∧ LJ S T ∧ LI U G2 (i + 1) L := by
  obtain ⟨h1, h2, ok, h3, h4, h5⟩ := hI
  obtain ⟨T, c1, c2, c3, c4, c5⟩ := hc
  have tM : RM T G := RM_c ok c3 c2.1 h2
  obtain ⟨U, m1, m2, m3, m4, m5⟩ := hm T tM
  have uC : RC U G2 := RC_m ok2 m3 m2.1 c2
  have q1 := (cl_fr c1).2 mm_SC (by show mm_n T ≤ 3000000; omega)
  have q2 := (cl_fr m1).2 mm_SC (by show mm_n U ≤ 3000000; omega)
  exact ⟨T, U, c1, m1, ⟨c2.1, by omega, q1.2.1, funext q1.1⟩, uC, m2, ok2, by omega, by omega, (q2.2.1.trans q1.2.1).trans h5⟩
/-- the same, where class and reference may answer otherwise -/
theorem oC_1 (ok : gb_ok G) (hR : RC S G) {x w : Int32} : oC S 29 74 [.ref 0, .int x, .int w] (.int (an_1 G x w)) G := by
  obtain ⟨T, h1, h2, h3, h4, h5⟩ := c_1 (d := 25) ok hR (x := x) (w := w)
  exact ⟨T, h1, h2, gF_0 h3, sz_s h4 h5⟩
theorem sc_a (h : mm_n S ≤ 600000) : mm_arr S mm_SC 13 = false := by
  rw [hn_a]
  have e : ¬ mm_SC < mm_n S := by show ¬ 3000000 < mm_n S; omega
  simp [e]
theorem sc_b (h : mm_n S ≤ 600000) : (decide (mm_SC < mm_n S) && decide (13 ≤ mm_K S mm_SC) && decide (mm_K S mm_SC < 19)) = false := by
  have e : ¬ mm_SC < mm_n S := by show ¬ 3000000 < mm_n S; omega
  simp [e]
theorem lg_rf {x : Int64} : lg_cmp x x = nI 0 := by
  unfold lg_cmp
  simp
  try rfl
theorem lg_eq {x y : Int64} (h : x = y) : lg_cmp x y = nI 0 := by rw [h]; exact lg_rf
end STP
end
