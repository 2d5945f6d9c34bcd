/-! ===== how THE TEXT is read, as a relation ===== -/
def ps (t : List Nat) (i : Nat) : Nat := t.getD i 0
def pdg (x : Nat) : Bool := decide (48 ≤ x) && decide (x ≤ 57)
/-- one or two figures -/
def pnu (t : List Nat) (i : Nat) : Nat × Option Nat := if pdg (ps t i) = true then (if pdg (ps t (i + 1)) = true then (i + 2, some (10 * (ps t i - 48) + (ps t (i + 1) - 48))) else (i + 1, some (ps t i - 48))) else (i, none)
def plt : List Nat := [98, 107, 112, 108, 114, 97, 102]
def prl : List Nat := [60, 61, 62]
/-- a TEST -/
def pte (t : List Nat) (i : Nat) : Nat × Option ab_T := match ab_at (ps t i) plt with
  | none => (i, none)
  | some l => match ab_at (ps t (i + 1)) prl with
    | none => (i + 1, none)
    | some r => ((pnu t (i + 2)).1, (pnu t (i + 2)).2.map (fun n => Sum.inl (l, r, n)))
def pch (s : Nat) : Nat := if s = 0 then 38 else 124
/-- rules of F (0), of T (1) and E (2), and of what follows their first part (3, 4) -/
def PEc (t : List Nat) (R : Nat → Nat → Nat → Nat → Option (List ab_T) → Prop) : Prop :=
  (∀ d i, ps t i ≠ 33 → ps t i ≠ 40 → R 0 d i (pte t i).1 ((pte t i).2.map (fun x => [x]))) ∧
  (∀ d i, ps t i = 33 ∨ ps t i = 40 → 4 ≤ d → R 0 d i i none) ∧
  (∀ d i j o, ps t i = 33 → d < 4 → R 0 (d + 1) (i + 1) j o → R 0 d i j (o.map (fun c => c ++ [Sum.inr 3]))) ∧
  (∀ d i j, ps t i = 40 → d < 4 → R 2 (d + 1) (i + 1) j none → R 0 d i j none) ∧
  (∀ d i j c, ps t i = 40 → d < 4 → R 2 (d + 1) (i + 1) j (some c) → R 0 d i (if ps t j = 41 then j + 1 else j) (if ps t j = 41 then some c else none)) ∧
  (∀ s d i j, s < 2 → R s d i j none → R (s + 1) d i j none) ∧
  (∀ s d i j k c o, s < 2 → R s d i j (some c) → R (s + 3) d j k o → R (s + 1) d i k (o.map (fun r => c ++ r))) ∧
  (∀ s d j, s < 2 → ps t j ≠ pch s → R (s + 3) d j j (some [])) ∧
  (∀ s d j k, s < 2 → ps t j = pch s → R s d (j + 1) k none → R (s + 3) d j k none) ∧
  ∀ s d j k m c o, s < 2 → ps t j = pch s → R s d (j + 1) k (some c) → R (s + 3) d k m o → R (s + 3) d j m (o.map (fun r => c ++ Sum.inr (2 - s) :: r))
def PE (t : List Nat) (k d i j : Nat) (o : Option (List ab_T)) : Prop := ∀ R, PEc t R → R k d i j o
def pw (t : List Nat) : List Nat → Nat → Nat × Bool
  | [], i => (i, true)
  | c :: l, i => if ps t i = c then pw t l (i + 1) else (i, false)
def pfl : List Nat := [109, 99, 117, 100, 97, 102]
def pws : List (List Nat) := [[109, 111, 114, 101, 32], [99, 111, 115, 116, 32], [117, 112, 32], [100, 111, 119, 110, 32], [97, 119, 97, 121, 32], [102, 101, 101, 32]]
/-- a clause -/
def PC (t : List Nat) (i j : Nat) (o : Option ab_C) : Prop := match ab_at (ps t i) pfl with
  | none => j = i ∧ o = none
  | some w => if (pw t (pws.getD w []) i).2 = false then j = (pw t (pws.getD w []) i).1 ∧ o = none else match (pnu t (pw t (pws.getD w []) i).1).2 with
    | none => j = (pnu t (pw t (pws.getD w []) i).1).1 ∧ o = none
    | some n => if w < 2 then (if ps t (pnu t (pw t (pws.getD w []) i).1).1 = 32 then ∃ o', PE t 2 0 ((pnu t (pw t (pws.getD w []) i).1).1 + 1) j o' ∧ o = o'.map (fun c => (w, n, c)) else j = (pnu t (pw t (pws.getD w []) i).1).1 ∧ o = none) else j = (pnu t (pw t (pws.getD w []) i).1).1 ∧ o = some (w, n, [])
def PL (t : List Nat) : Nat → List ab_C → Nat → Nat → Option (List ab_C) → Prop
  | 0, _, _, _, _ => False
  | m + 1, l, i, j, o => (PC t i j none ∧ o = none) ∨ ∃ k c, PC t i k (some c) ∧ ((t.length ≤ k ∧ j = k ∧ o = some (l ++ [c])) ∨ (k < t.length ∧ (m = 0 ∨ ps t k ≠ 59) ∧ j = k ∧ o = none) ∨ (k < t.length ∧ m ≠ 0 ∧ ps t k = 59 ∧ PL t m (l ++ [c]) (k + 1) j o))
def gS_sh (G : gb_G) (l : List ab_C) : gb_G := (((G.1.1.1, G.1.1.2.1, G.1.1.2.2.1, G.1.1.2.2.2.1, G.1.1.2.2.2.2.1, G.1.1.2.2.2.2.2.1, l, ab_law l 5 0), G.1.2.1, G.1.2.2.1, G.1.2.2.2.1, some (gb_s G).length), G.2.1, gb_s G ++ [l], [], G.2.2.2.2)
/-- shop: its answer, and all after it -/
def PS (G : gb_G) (v : Int32) (G2 : gb_G) : Prop := if (gb_s G).length = 6 then v = -4 ∧ G2 = G else ∃ j o, PL (gb_t G) 10 [] 0 j o ∧ match o with
  | none => v = -10 - nI j ∧ G2 = gS_t G []
  | some l => v = nI (gb_s G).length ∧ G2 = gS_sh G l
section PA
variable {t : List Nat} {i j k d s m n w h : Nat} {o : Option (List ab_T)} {c : List ab_T}
theorem PE_c : PEc t (PE t) := ⟨fun d i h1 h2 R q => q.1 d i h1 h2, fun d i h1 h2 R q => q.2.1 d i h1 h2, fun d i j o h1 h2 h3 R q => q.2.2.1 d i j o h1 h2 (h3 R q), fun d i j h1 h2 h3 R q => q.2.2.2.1 d i j h1 h2 (h3 R q), fun d i j c h1 h2 h3 R q => q.2.2.2.2.1 d i j c h1 h2 (h3 R q), fun s d i j h1 h2 R q => q.2.2.2.2.2.1 s d i j h1 (h2 R q), fun s d i j k c o h1 h2 h3 R q => q.2.2.2.2.2.2.1 s d i j k c o h1 (h2 R q) (h3 R q), fun s d j h1 h2 R q => q.2.2.2.2.2.2.2.1 s d j h1 h2, fun s d j k h1 h2 h3 R q => q.2.2.2.2.2.2.2.2.1 s d j k h1 h2 (h3 R q), fun s d j k m c o h1 h2 h3 h4 R q => q.2.2.2.2.2.2.2.2.2 s d j k m c o h1 h2 (h3 R q) (h4 R q)⟩
theorem ps_in (h : ps t i ≠ 0) : i < t.length := by
  by_cases q : i < t.length
  · exact q
  · exfalso
    apply h
    unfold ps
    rw [List.getD_eq_getElem?_getD, List.getElem?_eq_none (by omega)]
    rfl
theorem pdg_in (h : pdg (ps t i) = true) : i < t.length ∧ 48 ≤ ps t i ∧ ps t i ≤ 57 := by
  unfold pdg at h
  rw [Bool.and_eq_true, decide_eq_true_eq, decide_eq_true_eq] at h
  exact ⟨ps_in (by omega), h⟩
theorem pnu_le : i ≤ (pnu t i).1 ∧ (i ≤ t.length → (pnu t i).1 ≤ t.length) ∧ (pnu t i).1 ≤ i + 2 := by
  unfold pnu
  split
  · rename_i h
    have a := pdg_in h
    split
    · rename_i h2
      have b := pdg_in h2
      exact ⟨by show i ≤ i + 2; omega, fun _ => by show i + 2 ≤ t.length; omega, Nat.le_refl _⟩
    · exact ⟨by show i ≤ i + 1; omega, fun _ => by show i + 1 ≤ t.length; omega, by show i + 1 ≤ i + 2; omega⟩
  · exact ⟨Nat.le_refl _, fun h => h, by show i ≤ i + 2; omega⟩
theorem pnu_n (e : (pnu t i).2 = some n) : n < 100 ∧ i + 1 ≤ (pnu t i).1 := by
  unfold pnu at e ⊢
  by_cases h : pdg (ps t i) = true
  · have a := pdg_in h
    rw [if_pos h] at e ⊢
    by_cases h2 : pdg (ps t (i + 1)) = true
    · have b := pdg_in h2
      rw [if_pos h2] at e ⊢
      have e := Option.some.inj e
      exact ⟨by omega, by show i + 1 ≤ i + 2; omega⟩
    · rw [if_neg h2] at e ⊢
      have e := Option.some.inj e
      exact ⟨by omega, Nat.le_refl _⟩
  · rw [if_neg h] at e; cases e
theorem at_ln {x l : Nat} {r : List Nat} (h : ab_at x r = some l) : l < r.length := (at_some h).1
theorem at_ps {l : Nat} {r : List Nat} (h : ab_at (ps t i) r = some l) (h0 : 0 ∉ r) : i < t.length := by
  refine ps_in (fun e => h0 ?_)
  have := at_some h
  rw [← e, ← this.2]
  rw [List.getD_eq_getElem?_getD, List.getElem?_eq_getElem this.1]
  exact List.getElem_mem this.1
theorem pte_le : i ≤ (pte t i).1 ∧ (i ≤ t.length → (pte t i).1 ≤ t.length) := by
  unfold pte
  cases h : ab_at (ps t i) plt with
  | none => exact ⟨Nat.le_refl _, fun q => q⟩
  | some l =>
    have a := at_ps h (by decide)
    simp only
    cases h2 : ab_at (ps t (i + 1)) prl with
    | none => exact ⟨by show i ≤ i + 1; omega, fun _ => by show i + 1 ≤ t.length; omega⟩
    | some r =>
      have b := at_ps h2 (by decide)
      have p := @pnu_le t (i + 2)
      exact ⟨by show i ≤ (pnu t (i + 2)).1; omega, fun _ => p.2.1 (by omega)⟩
theorem pte_s {x : ab_T} (e : (pte t i).2 = some x) : i + 3 ≤ (pte t i).1 ∧ ∃ l r n, l < 7 ∧ r < 3 ∧ n < 100 ∧ x = Sum.inl (l, r, n) := by
  unfold pte at e ⊢
  cases h : ab_at (ps t i) plt with
  | none => rw [h] at e; cases e
  | some l =>
    rw [h] at e
    simp only at e ⊢
    cases h2 : ab_at (ps t (i + 1)) prl with
    | none => rw [h2] at e; cases e
    | some r =>
      rw [h2] at e
      simp only at e ⊢
      cases h3 : (pnu t (i + 2)).2 with
      | none => rw [h3] at e; cases e
      | some n =>
        rw [h3] at e
        have p := pnu_n h3
        exact ⟨by omega, l, r, n, at_ln h, at_ln h2, p.1, (Option.some.inj e).symm⟩
theorem PE_le (p : PE t k d i j o) : i ≤ j ∧ (i ≤ t.length → j ≤ t.length) ∧ ∀ c, o = some c → c.length + i ≤ j := by
  refine p (fun _ _ i j o => i ≤ j ∧ (i ≤ t.length → j ≤ t.length) ∧ ∀ c, o = some c → c.length + i ≤ j) ⟨?_, ?_, ?_, ?_, ?_, ?_, ?_, ?_, ?_, ?_⟩
  · intro d i h1 h2
    refine ⟨pte_le.1, pte_le.2, fun c hc => ?_⟩
    cases e : (pte t i).2 with
    | none => rw [e] at hc; cases hc
    | some x =>
      rw [e] at hc
      have := Option.some.inj hc
      subst this
      have := pte_s e
      show 1 + i ≤ _
      omega
  · intro d i h1 h2
    exact ⟨Nat.le_refl _, fun q => q, fun c hc => by cases hc⟩
  · intro d i j o h1 h2 h3
    have a : i < t.length := ps_in (by omega)
    refine ⟨by omega, fun _ => h3.2.1 (by omega), fun c hc => ?_⟩
    cases o with
    | none => cases hc
    | some c2 =>
      have := h3.2.2 c2 rfl
      have e := Option.some.inj hc
      subst e
      rw [List.length_append]
      show c2.length + 1 + i ≤ j
      omega
  · intro d i j h1 h2 h3
    have a : i < t.length := ps_in (by omega)
    exact ⟨by omega, fun _ => h3.2.1 (by omega), fun c hc => by cases hc⟩
  · intro d i j c h1 h2 h3
    have a : i < t.length := ps_in (by omega)
    by_cases h : ps t j = 41
    · have b : j < t.length := ps_in (by omega)
      rw [if_pos h, if_pos h]
      refine ⟨by omega, fun _ => by omega, fun c2 hc => ?_⟩
      have := h3.2.2 c rfl
      cases hc
      omega
    · rw [if_neg h, if_neg h]
      exact ⟨by omega, fun _ => h3.2.1 (by omega), fun c2 hc => by cases hc⟩
  · intro s d i j h1 h2
    exact h2
  · intro s d i j k c o h1 h2 h3
    refine ⟨by omega, fun q => h3.2.1 (h2.2.1 q), fun c2 hc => ?_⟩
    cases o with
    | none => cases hc
    | some r =>
      have a := h2.2.2 c rfl
      have b := h3.2.2 r rfl
      cases hc
      rw [List.length_append]
      omega
  · intro s d j h1 h2
    refine ⟨Nat.le_refl _, fun q => q, fun c hc => ?_⟩
    cases hc
    show 0 + j ≤ j
    omega
  · intro s d j k h1 h2 h3
    have a : j < t.length := ps_in (by rw [h2]; unfold pch; split <;> decide)
    exact ⟨by omega, fun _ => h3.2.1 (by omega), fun c hc => by cases hc⟩
  · intro s d j k m c o h1 h2 h3 h4
    have a : j < t.length := ps_in (by rw [h2]; unfold pch; split <;> decide)
    refine ⟨by omega, fun _ => h4.2.1 (h3.2.1 (by omega)), fun c2 hc => ?_⟩
    cases o with
    | none => cases hc
    | some r =>
      have a := h3.2.2 c rfl
      have b := h4.2.2 r rfl
      cases hc
      rw [List.length_append, List.length_cons]
      omega
/-- what was read can be worked out on a small stack -/
theorem PE_hei (p : PE t k d i j o) : ∀ c, o = some c → d ≤ 4 → k < 5 → ∀ h rest, h + k ≤ 2 * d + (if k < 3 then 2 else 4) → ab_hei (c ++ rest) (if k < 3 then h else h + 1) = ab_hei rest (h + 1) := by
  refine p (fun k d i j o => ∀ c, o = some c → d ≤ 4 → k < 5 → ∀ h rest, h + k ≤ 2 * d + (if k < 3 then 2 else 4) → ab_hei (c ++ rest) (if k < 3 then h else h + 1) = ab_hei rest (h + 1)) ⟨?_, ?_, ?_, ?_, ?_, ?_, ?_, ?_, ?_, ?_⟩
  · intro d i h1 h2 c hc hd _ h rest hh
    rw [if_pos (by decide)] at hh ⊢
    cases e : (pte t i).2 with
    | none => rw [e] at hc; cases hc
    | some x =>
      rw [e] at hc
      have := Option.some.inj hc
      subst this
      obtain ⟨-, l, r, n, hl, hr, hn, rfl⟩ := pte_s e
      show (if l < 7 ∧ r < 3 ∧ n < 100 ∧ h < 24 then ab_hei rest (h + 1) else none) = _
      rw [if_pos ⟨hl, hr, hn, by omega⟩]
  · intro d i h1 h2 c hc
    cases hc
  · intro d i j o h1 h2 h3 c hc hd _ h rest hh
    rw [if_pos (by decide)] at hh ⊢
    cases o with
    | none => cases hc
    | some c2 =>
      have e := Option.some.inj hc
      subst e
      have := h3 c2 rfl (by omega) (by decide) h ([Sum.inr 3] ++ rest) (by rw [if_pos (by decide)]; omega)
      rw [if_pos (by decide)] at this
      rw [List.append_assoc, this]
      show (if 3 = 3 then (if 1 ≤ h + 1 then ab_hei rest (h + 1) else none) else _) = _
      rw [if_pos rfl, if_pos (by omega)]
  · intro d i j h1 h2 h3 c hc
    cases hc
  · intro d i j c h1 h2 h3 c2 hc hd _ h rest hh
    rw [if_pos (by decide)] at hh ⊢
    by_cases q : ps t j = 41
    · rw [if_pos q] at hc
      cases hc
      have := h3 c rfl (by omega) (by decide) h rest (by rw [if_pos (by decide)]; omega)
      rw [if_pos (by decide)] at this
      exact this
    · rw [if_neg q] at hc; cases hc
  · intro s d i j h1 h2 c hc
    cases hc
  · intro s d i j k c o h1 h2 h3 c2 hc hd _ h rest hh
    rw [if_pos (by omega)] at hh ⊢
    cases o with
    | none => cases hc
    | some r =>
      cases hc
      have a := h2 c rfl hd (by omega) h (r ++ rest) (by rw [if_pos (by omega)]; omega)
      have b := h3 r rfl hd (by omega) h rest (by rw [if_neg (by omega)]; omega)
      rw [if_pos (by omega)] at a
      rw [if_neg (by omega)] at b
      rw [List.append_assoc, a, b]
  · intro s d j h1 h2 c hc hd _ h rest hh
    cases hc
    rw [if_neg (by omega)]
    rfl
  · intro s d j k h1 h2 h3 c hc
    cases hc
  · intro s d j k m c o h1 h2 h3 h4 c2 hc hd _ h rest hh
    rw [if_neg (by omega)] at hh ⊢
    cases o with
    | none => cases hc
    | some r =>
      cases hc
      have a := h3 c rfl hd (by omega) (h + 1) (Sum.inr (2 - s) :: r ++ rest) (by rw [if_pos (by omega)]; omega)
      have b := h4 r rfl hd (by omega) h rest (by rw [if_neg (by omega)]; omega)
      rw [if_pos (by omega)] at a
      rw [if_neg (by omega)] at b
      rw [List.append_assoc, a]
      show (if 2 - s = 3 then _ else if (2 - s = 1 ∨ 2 - s = 2) ∧ 2 ≤ h + 1 + 1 then ab_hei (r ++ rest) (h + 1 + 1 - 1) else none) = _
      rw [if_neg (by omega), if_pos (by omega)]
      exact b
theorem PE_one (p : PE t 2 0 i j (some c)) : ab_hei c 0 = some 1 := by
  have := PE_hei p c rfl (by decide) (by decide) 0 [] (by decide)
  rw [List.append_nil] at this
  exact this
end PA
