/-! ===== days keep their bounds; turns come to an end ===== -/
theorem ab_law_lt {l : List ab_C} (h : ∀ c ∈ l, c.2.1 < 100) {w : Nat} : ∀ {n : Nat}, n < 100 → ab_law l w n < 100 := by
  unfold ab_law
  induction l with
  | nil => intro n hn; exact hn
  | cons c l ih =>
    intro n hn
    rw [List.foldl_cons]
    refine ih (fun c hc => h c (List.mem_cons_of_mem _ hc)) ?_
    by_cases e : c.1 = w
    · rw [if_pos e]; exact h c List.mem_cons_self
    · rw [if_neg e]; exact hn
theorem ab_sum_le {m : Nat → Nat} {w : Nat} {l : List ab_C} (h : ∀ c ∈ l, c.2.1 < 100) : ∀ {n : Nat}, ab_sum m w l n ≤ n + 99 * l.length := by
  unfold ab_sum
  induction l with
  | nil => intro n; exact Nat.le_refl _
  | cons c l ih =>
    intro n
    rw [List.foldl_cons, List.length_cons]
    have h1 := h c List.mem_cons_self
    have h2 := fun n => @ih (fun c hc => h c (List.mem_cons_of_mem _ hc)) n
    by_cases e : c.1 = w ∧ ab_hold m c.2.2 = true
    · rw [if_pos e]; have := h2 (n + c.2.1); omega
    · rw [if_neg e]; have := h2 n; omega
theorem nd_le : ∀ (n : Nat) (l : List Nat), l.Nodup → (∀ b ∈ l, b < n) → l.length ≤ n := by
  intro n
  induction n with
  | zero =>
    intro l _ hl
    cases l with
    | nil => exact Nat.le_refl _
    | cons b l => exact absurd (hl b List.mem_cons_self) (Nat.not_lt_zero b)
  | succ n ih =>
    intro l hn hl
    by_cases hm : n ∈ l
    · have h1 := ih (l.erase n) (hn.erase n) (fun b hb => by
        have h4 := (List.Nodup.mem_erase_iff hn).mp hb
        have := hl b h4.2
        have := h4.1
        omega)
      rw [List.length_erase_of_mem hm] at h1
      omega
    · have h1 := ih l hn (fun b hb => by
        have := hl b hb
        have : b ≠ n := fun e => hm (e ▸ hb)
        omega)
      omega
section ABS
variable {P : ab_P} {D : ab_D} {b act o : Nat} {r : List Nat}
theorem ab_okP_c (h : ab_okP P) : ∀ c ∈ ab_sh P, c.2.1 < 100 := fun c hc => (h.2.2.1.2 c hc).2.1
theorem ab_sm_le (h : ab_okP P) {m : Nat → Nat} {w : Nat} : ab_sum m w (ab_sh P) 0 ≤ 990 := by
  have h1 := @ab_sum_le m w _ (ab_okP_c h) 0
  have h2 := h.2.2.1.1
  omega
theorem ab_cost_le (h : ab_okP P) : ab_cost P D b ≤ 990 := ab_sm_le h
theorem ab_val_le (h : ab_okP P) (hb : b < ab_kn P) : ab_val P D b ≤ 1089 := by
  have h1 := (h.2.2.2.1 b hb).2.2
  have h2 := @ab_sm_le P h (ab_ms P D b) 0
  unfold ab_val
  omega
theorem ab_up_lt (h : ab_okP P) : ab_up P < 100 := ab_law_lt (ab_okP_c h) (by decide)
theorem ab_down_lt (h : ab_okP P) : ab_down P < 100 := ab_law_lt (ab_okP_c h) (by decide)
theorem ab_away_le : ab_away P ≤ 9 := Nat.min_le_left _ _
theorem ab_gy_12 {n : Nat} : ab_gy P D b n = 1 ∨ ab_gy P D b n = 2 := by
  unfold ab_gy; split <;> simp
theorem ab_act_ok (h : ab_okP P) (hD : ab_okD P D) (hb : b < ab_kn P) : 1 ≤ ab_act P D b o ∧ ab_act P D b o ≤ 3 ∧ (ab_act P D b o = 3 → ab_may P D b = true) := by
  have g : ∀ n, 1 ≤ ab_gy P D b n ∧ ab_gy P D b n ≤ 3 ∧ (ab_gy P D b n = 3 → ab_may P D b = true) := by
    intro n
    rcases @ab_gy_12 P D b n with e | e <;> rw [e] <;> simp
  have w : 1 ≤ ab_wai P D b ∧ ab_wai P D b ≤ 3 ∧ (ab_wai P D b = 3 → ab_may P D b = true) := by
    unfold ab_wai
    split
    · rename_i e; exact ⟨by omega, by omega, fun _ => e.2⟩
    · exact g 0
  have f : 1 ≤ ab_fal P D b ∧ ab_fal P D b ≤ 3 ∧ (ab_fal P D b = 3 → ab_may P D b = true) := by
    unfold ab_fal
    split
    · exact ⟨by omega, by omega, fun e => by omega⟩
    · exact g 0
  unfold ab_act
  split
  · exact g _
  · exact w
  · exact f
  · split
    · exact ⟨by omega, by omega, fun e => by omega⟩
    · exact g _
  · split
    · rename_i e; exact ⟨by omega, by omega, fun _ => e.2⟩
    · exact w
  · have ht : ab_te P (3 * b + ab_pr D % 3) < 4 := h.2.2.2.2.2 _ (by omega)
    split
    · exact f
    · rename_i e
      refine ⟨by omega, by omega, fun e3 => ?_⟩
      cases hm : ab_may P D b with
      | true => rfl
      | false => exact absurd (Or.inr ⟨e3, hm⟩) e
  · exact g 0
theorem ab_do_kn (h : ab_okP P) (hD : ab_okD P D) (hr : ab_row D = b :: r) (ha : act ≠ 1 → act ≠ 2 → ab_may P D b = true) : ab_okD P (ab_do P D b r act) ∧ ab_mea (ab_do P D b r act) < ab_mea D := by
  obtain ⟨h1, h2, h3, h4, h5⟩ := hD
  rw [hr] at h1 h2
  have hb : b < ab_kn P := h2 b List.mem_cons_self
  have hu := ab_up_lt h
  have hd := ab_down_lt h
  have hn := List.nodup_cons.mp h1
  have hr2 : ∀ b ∈ r, b < ab_kn P := fun x hx => h2 x (List.mem_cons_of_mem _ hx)
  have hb9 := h3 b hb
  have hm : ab_mea D = (10 - ab_aw D b) + (r.map (fun b => 10 - ab_aw D b)).sum := by
    unfold ab_mea
    rw [hr]
    simp
  unfold ab_do
  by_cases a1 : act = 1
  · rw [if_pos a1]
    refine ⟨⟨hn.2, hr2, h3, Nat.min_le_left _ _, ?_⟩, ?_⟩
    · show ab_lo D - 1 ≤ 9; omega
    · rw [hm]; show (r.map (fun b => 10 - ab_aw D b)).sum < _; omega
  · rw [if_neg a1]
    by_cases a2 : act = 2
    · rw [if_pos a2]
      refine ⟨⟨hn.2, hr2, h3, ?_, h5⟩, ?_⟩
      · show (if ab_down P = 0 then ab_pr D / 2 else ab_down P) ≤ 999
        split <;> omega
      · rw [hm]; show (r.map (fun b => 10 - ab_aw D b)).sum < _; omega
    · rw [if_neg a2]
      have hma := ha a1 a2
      unfold ab_may at hma
      have hma := of_decide_eq_true hma
      have haw := @ab_away_le P
      refine ⟨⟨?_, ?_, ?_, h4, h5⟩, ?_⟩
      · show (r ++ [b]).Nodup
        rw [List.nodup_append]
        refine ⟨hn.2, by simp, ?_⟩
        intro x hx y hy e
        have : y = b := by simpa using hy
        subst e this
        exact hn.1 hx
      · intro x hx
        have hx : x ∈ r ++ [b] := hx
        rcases List.mem_append.mp hx with h | h
        · exact hr2 x h
        · have : x = b := by simpa using h
          subst this; exact hb
      · intro x hx
        show (if x = b then ab_aw D b + 1 else ab_aw D x) ≤ 9
        split
        · omega
        · exact h3 x hx
      · rw [hm]
        show ((r ++ [b]).map (fun x => 10 - (if x = b then ab_aw D b + 1 else ab_aw D x))).sum < _
        rw [List.map_append, List.sum_append]
        have e1 : r.map (fun x => 10 - (if x = b then ab_aw D b + 1 else ab_aw D x)) = r.map (fun b => 10 - ab_aw D b) := by
          refine List.map_congr_left fun x hx => ?_
          rw [if_neg (fun e : x = b => hn.1 (e ▸ hx))]
        rw [e1]
        simp
        omega
theorem ab_turn_ok (h : ab_okP P) (hD : ab_okD P D) (hc : ab_com D = true) : ab_okD P (ab_turn P D) ∧ ab_mea (ab_turn P D) < ab_mea D := by
  unfold ab_turn ab_does ab_ha
  cases hr : ab_row D with
  | nil => unfold ab_com at hc; rw [hr] at hc; simp at hc
  | cons b r =>
    have hb : b < ab_kn P := hD.2.1 b (by rw [hr]; exact List.mem_cons_self)
    have ha := @ab_act_ok P D b ((b :: r).length - 1) h hD hb
    refine ab_do_kn h hD hr (fun h1 h2 => ha.2.2 ?_)
    simp only [List.headD_cons] at h1 h2
    omega
theorem ab_mea_le (hP : ab_kn P ≤ 6) (hD : ab_okD P D) : ab_mea D ≤ 60 := by
  have h1 : ∀ l : List Nat, (l.map (fun b => 10 - ab_aw D b)).sum ≤ 10 * l.length := by
    intro l
    induction l with
    | nil => simp
    | cons x l ih => simp only [List.map_cons, List.sum_cons, List.length_cons]; omega
  have h2 := h1 (ab_row D)
  have h3 := nd_le _ _ hD.1 hD.2.1
  unfold ab_mea
  omega
end ABS
