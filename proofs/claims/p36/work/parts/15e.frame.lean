/-! ===== no run touches a cell that isn't there at its end ===== -/
def mm_Qf (S S' : mm_S) : Prop := mm_n S ≤ mm_n S' ∧ ∀ b, mm_n S' ≤ b → (∀ j, mm_M S' b j = mm_M S b j) ∧ mm_N S' b = mm_N S b ∧ mm_K S' b = mm_K S b
def mm_fa (S : mm_S) (A : mm_Act) : Prop := match A with
  | none => True
  | some (.inl q) => mm_Qf S q.2.2.2
  | some (.inr (.inl q)) => mm_Qf S q.2.2.2
  | some (.inr (.inr r)) => mm_Qf S r.2
section FA
variable {S : mm_S} {ls st : List Value} {pc d : Nat}
theorem qf_rfl : mm_Qf S S := ⟨Nat.le_refl _, fun _ _ => ⟨fun _ => rfl, rfl, rfl⟩⟩
theorem qf_trans {T U : mm_S} (h : mm_Qf S T) (g : mm_Qf T U) : mm_Qf S U :=
  ⟨Nat.le_trans h.1 g.1, fun b hb => ⟨fun j => ((g.2 b hb).1 j).trans ((h.2 b (Nat.le_trans g.1 hb)).1 j), (g.2 b hb).2.1.trans (h.2 b (Nat.le_trans g.1 hb)).2.1, (g.2 b hb).2.2.trans (h.2 b (Nat.le_trans g.1 hb)).2.2⟩⟩
theorem qf_sM {a : Nat} {f : Nat → Int32} (ha : a < mm_n S) : mm_Qf S (mm_sM S a f) := by
  refine ⟨Nat.le_refl _, fun b hb => ⟨fun j => ?_, rfl, rfl⟩⟩
  have e : b ≠ a := by have h2 : mm_n S ≤ b := hb; omega
  exact congrFun (if_neg e) j
theorem qf_sL {a : Nat} {f : Nat → Int64} : mm_Qf S (mm_sL S a f) := ⟨Nat.le_refl _, fun _ _ => ⟨fun _ => rfl, rfl, rfl⟩⟩
theorem qf_sR {a : Nat} {f : Nat → Option Nat} : mm_Qf S (mm_sR S a f) := ⟨Nat.le_refl _, fun _ _ => ⟨fun _ => rfl, rfl, rfl⟩⟩
theorem qf_nw {k n : Nat} : mm_Qf S (mm_nw S k n) := by
  refine ⟨by rw [hn_n]; omega, fun b hb => ?_⟩
  rw [hn_n] at hb
  have e : b ≠ mm_n S := by omega
  exact ⟨fun j => by rw [hn_M, if_neg e], by rw [hn_N, if_neg e], by rw [hn_K, if_neg e]⟩
theorem fa_none : mm_fa S none := trivial
theorem fa_go {S' : mm_S} (h : mm_Qf S S') : mm_fa S (mm_go pc ls st S') := h
theorem fa_ca {S' : mm_S} {y : Nat} (h : mm_Qf S S') : mm_fa S (mm_ca y ls st S') := h
theorem fa_rt {S' : mm_S} {v : Option Value} (h : mm_Qf S S') : mm_fa S (mm_rt v S') := h
theorem fa_gd {b : Bool} {A : mm_Act} (h : b = true → mm_fa S A) : mm_fa S (mm_gd b A) := by
  unfold mm_gd
  by_cases hb : b = true
  · rw [if_pos hb]; exact h hb
  · rw [if_neg hb]; trivial
theorem fa_i1 {f : Int32 → List Value → mm_Act} (h : ∀ x r, mm_fa S (f x r)) : mm_fa S (mm_i1 st f) := by
  unfold mm_i1; split
  · exact h _ _
  · trivial
theorem fa_i2 {f : Int32 → Int32 → List Value → mm_Act} (h : ∀ x y r, mm_fa S (f x y r)) : mm_fa S (mm_i2 st f) := by
  unfold mm_i2; split
  · exact h _ _ _
  · trivial
theorem fa_j1 {f : Int64 → List Value → mm_Act} (h : ∀ x r, mm_fa S (f x r)) : mm_fa S (mm_j1 st f) := by
  unfold mm_j1; split
  · exact h _ _
  · trivial
theorem fa_j2 {f : Int64 → Int64 → List Value → mm_Act} (h : ∀ x y r, mm_fa S (f x y r)) : mm_fa S (mm_j2 st f) := by
  unfold mm_j2; split
  · exact h _ _ _
  · trivial
theorem fa_r1 {f : Nat → List Value → mm_Act} (h : ∀ x r, mm_fa S (f x r)) : mm_fa S (mm_r1 st f) := by
  unfold mm_r1; split
  · exact h _ _
  · trivial
theorem fa_pr {f : Value → Nat → List Value → mm_Act} (h : ∀ x y r, mm_fa S (f x y r)) : mm_fa S (mm_pr st f) := by
  unfold mm_pr; split
  · exact h _ _ _
  · trivial
theorem fa_v1 {f : Value → List Value → mm_Act} (h : ∀ x r, mm_fa S (f x r)) : mm_fa S (mm_v1 st f) := by
  unfold mm_v1; split
  · exact h _ _
  · trivial
theorem fa_jp {off : Int} : mm_fa S (mm_jp pc off ls st S) := by
  unfold mm_jp; split
  · trivial
  · exact qf_rfl
theorem fa_cj {b : Bool} {off : Int} : mm_fa S (mm_cj b pc off ls st S) := by
  unfold mm_cj; split
  · trivial
  · split <;> exact qf_rfl
theorem fa_ire {rt : Option FieldType} : mm_fa S (mm_ire st rt S) := by
  unfold mm_ire; split
  · split
    · exact qf_rfl
    · trivial
  · trivial
theorem fa_lre {rt : Option FieldType} : mm_fa S (mm_lre st rt S) := by
  unfold mm_lre; split
  · exact qf_rfl
  · trivial
theorem fa_are {rt : Option FieldType} : mm_fa S (mm_are st rt S) := by
  unfold mm_are; split
  · exact qf_rfl
  · trivial
theorem fa_vre {rt : Option FieldType} : mm_fa S (mm_vre st rt S) := by
  unfold mm_vre; split
  · exact qf_rfl
  · trivial
theorem ar_lt {a k : Nat} (h : mm_arr S a k = true) : a < mm_n S := by
  rw [hn_a] at h
  simp only [Bool.and_eq_true, decide_eq_true_eq] at h
  exact h.1
theorem ob_lt {a f : Nat} (h : mm_obj S a f = true) : a < mm_n S := by
  rw [hn_o] at h
  simp only [Bool.and_eq_true, decide_eq_true_eq] at h
  exact h.1.1
theorem pf_q {fam k tg a : Nat} {v : Value} {S' : mm_S} (h : mm_pf S fam k tg a v = some S') : mm_Qf S S' := by
  unfold mm_pf at h
  split at h
  · rename_i ho
    have ha := ob_lt ho
    split at h
    · cases h; exact qf_sM ha
    · split at h
      · cases h; exact qf_sM ha
      · cases h
    · cases h; exact qf_sL
    · split at h
      · cases h; exact qf_sR
      · cases h
    · cases h
  · cases h
theorem fa_st {t : mm_mT} (i : Instr) : mm_fa S (mm_st d t pc ls st S i) := by
  cases i
  all_goals unfold mm_st
  all_goals
    repeat' first
      | with_reducible exact fa_none
      | with_reducible exact qf_rfl
      | with_reducible exact fa_jp
      | with_reducible exact fa_cj
      | with_reducible exact fa_ire
      | with_reducible exact fa_lre
      | with_reducible exact fa_are
      | with_reducible exact fa_vre
      | with_reducible refine fa_go ?_
      | with_reducible refine fa_ca ?_
      | with_reducible exact qf_nw
      | with_reducible exact qf_sL
      | with_reducible exact qf_sR
      | with_reducible refine fa_i1 fun x r => ?_
      | with_reducible refine fa_i2 fun x y r => ?_
      | with_reducible refine fa_j1 fun x r => ?_
      | with_reducible refine fa_j2 fun x y r => ?_
      | with_reducible refine fa_r1 fun x r => ?_
      | with_reducible refine fa_pr fun x y r => ?_
      | with_reducible refine fa_v1 fun x r => ?_
      | with_reducible refine fa_gd fun h => ?_
      | (with_reducible refine qf_sM ?_; refine ar_lt (k := 13) ?_; simp_all; done)
      | (with_reducible refine qf_sM ?_; refine ar_lt (k := 15) ?_; simp_all; done)
      | (rename_i hpf; exact pf_q hpf)
      | split
end FA
