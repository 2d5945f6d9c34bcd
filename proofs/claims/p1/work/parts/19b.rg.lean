section OPS
variable {S : mm_S}
theorem i_rg (w : Int32) (n : Nat) (hn : n < 1000) : (w < nI 0 ∧ ∀ j, j ≤ n → ¬ w = nI j) ∨ (¬ w < nI 0 ∧ nI n < w ∧ ∀ j, j ≤ n → ¬ w = nI j) ∨ ∃ j, j ≤ n ∧ w = nI j := by
  by_cases h0 : w < nI 0
  · refine Or.inl ⟨h0, fun j hj e => ?_⟩
    subst e
    exact nI_pos (n := j) (by omega) h0
  · obtain ⟨j, hj, rfl⟩ := nI_of h0
    by_cases h1 : j ≤ n
    · exact Or.inr (Or.inr ⟨j, h1, rfl⟩)
    · refine Or.inr (Or.inl ⟨h0, nI_lt (by omega) hj, fun i hi e => ?_⟩)
      have := (nI_eq hj (by omega)).mp e
      omega
end OPS
