section OPS
variable {S : mm_S}
theorem i_rg (w : Int32) (n m : Nat) (hn : n < 1000) (hm : m = n + 1) : (w < nI 0 ∧ w < nI m ∧ ∀ j, j ≤ n → ¬ w = nI j) ∨ (¬ w < nI 0 ∧ ¬ w < nI m ∧ nI n < w ∧ ∀ j, j ≤ n → ¬ w = nI j) ∨ ∃ j, j ≤ n ∧ w = nI j := by
  subst hm
  by_cases h0 : w < nI 0
  · refine Or.inl ⟨h0, ?_, fun j hj e => ?_⟩
    · exact Int32.lt_trans h0 (nI_lt (by omega) (by omega))
    subst e
    exact nI_pos (n := j) (by omega) h0
  · obtain ⟨j, hj, rfl⟩ := nI_of h0
    by_cases h1 : j ≤ n
    · exact Or.inr (Or.inr ⟨j, h1, rfl⟩)
    · refine Or.inr (Or.inl ⟨h0, nI_nlt (by omega) hj, nI_lt (by omega) hj, fun i hi e => ?_⟩)
      have := (nI_eq hj (by omega)).mp e
      omega
end OPS
