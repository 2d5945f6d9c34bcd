section OPS
variable {S : mm_S}
theorem i_km (k : Int32) : (k < -1 ∧ k < nI 0 ∧ ¬ k = -1) ∨ k = -1 ∨ (¬ k < nI 0 ∧ ¬ k < -1 ∧ ¬ k = -1) := by
  have e1 : (-1 : Int32).toInt = -1 := by decide
  have e0 : (nI 0).toInt = 0 := by decide
  by_cases h : k = -1
  · exact Or.inr (Or.inl h)
  · have h2 : ¬ k.toInt = -1 := fun e => h (Int32.toInt_inj.mp (e.trans e1.symm))
    rw [Int32.lt_iff_toInt_lt, Int32.lt_iff_toInt_lt, e1, e0]
    by_cases h3 : k.toInt < -1
    · exact Or.inl ⟨h3, by omega, h⟩
    · exact Or.inr (Or.inr ⟨by omega, h3, h⟩)
theorem i_13 (w : Int32) : w = nI 10 ∨ w = nI 11 ∨ w = nI 12 ∨ w = nI 13 ∨ ((¬ w = nI 10 ∧ ¬ w = nI 11 ∧ ¬ w = nI 12 ∧ ¬ w = nI 13) ∧ (w < nI 10 ∨ nI 13 < w)) := by
  by_cases h : w < nI 10 ∨ nI 13 < w
  · refine Or.inr (Or.inr (Or.inr (Or.inr ⟨⟨?_, ?_, ?_, ?_⟩, h⟩))) <;> (rintro rfl; revert h; decide)
  · have h1 : ¬ w < nI 10 := fun e => h (Or.inl e)
    have h2 : ¬ nI 13 < w := fun e => h (Or.inr e)
    have h0 : ¬ w < nI 0 := fun e => h1 (Int32.lt_trans e (by decide))
    obtain ⟨j, hj, rfl⟩ := nI_of h0
    rw [nI_ltI hj (by decide)] at h1
    rw [nI_ltI (by decide) hj] at h2
    have : j = 10 ∨ j = 11 ∨ j = 12 ∨ j = 13 := by omega
    rcases this with rfl | rfl | rfl | rfl <;> simp
theorem hcp0 : mm_cpOk (nI 0) (nI 0) (nI 0) 6 6 = true := by decide
theorem hcp6 : mm_cpOk (nI 0) (nI 0) (nI 6) 6 6 = true := by decide
end OPS
