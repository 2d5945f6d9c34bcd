section OPS
variable {S : mm_S}
theorem i_km (k : Int32) : (k < -1 ∧ k < nI 0 ∧ ¬ k = -1) ∨ k = -1 ∨ (¬ k < nI 0 ∧ ¬ k < -1 ∧ ¬ k = -1) := by
  have e1 : (-1 : Int32).toInt = -1 := by decide
  have e0 : (nI 0).toInt = 0 := by decide
  by_cases h : k = -1
  · exact Or.inr (Or.inl h)
  · have h2 : ¬ k.toInt = -1 := fun e => h (Int32.toInt_inj.mp (e.trans e1.symm))
    rw [Int32.lt_iff_toInt_lt, Int32.lt_iff_toInt_lt, e1, e0]
    by_cases h3 : k.toInt < -1
    · exact Or.inl ⟨h3, by omega, h⟩
    · exact Or.inr (Or.inr ⟨by omega, h3, h⟩)
end OPS
