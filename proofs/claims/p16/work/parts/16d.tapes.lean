/-! ===== the class's tapes by their number ===== -/
section TP
variable {S : mm_S} {t d : Nat}
theorem tp_cases (ht : t < 6) : t = 0 ∨ t = 1 ∨ t = 2 ∨ t = 3 ∨ t = 4 ∨ t = 5 := by omega
theorem tp_R (hw : mm_W S) (ht : t < 6) : mm_R S 75 t = some (76 + 2 * t) := by
  rcases tp_cases ht with rfl | rfl | rfl | rfl | rfl | rfl <;> exact hw.2.2 _ _ _ rfl
theorem tp_g (hw : mm_W S) (ht : t < 6) : mm_rg S 75 t = 76 + 2 * t := hp_rg (tp_R hw ht)
theorem tp_s (hw : mm_W S) (ht : t < 6) : (mm_R S 75 t).isSome = true := hp_rs (tp_R hw ht)
theorem tp_o (hw : mm_W S) (ht : t < 6) : mm_obj S (76 + 2 * t) 8 = true := by
  rcases tp_cases ht with rfl | rfl | rfl | rfl | rfl | rfl <;> exact wp_o hw _ _ _ (by decide) rfl (by decide) rfl
theorem tp_k (hw : mm_W S) (ht : t < 6) : mm_rk S (76 + 2 * t) = 8 := by
  rcases tp_cases ht with rfl | rfl | rfl | rfl | rfl | rfl <;> exact wp_k hw _ _ (by decide) rfl (by decide)
theorem tp_g0 (hw : mm_W S) (ht : t < 6) : mm_rg S (76 + 2 * t) 0 = 77 + 2 * t := by
  rcases tp_cases ht with rfl | rfl | rfl | rfl | rfl | rfl <;> exact wp_g hw _ _ _ rfl
theorem tp_s0 (hw : mm_W S) (ht : t < 6) : (mm_R S (76 + 2 * t) 0).isSome = true := by
  rcases tp_cases ht with rfl | rfl | rfl | rfl | rfl | rfl <;> exact wp_s hw _ _ _ rfl
theorem tp_a (hw : mm_W S) (ht : t < 6) : mm_arr S (77 + 2 * t) 14 = true := by
  rcases tp_cases ht with rfl | rfl | rfl | rfl | rfl | rfl <;> exact wp_a hw _ _ (by decide) rfl
theorem tp_N (hw : mm_W S) (ht : t < 6) : mm_N S (77 + 2 * t) = 60 := by
  rcases tp_cases ht with rfl | rfl | rfl | rfl | rfl | rfl <;> exact wp_N hw _ _ (by decide) rfl
theorem tp_n (ht : t < 6) : t < 2 ^ 31 := by omega
theorem tp_in (ht : t < 6) : mm_inb (nI t) 6 = true := hp_inb ht (by omega)
def mm_be (S : mm_S) (t : Nat) (s n : Int32) : mm_S := mm_zL (mm_uM (mm_uM S (76 + 2 * t) 1 s) (76 + 2 * t) 2 n) (77 + 2 * t) 0 60
theorem s60t (hw : mm_W S) (ht : t < 6) {s n : Int32} : mm_cl d 60 [.ref (76 + 2 * t), .int s, .int n] S = some (none, mm_be S t s n) :=
  s60 (tp_o hw ht) (tp_s0 hw ht) (tp_g0 hw ht) (tp_a hw ht) (tp_N hw ht)
end TP
