/-! ===== a stretch of longs laid to 0 ===== -/
def mm_zL (S : mm_S) (a b n : Nat) : mm_S := mm_wL S (fun c j => if c = a ∧ b ≤ j ∧ j < b + n then 0 else mm_L S c j)
theorem nI_mul (a b : Nat) : nI a * nI b = nI (a * b) := (Int32.ofNat_mul a b).symm
section ZL
variable {S : mm_S} {a b n c j f d : Nat}
theorem hz_L : mm_L (mm_zL S a b n) c j = if c = a ∧ b ≤ j ∧ j < b + n then 0 else mm_L S c j := id rfl
theorem hz_M : mm_M (mm_zL S a b n) = mm_M S := id rfl
theorem hz_R : mm_R (mm_zL S a b n) = mm_R S := id rfl
theorem hz_K : mm_K (mm_zL S a b n) = mm_K S := id rfl
theorem hz_N : mm_N (mm_zL S a b n) = mm_N S := id rfl
theorem hz_n : mm_n (mm_zL S a b n) = mm_n S := id rfl
theorem hz_z : mm_z (mm_zL S a b n) = mm_z S := id rfl
theorem hz_o : mm_obj (mm_zL S a b n) c f = mm_obj S c f := id rfl
theorem hz_a : mm_arr (mm_zL S a b n) c f = mm_arr S c f := id rfl
theorem hz_k : mm_rk (mm_zL S a b n) c = mm_rk S c := id rfl
theorem hz_g : mm_rg (mm_zL S a b n) c j = mm_rg S c j := id rfl
theorem hz_W : mm_W (mm_zL S a b n) = mm_W S := id rfl
theorem zL_0 : mm_zL S a b 0 = S := st_ext (fun _ _ => rfl) (fun c j => by rw [hz_L, if_neg (fun h => by omega)]) (fun _ _ => rfl) (fun _ => rfl) (fun _ => rfl) rfl rfl
theorem zL_s : mm_uL (mm_zL S a b n) a (b + n) 0 = mm_zL S a b (n + 1) := by
  refine st_ext (fun _ _ => rfl) (fun c j => ?_) (fun _ _ => rfl) (fun _ => rfl) (fun _ => rfl) rfl rfl
  rw [hp_LuL, hz_L, hz_L]
  by_cases h : c = a
  · by_cases h1 : j = b + n
    · rw [if_pos ⟨h, h1⟩, if_pos ⟨h, by omega, by omega⟩]
    · rw [if_neg (fun e => h1 e.2)]
      by_cases h2 : b ≤ j ∧ j < b + n
      · rw [if_pos ⟨h, h2⟩, if_pos ⟨h, h2.1, by omega⟩]
      · rw [if_neg (fun e => h2 e.2), if_neg (fun e => by omega)]
  · rw [if_neg (fun e => h e.1), if_neg (fun e => h e.1), if_neg (fun e => h e.1)]
theorem l60 {t : Nat} {x1 x2 : Int32} (ho : mm_obj S t 8 = true) (hs : (mm_R S t 0).isSome = true) (hg : mm_rg S t 0 = a) (ha : mm_arr S a 14 = true) (hN : mm_N S a = 60) : ∀ k i : Nat, i + k = 60 → mm_ex d 60 12 [.ref t, .int x1, .int x2, .int (nI i)] [] (mm_zL S a 0 i) = some (none, mm_zL S a 0 60) := by
  intro k
  induction k with
  | zero =>
    intro i hi
    have e : i = 60 := by omega
    subst e
    rw [b60_12, if_pos (by decide), b60_31]
  | succ k ih =>
    intro i hi
    rw [b60_12, if_neg (nI_ge (by omega) (by decide)), b60_18 (S := mm_zL S a 0 i) ho hs (by rw [hz_g, hg]; exact ha) (by rw [hz_g, hg, hz_N, hN]; exact hp_inb (by omega) (by omega)), hz_g, hg, nI_clamp (by omega), nI_add, ← ih (i + 1) (by omega), ← zL_s, Nat.zero_add]
theorem s60 {t : Nat} {x1 x2 : Int32} (ho : mm_obj S t 8 = true) (hs : (mm_R S t 0).isSome = true) (hg : mm_rg S t 0 = a) (ha : mm_arr S a 14 = true) (hN : mm_N S a = 60) : mm_cl d 60 [.ref t, .int x1, .int x2] S = some (none, mm_zL (mm_uM (mm_uM S t 1 x1) t 2 x2) a 0 60) := by
  have h := l60 (S := mm_uM (mm_uM S t 1 x1) t 2 x2) (d := d) (x1 := x1) (x2 := x2) ho hs hg ha hN 60 0 rfl
  rw [zL_0] at h
  rw [e60, b60_0 ho, h]
theorem l207 (hw : mm_W S) {t : Nat} (ht : t < 6) {x2 x3 : Int32} : ∀ k i : Nat, i + k = 60 → mm_ex d 207 68 [.ref 92, .int (nI t), .int x2, .int x3, .int (nI i)] [] (mm_zL S 112 (60 * t) i) = some (some (.int (nI 1)), mm_zL S 112 (60 * t) 60) := by
  intro k
  induction k with
  | zero =>
    intro i hi
    have e : i = 60 := by omega
    subst e
    rw [b207_68, if_pos (by decide), b207_94]
  | succ k ih =>
    intro i hi
    have hw' : mm_W (mm_zL S 112 (60 * t) i) := hw
    rw [b207_68, if_neg (nI_ge (by omega) (by decide)), b207_75 (wf_o92 hw') (wf_s92_32 hw') (by rw [wf_g92_32 hw']; exact wf_a112 hw') (by rw [nI_mul, nI_add, wf_g92_32 hw', wf_N112 hw']; exact hp_inb (by omega) (by omega)), wf_g92_32 hw', nI_mul, nI_add i 1, nI_add (60 * t) i, nI_clamp (by omega), ← ih (i + 1) (by omega), ← zL_s]
end ZL
