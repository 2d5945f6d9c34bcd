/-! ===== one price on a fresh object ===== -/
section OP
variable {S : mm_S} {d : Nat}
theorem s118_0 (hw : mm_W S) (h : mm_M S 6 11 = nI 0) {x : Int32} : mm_cl d 118 [.ref 0, .int x] S = some (some (.int (nI 0)), S) := by
  rw [e118, b118_0, b118_4 (wf_o0 hw) (wf_s0_0 hw) (by rw [wf_g0_0 hw]; exact wd_o hw dy6), wf_g0_0 hw, h, if_pos (by decide), b118_34]
theorem i_mul0 (x : Int32) : x * nI 0 = nI 0 := Int32.mul_zero
theorem l91 (hw : mm_W S) (h : mm_M S 6 11 = nI 0) (h2 : mm_M S 6 13 = nI 5) {w : Int32} : ∀ (k i : Nat) (v : Value), i + k = 100 → (∃ x, v = .int x) ∨ v = .null → mm_ex (d + 1) 91 66 [.ref 0, .int w, .int (nI 0), .int (nI 0), .int (nI i), v] [] S = some (some (.int (nI 0)), S) := by
  have e5 : (if nI 0 < nI 5 then nI 0 else nI 5) = nI 0 := if_pos (by decide)
  intro k
  induction k with
  | zero =>
    intro i v hi hv
    have e : i = 100 := by omega
    subst e
    rw [b91_66, if_pos (by decide), b91_112]
    by_cases hw0 : w = nI 0
    · rw [if_pos hw0, b91_116]
    · rw [if_neg hw0, b91_120]
  | succ k ih =>
    intro i v hi hv
    rw [b91_66, if_neg (nI_nlt (by omega) (by decide)), b91_73 (wf_o0 hw) (wf_s0_0 hw) (by rw [wf_g0_0 hw]; exact wd_o hw dy6) (wf_k0 hw), s118_0 hw h, hp_bd, wf_g0_0 hw, h2, hp_tsc, b91_88]
    rw [e5, i_mul0, if_pos (by decide), b91_106, nI_add]
    exact ih (i + 1) _ (by omega) (Or.inl ⟨_, rfl⟩)
theorem pc_18 (hF : mm_Fr S) {w : Int32} : ∃ S1, mm_cl 29 91 [.ref 0, .int w] S = some (some (.int (if w = nI 0 then nI 0 else if w = nI 1 then nI 0 else -1)), S1) ∧ mm_Gd S1 := by
  have hw := hF.2.2.2
  have t6 := hF.2.2.1 6 (by decide)
  have good : mm_ex 29 91 11 [.ref 0, .int w, .null, .null, .null, .null] [] S = some (some (.int (nI 0)), S) := by
    rw [b91_11, b91_13 (wf_o0 hw) (wf_s0_0 hw) (by rw [wf_g0_0 hw]; exact wd_o hw dy6), wf_g0_0 hw, ff_6_11 t6, if_pos (by decide), b91_59]
    exact l91 (d := 28) hw (ff_6_11 t6) (ff_6_13 t6) 100 0 _ rfl (Or.inr rfl)
  by_cases h0 : w = nI 0
  · rw [if_pos h0]; exact ⟨S, by rw [e91, b91_0, if_pos h0, good], gF hF⟩
  · by_cases h1 : w = nI 1
    · rw [if_neg h0, if_pos h1]; exact ⟨S, by rw [e91, b91_0, if_neg h0, b91_4, if_pos h1, good], gF hF⟩
    · rw [if_neg h0, if_neg h1]; exact ⟨S, by rw [e91, b91_0, if_neg h0, b91_4, if_neg h1, b91_9], gF hF⟩
theorem l184 (hw : mm_W S) (h : mm_M S 92 8 = nI 0) {w : Int32} : ∀ (k i : Nat) (v u : Value), i + k = 100 → ((∃ x, v = .int x) ∧ ∃ x, u = .int x) ∨ (v = .null ∧ u = .null) → mm_ex d 184 18 [.ref 92, .int w, .int (nI 0), .int (nI 0), .int (nI i), v, u] [] S = some (some (.int (nI 0)), S) := by
  intro k
  induction k with
  | zero =>
    intro i v u hi hv
    have e : i = 100 := by omega
    subst e
    rw [b184_18, if_pos (by decide), b184_105]
    by_cases hw0 : w = nI 0
    · rw [if_pos hw0, b184_109]
    · rw [if_neg hw0, b184_113]
  | succ k ih =>
    intro i v u hi hv
    rw [b184_18, if_neg (nI_nlt (by omega) (by decide)), b184_25, b184_31 (wf_o92 hw), h, if_pos (by decide), b184_81, i_mul0, if_pos (by decide), b184_99, nI_add]
    exact ih (i + 1) _ _ (by omega) (Or.inl ⟨⟨_, rfl⟩, _, rfl⟩)
theorem pm_18 (hG : mm_Gd S) {w : Int32} : ∃ S1, mm_cl 29 184 [.ref 92, .int w] S = some (some (.int (if w = nI 0 then nI 0 else if w = nI 1 then nI 0 else -1)), S1) ∧ mm_n S1 ≤ 600000 ∧ mm_z S1 ≤ 7302250 := by
  have hw := hG.1
  have z1 := hG.2.2.2.2.2.2.1
  have z2 := hG.2.2.2.2.2.2.2
  have good : mm_ex 29 184 11 [.ref 92, .int w, .null, .null, .null, .null, .null] [] S = some (some (.int (nI 0)), S) := by
    rw [b184_11]
    exact l184 hw (ff_92_8 hG.2.1) 100 0 _ _ rfl (Or.inr ⟨rfl, rfl⟩)
  rcases i_rg w 1 2 (by decide) rfl with ⟨q, -, r⟩ | ⟨-, -, q, r⟩ | ⟨j, hj, rfl⟩
  · rw [if_neg (r 0 (by decide)), if_neg (r 1 (by decide))]; exact ⟨S, by rw [e184, b184_0, s128, if_pos (Or.inl q), hp_bd, hp_ts, b184_6, if_pos rfl, b184_9], by omega, by omega⟩
  · rw [if_neg (r 0 (by decide)), if_neg (r 1 (by decide))]; exact ⟨S, by rw [e184, b184_0, s128, if_pos (Or.inr q), hp_bd, hp_ts, b184_6, if_pos rfl, b184_9], by omega, by omega⟩
  · rcases (by omega : j = 0 ∨ j = 1) with rfl | rfl
    · rw [if_pos rfl]; exact ⟨S, by rw [e184, b184_0, s128, if_neg (by decide), hp_bd, hp_ts, b184_6, if_neg i01, good], by omega, by omega⟩
    · rw [if_neg i01, if_pos rfl]; exact ⟨S, by rw [e184, b184_0, s128, if_neg (by decide), hp_bd, hp_ts, b184_6, if_neg i01, good], by omega, by omega⟩
end OP
