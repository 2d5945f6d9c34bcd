/-! ===== small methods of a day ===== -/
theorem nI_n0 {n : Nat} (h : n < 2 ^ 31) : ¬ nI n < nI 0 := nI_pos h
section DI
variable {S : mm_S} {a i : Nat}
theorem di_1 (hw : mm_W S) (ha : mm_dy a) (h : i < 6) : mm_inb (nI i) (mm_N S (mm_rg S a 1)) = true := by rw [wd_g1 hw ha, wd_N2 hw ha]; exact hp_inb h (by omega)
theorem di_2 (hw : mm_W S) (ha : mm_dy a) (h : i < 18) : mm_inb (nI i) (mm_N S (mm_rg S a 2)) = true := by rw [wd_g2 hw ha, wd_N3 hw ha]; exact hp_inb h (by omega)
theorem di_3 (hw : mm_W S) (ha : mm_dy a) (h : i < 6) : mm_inb (nI i) (mm_N S (mm_rg S a 3)) = true := by rw [wd_g3 hw ha, wd_N4 hw ha]; exact hp_inb h (by omega)
theorem di_4 (hw : mm_W S) (ha : mm_dy a) (h : i < 6) : mm_inb (nI i) (mm_N S (mm_rg S a 4)) = true := by rw [wd_g4 hw ha, wd_N5 hw ha]; exact hp_inb h (by omega)
theorem di_5 (hw : mm_W S) (ha : mm_dy a) (h : i < 6) : mm_inb (nI i) (mm_N S (mm_rg S a 5)) = true := by rw [wd_g5 hw ha, wd_N6 hw ha]; exact hp_inb h (by omega)
theorem di_6 (hw : mm_W S) (ha : mm_dy a) (h : i < 12) : mm_inb (nI i) (mm_N S (mm_rg S a 6)) = true := by rw [wd_g6 hw ha, wd_N7 hw ha]; exact hp_inb h (by omega)
theorem di_7 (hw : mm_W S) (ha : mm_dy a) (h : i < 7) : mm_inb (nI i) (mm_N S (mm_rg S a 7)) = true := by rw [wd_g7 hw ha, wd_N8 hw ha]; exact hp_inb h (by omega)
theorem di_0 (hw : mm_W S) (ha : mm_dy a) (h : i < 6) : mm_inb (nI i) (mm_N S (mm_rg S a 0)) = true := by rw [wd_g0 hw ha, wd_N1 hw ha]; exact hp_inb h (by omega)
theorem dx_0 (hw : mm_W S) (ha : mm_dy a) : (mm_arr S (mm_rg S a 0) 16 || mm_arr S (mm_rg S a 0) 17 || mm_arr S (mm_rg S a 0) 18) = true := by rw [wd_g0 hw ha]; exact wd_a1 hw ha
theorem dx_1 (hw : mm_W S) (ha : mm_dy a) : mm_arr S (mm_rg S a 1) 13 = true := by rw [wd_g1 hw ha]; exact wd_a2 hw ha
theorem dx_2 (hw : mm_W S) (ha : mm_dy a) : mm_arr S (mm_rg S a 2) 13 = true := by rw [wd_g2 hw ha]; exact wd_a3 hw ha
theorem dx_3 (hw : mm_W S) (ha : mm_dy a) : mm_arr S (mm_rg S a 3) 13 = true := by rw [wd_g3 hw ha]; exact wd_a4 hw ha
theorem dx_4 (hw : mm_W S) (ha : mm_dy a) : mm_arr S (mm_rg S a 4) 13 = true := by rw [wd_g4 hw ha]; exact wd_a5 hw ha
theorem dx_5 (hw : mm_W S) (ha : mm_dy a) : mm_arr S (mm_rg S a 5) 13 = true := by rw [wd_g5 hw ha]; exact wd_a6 hw ha
theorem dx_6 (hw : mm_W S) (ha : mm_dy a) : mm_arr S (mm_rg S a 6) 13 = true := by rw [wd_g6 hw ha]; exact wd_a7 hw ha
theorem dx_7 (hw : mm_W S) (ha : mm_dy a) : mm_arr S (mm_rg S a 7) 13 = true := by rw [wd_g7 hw ha]; exact wd_a8 hw ha
end DI
/-- the place of b in a row -/
def ab_at (b : Nat) : List Nat → Option Nat
  | [] => none
  | y :: r => if y = b then some 0 else (ab_at b r).map (· + 1)
theorem at_some {b : Nat} : ∀ {r : List Nat} {k : Nat}, ab_at b r = some k → k < r.length ∧ r.getD k 0 = b := by
  intro r
  induction r with
  | nil => intro k h; cases h
  | cons y r ih =>
    intro k h
    unfold ab_at at h
    by_cases e : y = b
    · rw [if_pos e] at h
      cases h
      exact ⟨Nat.succ_pos _, e⟩
    · rw [if_neg e] at h
      obtain ⟨j, hj, rfl⟩ := Option.map_eq_some_iff.mp h
      obtain ⟨h1, h2⟩ := ih hj
      exact ⟨Nat.succ_lt_succ h1, h2⟩
theorem at_none {b : Nat} : ∀ {r : List Nat}, ab_at b r = none ↔ b ∉ r := by
  intro r
  induction r with
  | nil => simp [ab_at]
  | cons y r ih =>
    unfold ab_at
    by_cases e : y = b
    · rw [if_pos e]; simp [e]
    · rw [if_neg e, Option.map_eq_none_iff, ih, List.mem_cons]
      constructor
      · intro h h2; exact h2.elim (fun h3 => e h3.symm) h
      · intro h h2; exact h (Or.inr h2)
theorem fo_neg {o : Option Nat} (h : ∀ k, o = some k → k < 2 ^ 31) : (cd_fo o < nI 0) = (o = none) := by
  cases o with
  | none => exact propext ⟨fun _ => rfl, fun _ => by decide⟩
  | some k => exact propext ⟨fun e => absurd e (nI_pos (h k rfl)), fun e => by cases e⟩
theorem dr_c {r : List Nat} {i : Nat} (h : i < r.length) : r.drop i = r.getD i 0 :: r.drop (i + 1) := by
  rw [List.getD_eq_getElem?_getD, List.getElem?_eq_getElem h]
  exact List.drop_eq_getElem_cons h
/-- all that is known of the day a -/
def cd_A (S : mm_S) (a : Nat) (P : ab_P) (D : ab_D) : Prop := mm_W S ∧ mm_dy a ∧ cd_P S a P ∧ cd_D S a (ab_kn P) D ∧ ab_okP P ∧ ab_okD P D
theorem row_le {P : ab_P} {D : ab_D} (h : ab_okP P) (h2 : ab_okD P D) : (ab_row D).length ≤ 6 := Nat.le_trans (nd_le _ _ h2.1 h2.2.1) h.1
section SD
variable {S : mm_S} {a b d n : Nat} {P : ab_P} {D : ab_D} {r : List Nat} {o : Option Nat}
theorem s12_loop (hw : mm_W S) (ha : mm_dy a) (hl : mm_M S a 11 = nI r.length) (h6 : r.length ≤ 6) (hr : ∀ p, p < r.length → mm_M S (a + 6) p = nI (r.getD p 0)) (hb : ∀ y ∈ r, y < 6) (ho : ∀ f, o = some f → f < 6) : ∀ k i : Nat, i + k = r.length → mm_ex d 12 2 [.ref a, .int (cd_fo o), .int (nI i)] [] S = some (some (.int (cd_fo ((o.bind fun f => ab_at f (r.drop i)).map (· + i)))), S) := by
  intro k
  induction k with
  | zero =>
    intro i hi
    have e : i = r.length := by omega
    subst e
    rw [b12_2 (wd_o hw ha), hl, if_pos (nI_le (Nat.le_refl _) (by omega)), b12_28, List.drop_length]
    cases o <;> rfl
  | succ k ih =>
    intro i hi
    have hi6 : i < r.length := by omega
    have hy : r.getD i 0 < 6 := by
      rw [List.getD_eq_getElem?_getD, List.getElem?_eq_getElem hi6]
      exact hb _ (List.getElem_mem hi6)
    rw [b12_2 (wd_o hw ha), hl, if_neg (nI_ge hi6 (by omega)), b12_10 (wd_o hw ha) (wd_s5 hw ha) (di_5 hw ha (by omega)) (dx_5 hw ha), wd_g5 hw ha, nI_clamp (by omega), hr i hi6, dr_c hi6]
    cases o with
    | none =>
      have hn : ¬ nI (r.getD i 0) = cd_fo none := by
        intro e
        have h1 := congrArg Int32.toInt e
        rw [nI_toInt (by omega)] at h1
        have h2 : (cd_fo none).toInt = -1 := rfl
        omega
      rw [if_neg hn, b12_22, nI_add, ih (i + 1) (by omega)]
      rfl
    | some f =>
      have hf := ho f rfl
      have fs : cd_fo (some f) = nI f := rfl
      rw [fs] at ih ⊢
      by_cases e : r.getD i 0 = f
      · have e2 : ab_at f (r.getD i 0 :: r.drop (i + 1)) = some 0 := if_pos e
        rw [e, if_pos rfl, b12_20]
        show _ = some (some (Value.int (cd_fo ((ab_at f (f :: r.drop (i + 1))).map (· + i)))), S)
        rw [e] at e2
        rw [e2]
        show _ = some (some (Value.int (nI (0 + i))), S)
        rw [Nat.zero_add]
      · rw [if_neg (fun h => e ((nI_eq (by omega) (by omega)).mp h)), b12_22, nI_add, ih (i + 1) (by omega)]
        show some (some (Value.int (cd_fo ((ab_at f (r.drop (i + 1))).map (· + (i + 1))))), S) = some (some (Value.int (cd_fo ((if r.getD i 0 = f then some 0 else (ab_at f (r.drop (i + 1))).map (· + 1)).map (· + i)))), S)
        rw [if_neg e, Option.map_map]
        congr 6
        funext x
        show x + (i + 1) = x + 1 + i
        omega
theorem s12 (hA : cd_A S a P D) (ho : ∀ f, o = some f → f < 6) : mm_cl d 12 [.ref a, .int (cd_fo o)] S = some (some (.int (cd_fo (o.bind fun f => ab_at f (ab_row D)))), S) := by
  obtain ⟨hw, ha, hP, hD, oP, oD⟩ := hA
  have h := s12_loop (d := d) (r := ab_row D) (o := o) hw ha hD.1 (row_le oP oD) hD.2.1 (fun y hy => Nat.lt_of_lt_of_le (oD.2.1 y hy) oP.1) ho (ab_row D).length 0 (Nat.zero_add _)
  rw [e12, b12_0, h, List.drop_zero]
  have e : (fun x : Nat => x + 0) = id := rfl
  rw [e, Option.map_id]
  rfl
theorem s12b (hA : cd_A S a P D) (hb : b < ab_kn P) : mm_cl d 12 [.ref a, .int (nI b)] S = some (some (.int (cd_fo (ab_at b (ab_row D)))), S) :=
  s12 (o := some b) hA (fun f e => by cases e; exact Nat.lt_of_lt_of_le hb hA.2.2.2.2.1.1)
theorem at_lt {l : List Nat} (h : l.length ≤ 6) {k : Nat} (e : ab_at b l = some k) : k < 6 := Nat.lt_of_lt_of_le (at_some e).1 h
theorem s17 (hA : cd_A S a P D) (hb : b < ab_kn P) : mm_cl (d + 1) 17 [.ref a, .int (nI b)] S = some (some (.int (if ab_frn P D b = true then nI 1 else nI 0)), S) := by
  have hA' := hA
  obtain ⟨hw, ha, hP, hD, oP, oD⟩ := hA
  have hb6 := Nat.lt_of_lt_of_le hb oP.1
  rw [e17, b17_0 (wd_o hw ha) (wd_s1 hw ha) (di_1 hw ha hb6) (dx_1 hw ha) (wd_k hw ha), wd_g1 hw ha, nI_clamp (by omega), hP.2.2.1 b hb, s12 hA' (fun f e => Nat.lt_of_lt_of_le (oP.2.2.2.2.1 b f hb e).1 oP.1), hp_bd, hp_ts, b17_10]
  have hn : ∀ k, ((ab_fr P b).bind fun f => ab_at f (ab_row D)) = some k → k < 2 ^ 31 := by
    intro k e
    cases hf : ab_fr P b with
    | none => rw [hf] at e; cases e
    | some f =>
      rw [hf] at e
      have h1 := at_lt (row_le oP oD) (e : ab_at f (ab_row D) = some k)
      omega
  have key : (cd_fo ((ab_fr P b).bind fun f => ab_at f (ab_row D)) < nI 0) = (ab_frn P D b = false) := by
    rw [fo_neg hn]
    unfold ab_frn
    cases hf : ab_fr P b with
    | none => exact propext ⟨fun _ => rfl, fun _ => rfl⟩
    | some f =>
      show (ab_at f (ab_row D) = none) = (decide (f ∈ ab_row D) = false)
      rw [at_none]
      simp
  cases hf : ab_frn P D b with
  | false => rw [if_pos (by rw [key]; exact hf), b17_17, if_neg (by decide)]
  | true => rw [if_neg (by rw [key, hf]; decide), b17_13, if_pos rfl]
theorem s16 (hA : cd_A S a P D) (hb : b < ab_kn P) : mm_cl d 16 [.ref a, .int (nI b)] S = some (some (.int (if ab_may P D b = true then nI 1 else nI 0)), S) := by
  obtain ⟨hw, ha, hP, hD, oP, oD⟩ := hA
  have hb6 := Nat.lt_of_lt_of_le hb oP.1
  obtain ⟨s, hs, hs2, hs3⟩ := hP.2.2.2.2.2
  have h9 := oD.2.2.1 b hb
  have h9' := @ab_away_le P
  rw [e16, b16_0 (wd_o hw ha) (wd_s3 hw ha) (di_3 hw ha hb6) (dx_3 hw ha) (hp_rs hs) (by rw [hp_rg hs]; exact ws_o hw hs2), wd_g3 hw ha, nI_clamp (by omega), hp_rg hs, hs3.2.2.1, hD.2.2.1 b hb]
  show (if nI (ab_away P) ≤ nI (ab_aw D b) then _ else _) = _
  unfold ab_may
  by_cases h : ab_aw D b < ab_away P
  · rw [if_neg (nI_ge h (by omega)), b16_16, if_pos (decide_eq_true h)]
  · rw [if_pos (nI_le (Nat.le_of_not_lt h) (by omega)), b16_20, if_neg (fun e => h (of_decide_eq_true e))]
end SD
