/-! ===== letBy: what is gained from the same day on differs by little, so both ways of asking are one ===== -/
def zr (n : Nat) (g h : Int32) : Prop := ∃ k : Int, -(n : Int) ≤ k ∧ k ≤ n ∧ h = g + Int32.ofInt k
section NR
variable {P : ab_P} {D : ab_D} {G : gb_G} {g h x y : Int32} {a b j n p act : Nat} {r : List Nat}
theorem zr_0 : zr n g g := ⟨0, by omega, by omega, by rw [show Int32.ofInt 0 = 0 from rfl, Int32.add_zero]⟩
theorem zr_tr (h1 : zr a g h) (h2 : zr b h x) : zr (a + b) g x := by
  obtain ⟨k, k1, k2, rfl⟩ := h1
  obtain ⟨m, m1, m2, rfl⟩ := h2
  exact ⟨k + m, by omega, by omega, by rw [Int32.ofInt_add, Int32.add_assoc]⟩
theorem zr_sub (h1 : zr a g x) (h2 : zr b g y) : ∃ k : Int, -((a + b : Nat) : Int) ≤ k ∧ k ≤ ((a + b : Nat) : Int) ∧ x - y = Int32.ofInt k := by
  obtain ⟨k, k1, k2, rfl⟩ := h1
  obtain ⟨m, m1, m2, rfl⟩ := h2
  refine ⟨k - m, by omega, by omega, ?_⟩
  rw [Int32.sub_eq_iff_eq_add]
  have e : Int32.ofInt k = Int32.ofInt (k - m) + Int32.ofInt m := by rw [← Int32.ofInt_add, Int.sub_add_cancel]
  rw [e]
  ac_rfl
theorem zr_do (hP : ab_okP P) (hD : ab_okD P D) (hb : b < ab_kn P) : zr 1100 (ab_ga D j) (ab_ga (ab_do P D b r act) j) := by
  have v1 := @ab_val_le P D b hP hb
  have c1 := @ab_cost_le P D b hP
  have p1 := hD.2.2.2.1
  have f1 := hP.2.1
  unfold ab_do
  by_cases a1 : act = 1
  · rw [if_pos a1]
    show zr 1100 (ab_ga D j) (ab_up1 (ab_ga D) b (ab_ga D b + (nI (ab_val P D b) - nI (ab_pr D))) j)
    unfold ab_up1
    by_cases e : j = b
    · subst e
      rw [if_pos rfl]
      exact ⟨(ab_val P D j : Int) - (ab_pr D : Int), by omega, by omega, by rw [Int32.ofInt_sub, Int32.ofInt_eq_ofNat, Int32.ofInt_eq_ofNat]; rfl⟩
    · rw [if_neg e]; exact zr_0
  · rw [if_neg a1]
    by_cases a2 : act = 2
    · rw [if_pos a2]
      show zr 1100 (ab_ga D j) (ab_up1 (ab_ga D) b (ab_ga D b - (nI (ab_cost P D b) + nI (ab_fe P))) j)
      unfold ab_up1
      by_cases e : j = b
      · subst e
        rw [if_pos rfl]
        refine ⟨-((ab_cost P D j : Int) + (ab_fe P : Int)), by omega, by omega, ?_⟩
        rw [Int32.ofInt_neg, Int32.ofInt_add, Int32.ofInt_eq_ofNat, Int32.ofInt_eq_ofNat, Int32.sub_eq_add_neg]
        rfl
      · rw [if_neg e]; exact zr_0
    · rw [if_neg a2]; exact zr_0
theorem zr_turn (hP : ab_okP P) (hD : ab_okD P D) : zr 1100 (ab_ga D j) (ab_ga (ab_turn P D) j) := by
  unfold ab_turn ab_does
  cases hr : ab_row D with
  | nil => exact zr_0
  | cons b r => exact zr_do hP hD (hD.2.1 b (by rw [hr]; exact List.mem_cons_self))
theorem zr_end (hP : ab_okP P) : ∀ (k : Nat) (D : ab_D), ab_okD P D → zr (1100 * k) (ab_ga D j) (ab_ga (ab_end P k D) j) := by
  intro k
  induction k with
  | zero => intro D _; exact zr_0
  | succ k ih =>
    intro D hD
    unfold ab_end
    by_cases hc : ab_com D = true
    · rw [if_pos hc, show 1100 * (k + 1) = 1100 + 1100 * k by omega]
      exact zr_tr (zr_turn hP hD) (ih _ (ab_turn_ok hP hD hc).1)
    · rw [if_neg hc]; exact zr_0
theorem zr_fin (hP : ab_okP P) (hD : ab_okD P D) : zr 66000 (ab_ga D j) (ab_ga (ab_fin P D) j) := zr_end hP 60 D hD
theorem lq_l2 (hu : ∃ k : Int, -((66000 + 66000 : Nat) : Int) ≤ k ∧ k ≤ ((66000 + 66000 : Nat) : Int) ∧ x = Int32.ofInt k) (hv : ∃ k : Int, -((66000 + 66000 : Nat) : Int) ≤ k ∧ k ≤ ((66000 + 66000 : Nat) : Int) ∧ y = Int32.ofInt k) : ab_lq x y = ab_l2 x y := by
  obtain ⟨k, k1, k2, rfl⟩ := hu
  obtain ⟨m, m1, m2, rfl⟩ := hv
  have e1 : (Int32.ofInt k).toInt = k := Int32.toInt_ofInt_of_le (by omega) (by omega)
  have e2 : (Int32.ofInt m).toInt = m := Int32.toInt_ofInt_of_le (by omega) (by omega)
  have e3 : (Int32.ofInt k + Int32.ofInt m).toInt = k + m := by rw [← Int32.ofInt_add]; exact Int32.toInt_ofInt_of_le (by omega) (by omega)
  have e0 : (nI 0).toInt = 0 := rfl
  unfold ab_lq ab_l2
  rw [Bool.eq_iff_iff]
  simp only [Bool.and_eq_true, Bool.or_eq_true, decide_eq_true_eq, Int32.le_iff_toInt_le, Int32.lt_iff_toInt_lt, e0, e1, e2, e3]
  omega
theorem ls_eq (ok : gb_ok G) (hp : p + 1 < (ab_row (gD G)).length) : ab_ls ab_lq (gP G) (gD G) p = ab_ls ab_l2 (gP G) (gD G) p := by
  have hP := ok.1.1
  have hD := ok.1.2.1
  have s := @sw_perm (ab_row (gD G)) p hp
  have hE : ab_okD (gP G) (gD_row (gD G) (ab_sw (ab_row (gD G)) p)) := okD_row hD (s.nodup_iff.mpr hD.1) (fun b hb => hD.2.1 b (s.mem_iff.mp hb))
  have f : ∀ j, zr 66000 (ab_ga (gD G) j) (ab_ga (ab_fin (gP G) (gD_row (gD G) (ab_sw (ab_row (gD G)) p))) j) := fun j => zr_fin (j := j) hP hE
  have f2 : ∀ j, zr 66000 (ab_ga (gD G) j) (ab_ga (ab_fin (gP G) (gD G)) j) := fun j => zr_fin hP hD
  unfold ab_ls
  exact lq_l2 (zr_sub (f _) (f2 _)) (zr_sub (f _) (f2 _))
theorem lb_eq (ok : gb_ok G) : ∀ n, n ≤ (ab_row (gD G)).length - 1 → ab_lb ab_lq (gP G) (gD G) n = ab_lb ab_l2 (gP G) (gD G) n := by
  intro n
  induction n with
  | zero => intro _; rfl
  | succ n ih =>
    intro hn
    have h := ih (by omega)
    unfold ab_lb at h ⊢
    rw [List.range_succ, List.foldl_append, List.foldl_append, h]
    show ab_l1 ab_lq (gP G) (gD G) _ n = ab_l1 ab_l2 (gP G) (gD G) _ n
    unfold ab_l1
    rw [ls_eq ok (by omega)]
theorem eq_15 (ok : gb_ok G) : an_15q ab_lq G x = an_15q ab_l2 G x := by
  unfold an_15q
  rw [lb_eq ok _ (Nat.le_refl _)]
end NR
