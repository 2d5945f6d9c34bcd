/-! ===== order: the best row is the same ===== -/
def b_o (V : List Nat → Int32) (s : Option (Int32 × List Nat)) (l : List Nat) : Option (Int32 × List Nat) := match s with
  | none => some (V l, l)
  | some q => if q.1 < V l then some (V l, l) else some q
def h_r (P : ab_P) (D : ab_D) (s : Option Nat × Int32) : Option (Int32 × List Nat) := s.1.map (fun o => (s.2, ab_rr P D o))
def h_c (n : Nat) (s : Option (Int32 × (Nat → Nat))) : Option (Int32 × List Nat) := s.map (fun q => (q.1, np_f q.2 n))
section O14
variable {n j w : Nat} {P : ab_P} {D : ab_D} {G : gb_G} {x k : Int32} {V : List Nat → Int32}
theorem bo_s : ∀ (R : List (List Nat)) (s : Option (Int32 × List Nat)), s ≠ none → R.foldl (b_o V) s ≠ none := by
  intro R
  induction R with
  | nil => intro s h; exact h
  | cons l R ih =>
    intro s h
    rw [List.foldl_cons]
    refine ih _ ?_
    cases s with
    | none => exact absurd rfl h
    | some q =>
      unfold b_o
      intro e
      simp only at e
      split at e <;> cases e
theorem fo_c : ∀ (fs : List (Nat → Nat)) (s : Option (Int32 × (Nat → Nat))), h_c (ab_row D).length (fs.foldl (ab_oo P D w) s) = (fs.map (fun f => np_f f (ab_row D).length)).foldl (b_o (ab_rv P D w)) (h_c (ab_row D).length s) := by
  intro fs
  induction fs with
  | nil => intro s; rfl
  | cons f fs ih =>
    intro s
    rw [List.foldl_cons, List.map_cons, List.foldl_cons, ih]
    congr 1
    cases s with
    | none => rfl
    | some q =>
      by_cases h : q.1 < ab_ov P D w f
      · have e1 : ab_oo P D w (some q) f = some (ab_ov P D w f, f) := if_pos h
        rw [e1]
        exact (if_pos h).symm
      · have e1 : ab_oo P D w (some q) f = some q := if_neg h
        rw [e1]
        exact (if_neg h).symm
theorem fo_m : ∀ (os : List Nat) (s : Option Nat × Int32), h_r P D (os.foldl (ab_r1 P D w) s) = (os.map (ab_rr P D)).foldl (b_o (ab_rv P D w)) (h_r P D s) := by
  intro os
  induction os with
  | nil => intro s; rfl
  | cons o os ih =>
    intro s
    rw [List.foldl_cons, List.map_cons, List.foldl_cons, ih]
    congr 1
    obtain ⟨s1, v⟩ := s
    cases s1 with
    | none =>
      have e1 : ab_r1 P D w (none, v) o = (some o, ab_rv P D w (ab_rr P D o)) := if_pos (Or.inl rfl)
      rw [e1]
      rfl
    | some p =>
      by_cases h : v < ab_rv P D w (ab_rr P D o)
      · have e1 : ab_r1 P D w (some p, v) o = (some o, ab_rv P D w (ab_rr P D o)) := if_pos (Or.inr h)
        rw [e1]
        exact (if_pos h).symm
      · have e1 : ab_r1 P D w (some p, v) o = (some p, v) := if_neg (fun z => z.elim (fun e => by cases e) h)
        rw [e1]
        exact (if_neg h).symm
theorem eq_14 (ok : gb_ok G) : an_14 G x k = mn_14 G x k := by
  unfold an_14 mn_14
  by_cases c1 : ¬ (x = nI 0 ∨ x = nI 1) ∨ k < -1 ∨ nI (ab_row (gD G)).length ≤ k
  · rw [if_pos c1, if_pos c1]
  rw [if_neg c1, if_neg c1]
  by_cases c2 : 5 < (ab_row (gD G)).length
  · rw [if_pos c2, if_pos c2]
  rw [if_neg c2, if_neg c2]
  generalize (if x = nI 0 then 0 else 1 : Nat) = w
  have h1 := @fo_c w (gP G) (gD G) (ab_os G) none
  have h2 : h_r (gP G) (gD G) (ab_ro (gP G) (gD G) w (lh_f (ab_row (gD G)).length)) = _ := @fo_m w (gP G) (gD G) (List.range (lh_f (ab_row (gD G)).length)) (none, nI 0)
  rw [rows_eq ok (by omega)] at h1
  have hne : ((List.range (lh_f (ab_row (gD G)).length)).map (ab_rr (gP G) (gD G))).foldl (b_o (ab_rv (gP G) (gD G) w)) none ≠ none := by
    have h0 := lf_pos (ab_row (gD G)).length
    obtain ⟨m, hm⟩ : ∃ m, lh_f (ab_row (gD G)).length = m + 1 := ⟨lh_f (ab_row (gD G)).length - 1, by omega⟩
    rw [hm, List.range_succ_eq_map, List.map_cons, List.foldl_cons]
    exact bo_s _ _ (fun e => by cases e)
  have h1' : h_c (ab_row (gD G)).length ((ab_os G).foldl (ab_oo (gP G) (gD G) w) none) = h_r (gP G) (gD G) (ab_ro (gP G) (gD G) w (lh_f (ab_row (gD G)).length)) := h1.trans h2.symm
  have h2' : h_r (gP G) (gD G) (ab_ro (gP G) (gD G) w (lh_f (ab_row (gD G)).length)) ≠ none := by rw [h2]; exact hne
  generalize (ab_os G).foldl (ab_oo (gP G) (gD G) w) none = A at h1' ⊢
  generalize ab_ro (gP G) (gD G) w (lh_f (ab_row (gD G)).length) = B at h1' h2' ⊢
  obtain ⟨B1, v⟩ := B
  cases B1 with
  | none => exact absurd rfl h2'
  | some o =>
    cases A with
    | none => cases h1'
    | some q =>
      have h3 : some (q.1, np_f q.2 (ab_row (gD G)).length) = some (v, ab_rr (gP G) (gD G) o) := h1'
      have h4 := Option.some.inj h3
      have e1 : q.1 = v := congrArg Prod.fst h4
      have e2 : np_f q.2 (ab_row (gD G)).length = ab_rr (gP G) (gD G) o := congrArg Prod.snd h4
      show (if k < nI 0 then q.1 else nI (q.2 k.toNatClampNeg)) = (if k = -1 then v else nI ((ab_rr (gP G) (gD G) o).getD k.toNatClampNeg 0))
      have k1 : ¬ k < -1 := fun z => c1 (Or.inr (Or.inl z))
      have k2 : ¬ nI (ab_row (gD G)).length ≤ k := fun z => c1 (Or.inr (Or.inr z))
      by_cases hk : k = -1
      · subst hk
        rw [if_pos (by decide), if_pos rfl, e1]
      · have k0 : ¬ k < nI 0 := by
          intro z
          rw [Int32.lt_iff_toInt_lt] at k1 z
          have m1 : (-1 : Int32).toInt = -1 := rfl
          have m0 : (nI 0).toInt = 0 := rfl
          exact hk (Int32.toInt_inj.mp (by omega))
        obtain ⟨j, hj, rfl⟩ := nI_of (x := k) k0
        have hj2 : j < (ab_row (gD G)).length := by
          by_cases z : j < (ab_row (gD G)).length
          · exact z
          · exact absurd (nI_le (by omega) hj) k2
        rw [if_neg k0, if_neg hk, ← e2, nI_clamp hj, np_ge hj2]
end O14
