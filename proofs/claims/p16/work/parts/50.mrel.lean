/-! ===== the reference's cells ===== -/
def gm_ho : Option Nat → Int32
  | none => -1
  | some h => nI h
def gm_X (S : mm_S) (X : gb_X) : Prop := md_P S (gx_P X) ∧ md_D S (ab_kn (gx_P X)) (gx_D X) ∧ mm_M S 92 14 = nI (gx_s X) ∧ mm_M S 92 15 = nI (gx_f X).length ∧ (∀ i, i < (gx_f X).length → mm_M S 101 i = nI ((gx_f X).getD i 0)) ∧ mm_M S 92 18 = gm_ho (gx_h X) ∧ mm_M S 92 27 = -1
def gm_s (S : mm_S) (l : List (List ab_C)) : Prop := mm_M S 92 17 = nI l.length ∧ ∀ h, h < l.length → mm_M S 102 h = nI (l.getD h []).length ∧ md_cl S h (l.getD h []) 0
def gm_t (S : mm_S) (l : List Nat) : Prop := mm_M S 92 26 = nI l.length ∧ ∀ i, i < l.length → mm_M S 108 i = nI (l.getD i 0)
def gm_p (S : mm_S) (f : Nat → Int32 × Nat × (Nat → Int64)) : Prop := ∀ t, t < 6 → mm_M S 110 t = (f t).1 ∧ ((f t).1 ≠ -1 → mm_M S 111 t = nI (f t).2.1) ∧ ∀ i, i < (f t).2.1 → mm_L S 112 (60 * t + i) = (f t).2.2 i
def gm_r (S : mm_S) (l : List Nat) : Prop := mm_M S 92 28 = nI l.length ∧ ∀ i, i < l.length → mm_M S 109 i = nI (l.getD i 0)
def gm_w : List Nat := [109, 111, 114, 101, 99, 111, 115, 116, 117, 112, 32, 32, 100, 111, 119, 110, 97, 119, 97, 121, 102, 101, 101, 32]
def gm_c (S : mm_S) : Prop := (∀ i, i < 24 → mm_M S 113 i = nI (gm_w.getD i 0)) ∧ (∀ i, i < 6 → mm_M S 114 i = nI (([4, 4, 2, 4, 4, 3] : List Nat).getD i 0)) ∧ ∀ i, i < 7 → mm_M S 115 i = nI (([98, 107, 112, 108, 114, 97, 102] : List Nat).getD i 0)
def gm_Y (S : mm_S) (Y : gb_X) : Prop := mm_M S 92 60 = nI (ab_kn (gx_P Y)) ∧ mm_M S 92 61 = nI (gx_s Y) ∧ mm_M S 92 62 = nI (gx_f Y).length ∧ mm_M S 92 63 = gm_ho (gx_h Y) ∧ (∀ b, b < ab_kn (gx_P Y) → mm_M S 126 b = nI (ab_ki (gx_P Y) b) ∧ mm_M S 127 b = nI (ab_v (gx_P Y) b) ∧ mm_M S 128 b = nI (ab_wo (gx_P Y) b) ∧ mm_M S 129 b = md_fo (ab_fr (gx_P Y) b) ∧ mm_M S 130 b = nI (ab_aw (gx_D Y) b) ∧ mm_M S 131 b = ab_ga (gx_D Y) b) ∧ (∀ i, i < 3 * ab_kn (gx_P Y) → mm_M S 132 i = nI (ab_te (gx_P Y) i)) ∧ (∀ p, p < (ab_row (gx_D Y)).length → mm_M S 133 p = nI ((ab_row (gx_D Y)).getD p 0)) ∧ (mm_M S 134 0 = nI (ab_row (gx_D Y)).length ∧ mm_M S 134 1 = nI (ab_pr (gx_D Y)) ∧ mm_M S 134 2 = nI (ab_lo (gx_D Y)) ∧ mm_M S 134 3 = ab_ti (gx_D Y) ∧ mm_M S 134 4 = ab_tu (gx_D Y)) ∧ ∀ i, i < (gx_f Y).length → mm_M S 135 i = nI ((gx_f Y).getD i 0)
def gm_i (S : mm_S) (o : Option gb_X) : Prop := match o with
  | none => mm_M S 92 59 = nI 0
  | some Y => mm_M S 92 59 = nI 1 ∧ gm_Y S Y
def RM (S : mm_S) (G : gb_G) : Prop := mm_W S ∧ gm_X S (gb_x G) ∧ gm_i S (gb_i G) ∧ gm_s S (gb_s G) ∧ gm_t S (gb_t G) ∧ gm_p S (gb_p G) ∧ gm_r S (gb_r G) ∧ gm_c S
/-- where what the day now is stands -/
def nX (c j : Nat) : Prop := (c = 92 ∧ (j = 0 ∨ j = 8 ∨ (10 ≤ j ∧ j ≤ 15) ∨ j = 18 ∨ j = 27)) ∨ (93 ≤ c ∧ c ≤ 96) ∨ ((c = 97 ∨ c = 98 ∨ c = 100) ∧ j < 6) ∨ c = 99 ∨ c = 101 ∨ (102 ≤ c ∧ c ≤ 107)
/-- the day now, and what questions write -/
def gm_now (c j : Nat) : Prop := (c = 92 ∧ (j = 0 ∨ j = 8 ∨ (10 ≤ j ∧ j ≤ 15) ∨ j = 18 ∨ j = 27 ∨ (36 ≤ j ∧ j ≤ 56) ∨ j = 74)) ∨ (93 ≤ c ∧ c ≤ 101) ∨ (116 ≤ c ∧ c ≤ 125) ∨ c = 136
def gm_F (c j : Nat) : Prop := (c = 92 ∧ ((36 ≤ j ∧ j ≤ 56) ∨ j = 74)) ∨ (116 ≤ c ∧ c ≤ 125) ∨ c = 136 ∨ ((c = 97 ∨ c = 98 ∨ c = 100) ∧ 6 ≤ j)
section MT
variable {F : Nat → Nat → Prop} {S T : mm_S} {G : gb_G} {X : gb_X} {P : ab_P} {D : ab_D} {n : Nat} {o : Option Nat}
theorem mt_P (g : ∀ c j, nX c j → mm_M T c j = mm_M S c j) (hp : md_P S P) : md_P T P := by
  obtain ⟨h1, h2, h3, ⟨o, h4⟩, h5⟩ := hp
  have g10 : ∀ c i, 102 ≤ c → c ≤ 107 → mm_M T c i = mm_M S c i := fun c i a b => g c i (by unfold nX; omega)
  have g92 : ∀ j, j = 0 ∨ j = 18 ∨ j = 27 → mm_M T 92 j = mm_M S 92 j := fun j e => g 92 j (by unfold nX; omega)
  have g9 : ∀ c i, 93 ≤ c → c ≤ 96 → mm_M T c i = mm_M S c i := fun c i a b => g c i (by unfold nX; omega)
  refine ⟨(g92 0 (by decide)).trans h1, fun b hb => ?_, fun i hi => (g 99 i (by unfold nX; omega)).trans (h3 i hi), ⟨o, mf_sh g10 (g92 18 (by decide)) h4⟩, ?_⟩
  · obtain ⟨q1, q2, q3, q4⟩ := h2 b hb
    exact ⟨(g9 _ _ (by decide) (by decide)).trans q1, (g9 _ _ (by decide) (by decide)).trans q2, (g9 _ _ (by decide) (by decide)).trans q3, (g9 _ _ (by decide) (by decide)).trans q4⟩
  · rw [g92 27 (by decide)]; exact h5
theorem mt_D (hn : n ≤ 6) (hr : (ab_row D).length ≤ 6) (g : ∀ c j, nX c j → mm_M T c j = mm_M S c j) (hp : md_D S n D) : md_D T n D := by
  obtain ⟨h1, h2, h3, h4, h5, h6, h7, h8⟩ := hp
  exact ⟨(g _ _ (by unfold nX; omega)).trans h1, fun p hp => (g _ _ (by unfold nX; omega)).trans (h2 p hp), fun b hb => (g _ _ (by unfold nX; omega)).trans (h3 b hb), fun b hb => (g _ _ (by unfold nX; omega)).trans (h4 b hb), (g _ _ (by unfold nX; omega)).trans h5, (g _ _ (by unfold nX; omega)).trans h6, (g _ _ (by unfold nX; omega)).trans h7, (g _ _ (by unfold nX; omega)).trans h8⟩
theorem mt_X (hn : ab_kn (gx_P X) ≤ 6) (hr : (ab_row (gx_D X)).length ≤ 6) (g : ∀ c j, nX c j → mm_M T c j = mm_M S c j) (hp : gm_X S X) : gm_X T X := by
  obtain ⟨h1, h2, h3, h4, h5, h6, h7⟩ := hp
  exact ⟨mt_P g h1, mt_D hn hr g h2, (g _ _ (by unfold nX; omega)).trans h3, (g _ _ (by unfold nX; omega)).trans h4, fun i hi => (g _ _ (by unfold nX; omega)).trans (h5 i hi), (g _ _ (by unfold nX; omega)).trans h6, (g _ _ (by unfold nX; omega)).trans h7⟩
theorem mt_Y (g : ∀ c j, (c = 92 ∧ 59 ≤ j ∧ j ≤ 63) ∨ (126 ≤ c ∧ c ≤ 135) → mm_M T c j = mm_M S c j) {Y : gb_X} (hp : gm_Y S Y) : gm_Y T Y := by
  obtain ⟨h1, h2, h3, h4, h5, h6, h7, ⟨a1, a2, a3, a4, a5⟩, h8⟩ := hp
  refine ⟨(g _ _ (by omega)).trans h1, (g _ _ (by omega)).trans h2, (g _ _ (by omega)).trans h3, (g _ _ (by omega)).trans h4, fun b hb => ?_, fun i hi => (g _ _ (by omega)).trans (h6 i hi), fun i hi => (g _ _ (by omega)).trans (h7 i hi), ⟨(g _ _ (by omega)).trans a1, (g _ _ (by omega)).trans a2, (g _ _ (by omega)).trans a3, (g _ _ (by omega)).trans a4, (g _ _ (by omega)).trans a5⟩, fun i hi => (g _ _ (by omega)).trans (h8 i hi)⟩
  obtain ⟨q1, q2, q3, q4, q5, q6⟩ := h5 b hb
  exact ⟨(g _ _ (by omega)).trans q1, (g _ _ (by omega)).trans q2, (g _ _ (by omega)).trans q3, (g _ _ (by omega)).trans q4, (g _ _ (by omega)).trans q5, (g _ _ (by omega)).trans q6⟩
theorem mt_i (g : ∀ c j, (c = 92 ∧ 59 ≤ j ∧ j ≤ 63) ∨ (126 ≤ c ∧ c ≤ 135) → mm_M T c j = mm_M S c j) {o : Option gb_X} (hp : gm_i S o) : gm_i T o := by
  cases o with
  | none => exact (g _ _ (by omega)).trans hp
  | some Y => exact ⟨(g _ _ (by omega)).trans hp.1, mt_Y g hp.2⟩
theorem mt_s {l : List (List ab_C)} (g : ∀ c j, (c = 92 ∧ j = 17) ∨ (102 ≤ c ∧ c ≤ 107) → mm_M T c j = mm_M S c j) (hp : gm_s S l) : gm_s T l :=
  ⟨(g _ _ (by omega)).trans hp.1, fun h hh => ⟨(g _ _ (by omega)).trans (hp.2 h hh).1, mf_cl (fun c i a b => g c i (by omega)) (hp.2 h hh).2⟩⟩
theorem mt_t {l : List Nat} (g : ∀ c j, (c = 92 ∧ j = 26) ∨ c = 108 → mm_M T c j = mm_M S c j) (hp : gm_t S l) : gm_t T l := ⟨(g _ _ (by omega)).trans hp.1, fun i hi => (g _ _ (by omega)).trans (hp.2 i hi)⟩
theorem mt_p {f : Nat → Int32 × Nat × (Nat → Int64)} (g : ∀ c j, c = 110 ∨ c = 111 → mm_M T c j = mm_M S c j) (gl : ∀ j, mm_L T 112 j = mm_L S 112 j) (hp : gm_p S f) : gm_p T f := fun t ht => ⟨(g _ _ (by omega)).trans (hp t ht).1, fun e => (g _ _ (by omega)).trans ((hp t ht).2.1 e), fun i hi => (gl _).trans ((hp t ht).2.2 i hi)⟩
theorem mt_r {l : List Nat} (g : ∀ c j, (c = 92 ∧ j = 28) ∨ c = 109 → mm_M T c j = mm_M S c j) (hp : gm_r S l) : gm_r T l := ⟨(g _ _ (by omega)).trans hp.1, fun i hi => (g _ _ (by omega)).trans (hp.2 i hi)⟩
theorem mt_c (g : ∀ c j, 113 ≤ c ∧ c ≤ 115 → mm_M T c j = mm_M S c j) (hp : gm_c S) : gm_c T := ⟨fun i hi => (g _ _ (by omega)).trans (hp.1 i hi), fun i hi => (g _ _ (by omega)).trans (hp.2.1 i hi), fun i hi => (g _ _ (by omega)).trans (hp.2.2 i hi)⟩
theorem RM_X (h : sf_f gm_now S T) (hw : mm_W T) (hR : RM S G) (hX : gm_X T X) : RM T (X, G.2) := by
  obtain ⟨-, -, h2, h3, h4, h5, h6, h7⟩ := hR
  have g := fun c j q => (h.1 c j q).1
  -- SHOPS that were read stand elsewhere
  refine ⟨hw, hX, mt_i (fun c j q => g c j ?_) h2, mt_s (fun c j q => g c j ?_) h3, mt_t (fun c j q => g c j ?_) h4, mt_p (fun c j q => g c j ?_) (fun j => (h.1 112 j ?_).2.1) h5, mt_r (fun c j q => g c j ?_) h6, mt_c (fun c j q => g c j ?_) h7⟩ <;> (unfold gm_now; omega)
theorem RM_q (ok : gb_ok G) (h : sf_f gm_F S T) (hw : mm_W T) (hR : RM S G) : RM T G := by
  obtain ⟨-, h1, h2, h3, h4, h5, h6, h7⟩ := hR
  have g := fun c j q => (h.1 c j q).1
  refine ⟨hw, mt_X ok.1.1.1 (row_le ok.1.1 ok.1.2.1) (fun c j q => g c j ?_) h1, mt_i (fun c j q => g c j ?_) h2, mt_s (fun c j q => g c j ?_) h3, mt_t (fun c j q => g c j ?_) h4, mt_p (fun c j q => g c j ?_) (fun j => (h.1 112 j ?_).2.1) h5, mt_r (fun c j q => g c j ?_) h6, mt_c (fun c j q => g c j ?_) h7⟩
  · unfold nX at q; unfold gm_F; omega
  all_goals (unfold gm_F; omega)
end MT
/-- a call of the reference -/
def oM (S : mm_S) (d y : Nat) (as : List Value) (v : Value) (G : gb_G) : Prop := ∃ T, mm_cl d y as S = some (some v, T) ∧ RM T G ∧ sf_f gm_0 S T ∧ mm_n T = mm_n S ∧ mm_z T = mm_z S
section OM
variable {S T : mm_S} {G : gb_G} {d y : Nat} {as : List Value} {v : Value} {X : gb_X} {x : Int32} {n m j b : Nat}
theorem now_0 (h : sf_f gm_now S T) : sf_f gm_0 S T := sf_mo h (fun c j h => by unfold gm_now at h; unfold gm_0; omega)
theorem gmF_0 (h : sf_f gm_F S T) : sf_f gm_0 S T := sf_mo h (fun c j h => by unfold gm_F at h; unfold gm_0; omega)
theorem oM_id (hR : RM S G) (h : mm_cl d y as S = some (some v, S)) : oM S d y as v G := ⟨S, h, hR, sf_rf, rfl, rfl⟩
theorem oM_X (hR : RM S G) (h : mm_cl d y as S = some (some v, T)) (hf : sf_f gm_now S T) (hw : mm_W T) (hX : gm_X T X) (hn : mm_n T = mm_n S) (hz : mm_z T = mm_z S) : oM S d y as v (X, G.2) := ⟨T, h, RM_X hf hw hR hX, now_0 hf, hn, hz⟩
theorem oM_q (ok : gb_ok G) (hR : RM S G) (h : mm_cl d y as S = some (some v, T)) (hf : sf_f gm_F S T) (hw : mm_W T) (hn : mm_n T = mm_n S) (hz : mm_z T = mm_z S) : oM S d y as v G := ⟨T, h, RM_q ok hf hw hR, gmF_0 hf, hn, hz⟩
theorem m128n (hm : m = n + 1) (hn : n < 2 ^ 30) (e : ab_kw m x = none) : mm_cl d 128 [.int x, .int (nI 0), .int (nI n)] S = some (some (.int (nI 0)), S) := by
  rw [s128]
  rcases kw_d hm hn x with ⟨-, a1, -⟩ | ⟨-, -, -, a3, -⟩ | ⟨j, -, e2, -⟩
  · rw [if_pos (Or.inl (of_eq_true a1))]
  · rw [if_pos (Or.inr (of_eq_true a3))]
  · rw [e] at e2; cases e2
theorem m128s (hm : m = n + 1) (hn : n < 2 ^ 30) (hj : j < m) : mm_cl d 128 [.int (nI j), .int (nI 0), .int (nI n)] S = some (some (.int (nI 1)), S) := by
  rw [s128, if_neg (fun e => e.elim (nI_n0 (by omega)) (nI_nlt (by omega) (by omega)))]
theorem m129n (ok : gb_ok G) (hR : RM S G) (e : ab_kw (gK G) x = none) : mm_cl (d + 1) 129 [.ref 92, .int x] S = some (some (.int (nI 0)), S) := by
  have h : mm_M S 92 0 = nI (gK G) := hR.2.1.1.1
  have hk : gK G ≤ 6 := ok.1.1.1
  rw [s129 hR.1, h, if_pos]
  unfold ab_kw at e
  by_cases q : x < nI 0 ∨ nI (gK G) ≤ x
  · rcases q with q | q
    · exact Or.inl q
    · refine Or.inr ?_
      rw [Int32.le_iff_toInt_le, nI_toInt (by omega)] at q
      rw [Int32.lt_iff_toInt_lt, pk_sub_toInt (by omega) (by decide)]
      omega
  · rw [if_neg q] at e; cases e
theorem m129s (ok : gb_ok G) (hR : RM S G) (hb : b < gK G) : mm_cl (d + 1) 129 [.ref 92, .int (nI b)] S = some (some (.int (nI 1)), S) := by
  have h : mm_M S 92 0 = nI (gK G) := hR.2.1.1.1
  have hk : gK G ≤ 6 := ok.1.1.1
  rw [s129 hR.1, h, pk_sub (by omega), if_neg (fun e => e.elim (nI_n0 (by omega)) (nI_nlt (by omega) (by omega)))]
theorem m194n (e : ab_kw 6 x = none) {a : Nat} : mm_cl (d + 1) 194 [.ref a, .int x] S = some (some (.int (nI 0)), S) := by
  rw [s194]
  rcases kw_d (n := 5) (m := 6) rfl (by decide) x with ⟨-, a1, -⟩ | ⟨-, -, -, a3, -⟩ | ⟨j, -, e2, -⟩
  · rw [if_pos (Or.inl (of_eq_true a1))]
  · rw [if_pos (Or.inr (of_eq_true a3))]
  · rw [e] at e2; cases e2
theorem m194s (hj : j < 6) {a : Nat} : mm_cl (d + 1) 194 [.ref a, .int (nI j)] S = some (some (.int (nI 1)), S) := by
  rw [s194, if_neg (fun e => e.elim (nI_n0 (by omega)) (nI_nlt (by omega) (by omega)))]
theorem RM_A (ok : gb_ok G) (hR : RM S G) : md_A S (gP G) (gD G) := ⟨hR.1, hR.2.1.1, hR.2.1.2.1, ok.1.1, ok.1.2.1⟩
end OM
