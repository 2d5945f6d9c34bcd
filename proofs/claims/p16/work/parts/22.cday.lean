/-! ===== the class's days in cells ===== -/
/-- the cells of the day a that turns change -/
def cd_dc (a c j : Nat) : Prop := (c = a ∧ ((11 ≤ j ∧ j ≤ 15) ∨ j = 18 ∨ j = 19)) ∨ c = a + 4 ∨ c = a + 5 ∨ c = a + 6 ∨ c = a + 8
def cd_fr (a : Nat) (S T : mm_S) : Prop := T = mm_wM S (mm_M T) ∧ ∀ c j, ¬ cd_dc a c j → mm_M T c j = mm_M S c j
/-- what friend is told by -/
def cd_fo : Option Nat → Int32
  | none => -1
  | some f => nI f
def cd_kc (k : Nat) : Nat := ([0, 4, 10, 2, 7, 3, 9] : List Nat).getD k 0
/-- the object e is the BUYER b -/
def cd_by (S : mm_S) (e b k v w : Nat) : Prop := 137 ≤ e ∧ e < mm_n S ∧ mm_K S e = cd_kc k ∧ mm_M S e 0 = nI k ∧ mm_M S e 1 = nI b ∧ mm_M S e 2 = nI v ∧ mm_M S e 3 = nI w
/-- how a step of an E is told in the class -/
def cd_en : ab_T → Int32
  | .inl q => nI ((q.1 * 3 + q.2.1) * 100 + q.2.2)
  | .inr o => if o = 3 then -1 else if o = 2 then -2 else -3
/-- steps in the row of steps q, from a place on -/
def cd_co (S : mm_S) (q : Nat) : List ab_T → Nat → Prop
  | [], _ => True
  | t :: c, i => mm_M S q i = cd_en t ∧ cd_co S q c (i + 1)
/-- clauses with an E in the shop s, from number k and step i on; their number and their steps' are j and n -/
def cd_cl (S : mm_S) (s : Nat) : List ab_C → Nat → Nat → Nat → Nat → Prop
  | [], k, i, j, n => k = j ∧ i = n
  | c :: l, k, i, j, n => mm_M S (s + 1) k = nI c.1 ∧ mm_M S (s + 2) k = nI c.2.1 ∧ mm_M S (s + 3) k = nI (i + c.2.2.length) ∧ cd_co S (s + 4) c.2.2 i ∧ cd_cl S s l (k + 1) (i + c.2.2.length) j n
def cd_el (l : List ab_C) : List ab_C := l.filter (fun c => decide (c.1 < 2))
/-- the shop s has the clauses l -/
def cd_cs (S : mm_S) (s : Nat) (l : List ab_C) : Prop := mm_M S s 0 = nI (ab_law l 2 1) ∧ mm_M S s 1 = nI (ab_law l 3 1) ∧ mm_M S s 2 = nI (min 9 (ab_law l 4 1)) ∧ mm_M S s 3 = nI (ab_law l 5 0) ∧ ∃ j n, j ≤ 10 ∧ n ≤ 100 ∧ mm_M S s 8 = nI j ∧ mm_M S s 9 = nI n ∧ cd_cl S s (cd_el l) 0 0 j n
/-- what the day a has that turns don't change -/
def cd_P (S : mm_S) (a : Nat) (P : ab_P) : Prop := mm_M S a 10 = nI (ab_kn P) ∧ mm_M S a 9 = nI (ab_fe P) ∧ (∀ b, b < ab_kn P → mm_M S (a + 2) b = cd_fo (ab_fr P b)) ∧ (∀ i, i < 3 * ab_kn P → mm_M S (a + 3) i = nI (ab_te P i)) ∧ (∀ b, b < ab_kn P → ∃ e, mm_R S (a + 1) b = some e ∧ cd_by S e b (ab_ki P b) (ab_v P b) (ab_wo P b)) ∧ ∃ s, mm_R S a 8 = some s ∧ mm_sh s ∧ cd_cs S s (ab_sh P)
def cd_D (S : mm_S) (a n : Nat) (D : ab_D) : Prop := mm_M S a 11 = nI (ab_row D).length ∧ (∀ p, p < (ab_row D).length → mm_M S (a + 6) p = nI ((ab_row D).getD p 0)) ∧ (∀ b, b < n → mm_M S (a + 4) b = nI (ab_aw D b)) ∧ (∀ b, b < n → mm_M S (a + 5) b = ab_ga D b) ∧ mm_M S a 12 = nI (ab_pr D) ∧ mm_M S a 13 = nI (ab_lo D) ∧ mm_M S a 14 = ab_ti D ∧ mm_M S a 15 = ab_tu D
section CD
variable {S T U : mm_S} {a b c j k n s q i : Nat} {P : ab_P} {D : ab_D} {x : Int32}
theorem fr_rf : cd_fr a S S := ⟨rfl, fun _ _ _ => rfl⟩
theorem fr_tr (h : cd_fr a S T) (h2 : cd_fr a T U) : cd_fr a S U := by
  refine ⟨?_, fun c j hc => (h2.2 c j hc).trans (h.2 c j hc)⟩
  have e := h2.1
  rw [h.1] at e
  exact e
theorem fr_w (h : cd_fr a S T) (hc : cd_dc a c j) : cd_fr a S (mm_uM T c j x) := by
  refine ⟨?_, fun c2 j2 h2 => ?_⟩
  · have e := h.1
    conv => lhs; rw [hp_uMw, e]
    rfl
  · rw [hp_MuM, if_neg (fun e => h2 (by rw [e.1, e.2]; exact hc))]
    exact h.2 c2 j2 h2
theorem fr_L (h : cd_fr a S T) : mm_L T = mm_L S := by rw [h.1]; rfl
theorem fr_R (h : cd_fr a S T) : mm_R T = mm_R S := by rw [h.1]; rfl
theorem fr_K (h : cd_fr a S T) : mm_K T = mm_K S := by rw [h.1]; rfl
theorem fr_N (h : cd_fr a S T) : mm_N T = mm_N S := by rw [h.1]; rfl
theorem fr_n (h : cd_fr a S T) : mm_n T = mm_n S := by rw [h.1]; rfl
theorem fr_z (h : cd_fr a S T) : mm_z T = mm_z S := by rw [h.1]; rfl
theorem fr_W (h : cd_fr a S T) (hw : mm_W S) : mm_W T := by rw [h.1]; exact hw
theorem dc_x (h : ¬ (a ≤ c ∧ c ≤ a + 8)) : ¬ cd_dc a c j := by
  unfold cd_dc; omega
theorem fr_co (h : ∀ i, mm_M T q i = mm_M S q i) : ∀ {l : List ab_T} {i : Nat}, cd_co S q l i → cd_co T q l i := by
  intro l
  induction l with
  | nil => intro i _; exact True.intro
  | cons t l ih => intro i hc; exact ⟨(h i).trans hc.1, ih hc.2⟩
theorem fr_cl (h : ∀ m, m ≤ 4 → ∀ i, mm_M T (s + m) i = mm_M S (s + m) i) : ∀ {l : List ab_C} {k i j n : Nat}, cd_cl S s l k i j n → cd_cl T s l k i j n := by
  intro l
  induction l with
  | nil => intro k i j n hc; exact hc
  | cons t l ih =>
    intro k i j n hc
    exact ⟨(h 1 (by omega) _).trans hc.1, (h 2 (by omega) _).trans hc.2.1, (h 3 (by omega) _).trans hc.2.2.1, fr_co (h 4 (by omega)) hc.2.2.2.1, ih hc.2.2.2.2⟩
theorem fr_cs {l : List ab_C} (h : ∀ m, m ≤ 4 → ∀ i, mm_M T (s + m) i = mm_M S (s + m) i) (hc : cd_cs S s l) : cd_cs T s l := by
  have h0 : ∀ i, mm_M T s i = mm_M S s i := h 0 (by omega)
  obtain ⟨h1, h2, h3, h4, j, n, h5, h6, h7, h8, h9⟩ := hc
  exact ⟨(h0 _).trans h1, (h0 _).trans h2, (h0 _).trans h3, (h0 _).trans h4, j, n, h5, h6, (h0 _).trans h7, (h0 _).trans h8, fr_cl h h9⟩
theorem fr_by {e k v w : Nat} (ha : mm_dy a) (h : cd_fr a S T) (hb : cd_by S e b k v w) : cd_by T e b k v w := by
  obtain ⟨h1, h2, h3, h4, h5, h6, h7⟩ := hb
  have hx : ∀ j, mm_M T e j = mm_M S e j := fun j => h.2 e j (dc_x (by unfold mm_dy at ha; omega))
  exact ⟨h1, by rw [fr_n h]; exact h2, by rw [fr_K h]; exact h3, (hx _).trans h4, (hx _).trans h5, (hx _).trans h6, (hx _).trans h7⟩
/-- a turn of the day a leaves what stays in the day c (or a) -/
theorem fr_P (ha : mm_dy a) (hc : mm_dy c) (h : cd_fr a S T) (hp : cd_P S c P) : cd_P T c P := by
  obtain ⟨h1, h2, h3, h4, h5, s, h6, h7, h8⟩ := hp
  have hx : ∀ m j, (m = 0 ∧ 9 ≤ j ∧ j ≤ 10) ∨ m = 2 ∨ m = 3 → ¬ cd_dc a (c + m) j := by
    intro m j hm
    unfold cd_dc
    unfold mm_dy at ha hc
    omega
  refine ⟨(h.2 _ _ (hx 0 10 (by omega))).trans h1, (h.2 _ _ (hx 0 9 (by omega))).trans h2, fun b hb => (h.2 _ _ (hx 2 b (by omega))).trans (h3 b hb), fun i hi => (h.2 _ _ (hx 3 i (by omega))).trans (h4 i hi), fun b hb => ?_, s, by rw [fr_R h]; exact h6, h7, ?_⟩
  · obtain ⟨e, he, hb2⟩ := h5 b hb
    exact ⟨e, by rw [fr_R h]; exact he, fr_by ha h hb2⟩
  · refine fr_cs (fun m hm i => h.2 _ _ (dc_x ?_)) h8
    unfold mm_dy at ha
    unfold mm_sh at h7
    omega
theorem fr_D (ha : mm_dy a) (hc : mm_dy c) (hac : a ≠ c) (h : cd_fr a S T) (hp : cd_D S c n D) : cd_D T c n D := by
  have hx : ∀ m j, m ≤ 8 → ¬ cd_dc a (c + m) j := by
    intro m j hm
    refine dc_x ?_
    unfold mm_dy at ha hc
    omega
  have hy : ∀ m j, m ≤ 8 → mm_M T (c + m) j = mm_M S (c + m) j := fun m j hm => h.2 _ _ (hx m j hm)
  obtain ⟨h1, h2, h3, h4, h5, h6, h7, h8⟩ := hp
  exact ⟨(hy 0 _ (by omega)).trans h1, fun p hp => (hy 6 _ (by omega)).trans (h2 p hp), fun b hb => (hy 4 _ (by omega)).trans (h3 b hb), fun b hb => (hy 5 _ (by omega)).trans (h4 b hb), (hy 0 _ (by omega)).trans h5, (hy 0 _ (by omega)).trans h6, (hy 0 _ (by omega)).trans h7, (hy 0 _ (by omega)).trans h8⟩
end CD
