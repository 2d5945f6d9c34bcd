section
/-! ===== all that an object is, apart from cells ===== -/
/-- a day with its slips, its film and the number of the SHOP that holds -/
abbrev gb_X : Type := ab_P × ab_D × Nat × List Nat × Option Nat
def gx_P (X : gb_X) : ab_P := X.1
def gx_D (X : gb_X) : ab_D := X.2.1
def gx_s (X : gb_X) : Nat := X.2.2.1
def gx_f (X : gb_X) : List Nat := X.2.2.2.1
def gx_h (X : gb_X) : Option Nat := X.2.2.2.2
/-- now, the image, the shops read, the text, the tapes (sort, size, items), the trace -/
abbrev gb_G : Type := gb_X × Option gb_X × List (List ab_C) × List Nat × (Nat → Int32 × Nat × (Nat → Int64)) × List Nat
def gb_x (G : gb_G) : gb_X := G.1
def gb_i (G : gb_G) : Option gb_X := G.2.1
def gb_s (G : gb_G) : List (List ab_C) := G.2.2.1
def gb_t (G : gb_G) : List Nat := G.2.2.2.1
def gb_p (G : gb_G) : Nat → Int32 × Nat × (Nat → Int64) := G.2.2.2.2.1
def gb_r (G : gb_G) : List Nat := G.2.2.2.2.2
def gx_ok (l : List (List ab_C)) (X : gb_X) : Prop := ab_okP (gx_P X) ∧ ab_okD (gx_P X) (gx_D X) ∧ gx_s X ≤ 10 ∧ (gx_f X).length ≤ 12 ∧ (∀ f ∈ gx_f X, 1 ≤ f ∧ f ≤ 3) ∧ (match gx_h X with
  | none => ab_sh (gx_P X) = []
  | some h => h < l.length ∧ ab_sh (gx_P X) = l.getD h []) ∧ ab_fe (gx_P X) = ab_law (ab_sh (gx_P X)) 5 0
def gt_ok (t : Int32 × Nat × (Nat → Int64)) : Prop := (t.1 = -1 ∧ t.2.1 = 0) ∨ (∃ k, k < 5 ∧ t.1 = nI k) ∧ t.2.1 ≤ 60
def gb_ok (G : gb_G) : Prop := gx_ok (gb_s G) (gb_x G) ∧ (∀ Y, gb_i G = some Y → gx_ok (gb_s G) Y) ∧ (gb_s G).length ≤ 6 ∧ (∀ l ∈ gb_s G, ab_okS l) ∧ (gb_t G).length ≤ 100 ∧ (∀ c ∈ gb_t G, c < 128) ∧ (∀ t, t < 6 → gt_ok (gb_p G t)) ∧ (gb_r G).length ≤ 20 ∧ (∀ b ∈ gb_r G, b < 100)
/-- T is as S, but where F says -/
def sf_f (F : Nat → Nat → Prop) (S T : mm_S) : Prop := (∀ c j, ¬ F c j → mm_M T c j = mm_M S c j ∧ mm_L T c j = mm_L S c j ∧ mm_R T c j = mm_R S c j) ∧ (∀ c, c < mm_n S → mm_K T c = mm_K S c ∧ mm_N T c = mm_N S c) ∧ mm_n S ≤ mm_n T
section SF
variable {F H : Nat → Nat → Prop} {S T U : mm_S} {a b c j k : Nat}
theorem sf_rf : sf_f F S S := ⟨fun _ _ _ => ⟨rfl, rfl, rfl⟩, fun _ _ => ⟨rfl, rfl⟩, Nat.le_refl _⟩
theorem sf_tr (h : sf_f F S T) (h2 : sf_f F T U) : sf_f F S U := ⟨fun c j hc => ⟨(h2.1 c j hc).1.trans (h.1 c j hc).1, (h2.1 c j hc).2.1.trans (h.1 c j hc).2.1, (h2.1 c j hc).2.2.trans (h.1 c j hc).2.2⟩, fun c hc => ⟨(h2.2.1 c (by have := h.2.2; omega)).1.trans (h.2.1 c hc).1, (h2.2.1 c (by have := h.2.2; omega)).2.trans (h.2.1 c hc).2⟩, Nat.le_trans h.2.2 h2.2.2⟩
theorem sf_mo (h : sf_f F S T) (hF : ∀ c j, F c j → H c j) : sf_f H S T := ⟨fun c j hc => h.1 c j (fun e => hc (hF c j e)), h.2⟩
theorem sf_cd (h : cd_fr a S T) : sf_f (cd_dc a) S T := ⟨fun c j hc => ⟨h.2 c j hc, by rw [fr_L h], by rw [fr_R h]⟩, fun c _ => ⟨by rw [fr_K h], by rw [fr_N h]⟩, by rw [fr_n h]; exact Nat.le_refl _⟩
theorem sf_md (h : md_fr S T) : sf_f md_dc S T := ⟨fun c j hc => ⟨h.2 c j hc, by rw [h.1]; rfl, by rw [h.1]; rfl⟩, fun c _ => ⟨by rw [h.1]; rfl, by rw [h.1]; rfl⟩, by rw [h.1]; exact Nat.le_refl _⟩
theorem sf_uM {x : Int32} (h : F c j) : sf_f F S (mm_uM S c j x) := ⟨fun c2 j2 h2 => ⟨by rw [hp_MuM, if_neg (fun e => h2 (by rw [e.1, e.2]; exact h))], rfl, rfl⟩, fun _ _ => ⟨rfl, rfl⟩, Nat.le_refl _⟩
theorem sf_uL {x : Int64} (h : F c j) : sf_f F S (mm_uL S c j x) := ⟨fun c2 j2 h2 => ⟨rfl, by rw [hp_LuL, if_neg (fun e => h2 (by rw [e.1, e.2]; exact h))], rfl⟩, fun _ _ => ⟨rfl, rfl⟩, Nat.le_refl _⟩
theorem sf_uR {x : Option Nat} (h : F c j) : sf_f F S (mm_uR S c j x) := ⟨fun c2 j2 h2 => ⟨rfl, rfl, by rw [hp_RuR, if_neg (fun e => h2 (by rw [e.1, e.2]; exact h))]⟩, fun _ _ => ⟨rfl, rfl⟩, Nat.le_refl _⟩
theorem sf_W (h : sf_f F S T) (hw : mm_W S) (hF : ∀ c j b, F c j → mm_tR c j = some b → mm_R T c j = some b) : mm_W T := by
  classical
  obtain ⟨h1, h2, h3⟩ := hw
  refine ⟨Nat.le_trans h1 h.2.2, fun a ha => ?_, fun a k b e => ?_⟩
  · have := h.2.1 a (by omega)
    exact ⟨this.1.trans (h2 a ha).1, this.2.trans (h2 a ha).2⟩
  · by_cases hf : F a k
    · exact hF a k b hf e
    · exact (h.1 a k hf).2.2.trans (h3 a k b e)
end SF
/-! ===== the class's cells ===== -/
def gc_ad : Option Nat → Nat
  | none => 1
  | some h => 43 + 5 * h
/-- a day of the class: its cells, and those of its BUYERS and its SHOP -/
def gc_X (S : mm_S) (a : Nat) (X : gb_X) : Prop := cd_P S a (gx_P X) ∧ cd_D S a (ab_kn (gx_P X)) (gx_D X) ∧ mm_M S a 16 = nI (gx_s X) ∧ mm_M S a 17 = nI (gx_f X).length ∧ (∀ i, i < (gx_f X).length → mm_M S (a + 7) i = nI ((gx_f X).getD i 0)) ∧ mm_R S a 8 = some (gc_ad (gx_h X))
def gc_q (S : mm_S) (a : Nat) : Prop := (∀ i, i < 6 → ∀ e, mm_R S (a + 1) i = some e → mm_obj S e 0 = true) ∧ ∃ s, mm_sh s ∧ mm_R S a 8 = some s
def gc_s (S : mm_S) (l : List (List ab_C)) : Prop := mm_M S 0 11 = nI l.length ∧ (∀ h, h < l.length → cd_cs S (43 + 5 * h) (l.getD h [])) ∧ cd_cs S 1 []
def gc_t (S : mm_S) (l : List Nat) : Prop := mm_M S 73 0 = nI l.length ∧ ∀ i, i < l.length → mm_M S 74 i = nI (l.getD i 0)
def gc_p (S : mm_S) (f : Nat → Int32 × Nat × (Nat → Int64)) : Prop := ∀ t, t < 6 → mm_M S (76 + 2 * t) 1 = (f t).1 ∧ mm_M S (76 + 2 * t) 2 = nI (f t).2.1 ∧ ∀ i, i < (f t).2.1 → mm_L S (77 + 2 * t) i = (f t).2.2 i
def gc_r (S : mm_S) (l : List Nat) : Prop := mm_M S 88 0 = nI l.length ∧ ∀ i, i < l.length → mm_M S 88 (1 + i) = nI (l.getD i 0)
def gc_i (S : mm_S) (o : Option gb_X) : Prop := match o with
  | none => mm_M S 0 12 = nI 0
  | some Y => mm_M S 0 12 = nI 1 ∧ gc_X S 15 Y
def RC (S : mm_S) (G : gb_G) : Prop := mm_W S ∧ gc_X S 6 (gb_x G) ∧ gc_q S 6 ∧ gc_q S 15 ∧ gc_i S (gb_i G) ∧ gc_s S (gb_s G) ∧ gc_t S (gb_t G) ∧ gc_p S (gb_p G) ∧ gc_r S (gb_r G)
section TR
variable {F : Nat → Nat → Prop} {S T : mm_S} {a b c j k e n s : Nat} {X : gb_X} {P : ab_P} {D : ab_D}
theorem tr_by {k v w : Nat} (h : sf_f F S T) (hF : ∀ j, j < 4 → ¬ F e j) (hb : cd_by S e b k v w) : cd_by T e b k v w := by
  obtain ⟨h1, h2, h3, h4, h5, h6, h7⟩ := hb
  exact ⟨h1, Nat.lt_of_lt_of_le h2 h.2.2, (h.2.1 e h2).1.trans h3, (h.1 e 0 (hF 0 (by decide))).1.trans h4, (h.1 e 1 (hF 1 (by decide))).1.trans h5, (h.1 e 2 (hF 2 (by decide))).1.trans h6, (h.1 e 3 (hF 3 (by decide))).1.trans h7⟩
theorem tr_cs {l : List ab_C} (h : sf_f F S T) (hF : ∀ m j, m ≤ 4 → ¬ F (s + m) j) (hc : cd_cs S s l) : cd_cs T s l := fr_cs (fun m hm i => (h.1 _ _ (hF m i hm)).1) hc
/-- what a day needs of others: no cell of a BUYER or a SHOP that holds is changed -/
def sf_o (F : Nat → Nat → Prop) (S : mm_S) : Prop := (∀ c j, 137 ≤ c → c < mm_n S → ¬ F c j) ∧ ∀ s m j, mm_sh s → m ≤ 4 → ¬ F (s + m) j
theorem tr_P (h : sf_f F S T) (ho : sf_o F S) (h0 : ∀ m j, (m = 0 ∧ (j = 8 ∨ j = 9 ∨ j = 10)) ∨ m = 1 ∨ m = 2 ∨ m = 3 → ¬ F (a + m) j) (hp : cd_P S a P) : cd_P T a P := by
  obtain ⟨h1, h2, h3, h4, h5, s, h6, h7, h8⟩ := hp
  refine ⟨(h.1 a 10 (h0 0 10 (by omega))).1.trans h1, (h.1 a 9 (h0 0 9 (by omega))).1.trans h2, fun b hb => (h.1 _ _ (h0 2 b (by omega))).1.trans (h3 b hb), fun i hi => (h.1 _ _ (h0 3 i (by omega))).1.trans (h4 i hi), fun b hb => ?_, s, (h.1 a 8 (h0 0 8 (by omega))).2.2.trans h6, h7, tr_cs h (fun m j hm => ho.2 s m j h7 hm) h8⟩
  obtain ⟨e, he, hb2⟩ := h5 b hb
  exact ⟨e, (h.1 _ _ (h0 1 b (by omega))).2.2.trans he, tr_by h (fun j _ => ho.1 e j hb2.1 hb2.2.1) hb2⟩
theorem tr_D (h : sf_f F S T) (h0 : ∀ m j, (m = 0 ∧ 11 ≤ j ∧ j ≤ 15) ∨ m = 4 ∨ m = 5 ∨ m = 6 → ¬ F (a + m) j) (hp : cd_D S a n D) : cd_D T a n D := by
  obtain ⟨h1, h2, h3, h4, h5, h6, h7, h8⟩ := hp
  have g : ∀ j, 11 ≤ j → j ≤ 15 → mm_M T a j = mm_M S a j := fun j a1 a2 => (h.1 a j (h0 0 j (by omega))).1
  exact ⟨(g _ (by decide) (by decide)).trans h1, fun p hp => (h.1 _ _ (h0 6 p (by omega))).1.trans (h2 p hp), fun b hb => (h.1 _ _ (h0 4 b (by omega))).1.trans (h3 b hb), fun b hb => (h.1 _ _ (h0 5 b (by omega))).1.trans (h4 b hb), (g _ (by decide) (by decide)).trans h5, (g _ (by decide) (by decide)).trans h6, (g _ (by decide) (by decide)).trans h7, (g _ (by decide) (by decide)).trans h8⟩
theorem tr_X (h : sf_f F S T) (ho : sf_o F S) (h0 : ∀ m j, (m = 0 ∧ 8 ≤ j ∧ j ≤ 17) ∨ (1 ≤ m ∧ m ≤ 7) → ¬ F (a + m) j) (hp : gc_X S a X) : gc_X T a X := by
  obtain ⟨h1, h2, h3, h4, h5, h6⟩ := hp
  exact ⟨tr_P h ho (fun m j hm => h0 m j (by omega)) h1, tr_D h (fun m j hm => h0 m j (by omega)) h2, (h.1 a 16 (h0 0 16 (by omega))).1.trans h3, (h.1 a 17 (h0 0 17 (by omega))).1.trans h4, fun i hi => (h.1 _ _ (h0 7 i (by omega))).1.trans (h5 i hi), (h.1 a 8 (h0 0 8 (by omega))).2.2.trans h6⟩
theorem tr_o (h : sf_f F S T) {e f : Nat} (ho : mm_obj S e f = true) : mm_obj T e f = true := by
  unfold mm_obj at ho ⊢
  rw [Bool.and_eq_true, Bool.and_eq_true, decide_eq_true_eq, decide_eq_true_eq] at ho
  rw [(h.2.1 e ho.1.1).1, decide_eq_true (Nat.lt_of_lt_of_le ho.1.1 h.2.2), decide_eq_true ho.1.2, ho.2]
  rfl
theorem tr_q (h : sf_f F S T) (h0 : ∀ j, ¬ F (a + 1) j) (h8 : ¬ F a 8) (hp : gc_q S a) : gc_q T a := by
  obtain ⟨h1, s, h2, h3⟩ := hp
  refine ⟨fun i hi e he => ?_, s, h2, (h.1 _ _ h8).2.2.trans h3⟩
  rw [(h.1 _ _ (h0 i)).2.2] at he
  exact tr_o h (h1 i hi e he)
theorem tr_s {l : List (List ab_C)} (hl : l.length ≤ 6) (h : sf_f F S T) (ho : sf_o F S) (h0 : ¬ F 0 11) (hp : gc_s S l) : gc_s T l := by
  obtain ⟨h1, h2, h3⟩ := hp
  refine ⟨(h.1 _ _ h0).1.trans h1, fun i hi => tr_cs h (fun m j hm => ho.2 _ m j ?_ hm) (h2 i hi), tr_cs h (fun m j hm => ho.2 _ m j (Or.inl rfl) hm) h3⟩
  unfold mm_sh
  omega
theorem tr_t {l : List Nat} (h : sf_f F S T) (h0 : ¬ F 73 0) (h1 : ∀ j, ¬ F 74 j) (hp : gc_t S l) : gc_t T l := ⟨(h.1 _ _ h0).1.trans hp.1, fun i hi => (h.1 _ _ (h1 i)).1.trans (hp.2 i hi)⟩
theorem tr_p {f : Nat → Int32 × Nat × (Nat → Int64)} (h : sf_f F S T) (h0 : ∀ c j, 76 ≤ c → c ≤ 87 → ¬ F c j) (hp : gc_p S f) : gc_p T f := fun t ht => ⟨(h.1 _ _ (h0 _ _ (by omega) (by omega))).1.trans (hp t ht).1, (h.1 _ _ (h0 _ _ (by omega) (by omega))).1.trans (hp t ht).2.1, fun i hi => (h.1 _ _ (h0 _ _ (by omega) (by omega))).2.1.trans ((hp t ht).2.2 i hi)⟩
theorem tr_r {l : List Nat} (h : sf_f F S T) (h0 : ∀ j, ¬ F 88 j) (hp : gc_r S l) : gc_r T l := ⟨(h.1 _ _ (h0 _)).1.trans hp.1, fun i hi => (h.1 _ _ (h0 _)).1.trans (hp.2 i hi)⟩
theorem tr_i {o : Option gb_X} (h : sf_f F S T) (ho : sf_o F S) (h0 : ¬ F 0 12) (h1 : ∀ c j, 15 ≤ c → c ≤ 23 → ¬ F c j) (hp : gc_i S o) : gc_i T o := by
  cases o with
  | none => exact (h.1 _ _ h0).1.trans hp
  | some Y => exact ⟨(h.1 _ _ h0).1.trans hp.1, tr_X h ho (fun m j hm => h1 _ _ (by omega) (by omega)) hp.2⟩
end TR
/-- where questions leave their traces in the class -/
def gc_F (c j : Nat) : Prop := (24 ≤ c ∧ c ≤ 41) ∨ (89 ≤ c ∧ c ≤ 91) ∨ c = 14 ∨ (c = 6 ∧ (j = 18 ∨ j = 19))
section RCQ
variable {S T : mm_S} {G : gb_G} {F : Nat → Nat → Prop}
theorem gcF_o : sf_o gc_F S := by
  refine ⟨fun c j hc _ => ?_, fun s m j hs hm => ?_⟩
  · unfold gc_F; omega
  · unfold gc_F; unfold mm_sh at hs; omega
theorem RC_q (ok : gb_ok G) (h : sf_f gc_F S T) (hw : mm_W T) (hR : RC S G) : RC T G := by
  obtain ⟨-, h1, h2, h3, h4, h5, h6, h7, h8⟩ := hR
  refine ⟨hw, tr_X h gcF_o (fun m j hm => ?_) h1, tr_q h (fun j => ?_) ?_ h2, tr_q h (fun j => ?_) ?_ h3, tr_i h gcF_o ?_ (fun c j a b => ?_) h4, tr_s ok.2.2.1 h gcF_o ?_ h5, tr_t h ?_ (fun j => ?_) h6, tr_p h (fun c j a b => ?_) h7, tr_r h (fun j => ?_) h8⟩ <;> (unfold gc_F; omega)
end RCQ
end
section
/-! ===== calls of the class: of, gained, friend, row, back, set, told ===== -/
def gP (G : gb_G) : ab_P := gx_P (gb_x G)
def gD (G : gb_G) : ab_D := gx_D (gb_x G)
def gK (G : gb_G) : Nat := ab_kn (gP G)
/-- the BUYER that a number names -/
def ab_kw (n : Nat) (x : Int32) : Option Nat := if x < nI 0 ∨ nI n ≤ x then none else some x.toNatClampNeg
theorem kw_c {n : Nat} (hn : n ≤ 6) (x : Int32) : (ab_kw n x = none ∧ (x < nI 0 ∨ nI n ≤ x)) ∨ ∃ b, b < n ∧ ab_kw n x = some b ∧ x = nI b := by
  unfold ab_kw
  rcases pk_ix x (n := n) (by omega) with h | h | ⟨j, hj, rfl⟩
  · have h : x < nI 0 := h
    exact Or.inl ⟨if_pos (Or.inl h), Or.inl h⟩
  · exact Or.inl ⟨if_pos (Or.inr h), Or.inr h⟩
  · refine Or.inr ⟨j, hj, ?_, rfl⟩
    rw [if_neg (fun e => e.elim (nI_n0 (by omega)) (nI_ge hj (by omega))), nI_clamp (by omega)]
theorem kw_b {n b : Nat} (hn : n ≤ 6) (hb : b < n) : ab_kw n (nI b) = some b := by
  unfold ab_kw
  rw [if_neg (fun e => e.elim (nI_n0 (by omega)) (nI_ge hb (by omega))), nI_clamp (by omega)]
def an_1 (G : gb_G) (x w : Int32) : Int32 := match ab_kw (gK G) x with
  | none => -10001
  | some b => if w = nI 0 then nI (ab_ki (gP G) b) else if w = nI 1 then nI (ab_v (gP G) b) else if w = nI 2 then nI (ab_wo (gP G) b) else if w = nI 3 then md_fo (ab_fr (gP G) b) else if w = nI 4 then nI (ab_aw (gD G) b) else if w = nI 5 then md_fo (ab_at b (ab_row (gD G))) else if w = nI 6 then nI (ab_val (gP G) (gD G) b) else if w = nI 7 then nI (ab_cost (gP G) (gD G) b) else if w = nI 8 then (if ab_ki (gP G) b = 6 then nI (100 * ab_te (gP G) (3 * b) + 10 * ab_te (gP G) (3 * b + 1) + ab_te (gP G) (3 * b + 2)) else -5) else -10001
def an_2 (G : gb_G) (x : Int32) : Int32 := match ab_kw (gK G) x with
  | none => -100001
  | some b => ab_ga (gD G) b
section CO
variable {S T : mm_S} {G : gb_G} {d b n : Nat} {x y w : Int32}
theorem RC_A (ok : gb_ok G) (hR : RC S G) : cd_A S 6 (gP G) (gD G) := ⟨hR.1, dy6, hR.2.1.1, hR.2.1.2.1, ok.1.1, ok.1.2.1⟩
theorem s8n (ok : gb_ok G) (hR : RC S G) (e : ab_kw (gK G) x = none) : mm_cl d 8 [.ref 6, .int x] S = some (some (.int (nI 0)), S) := by
  have h : mm_M S 6 10 = nI (gK G) := hR.2.1.1.1
  rw [s8 hR.1 dy6, h]
  unfold ab_kw at e
  by_cases q : x < nI 0 ∨ nI (gK G) ≤ x
  · rw [if_pos q]
  · rw [if_neg q] at e; cases e
theorem s8s (ok : gb_ok G) (hR : RC S G) (hb : b < gK G) : mm_cl d 8 [.ref 6, .int (nI b)] S = some (some (.int (nI 1)), S) := by
  have h : mm_M S 6 10 = nI (gK G) := hR.2.1.1.1
  have hk : gK G ≤ 6 := ok.1.1.1
  rw [s8 hR.1 dy6, h, if_neg (fun e => e.elim (nI_n0 (by omega)) (nI_ge hb (by omega)))]
theorem fo_108 {o : Option Nat} (h : ∀ k, o = some k → k < 2 ^ 31) : mm_cl d 108 [.int (cd_fo o)] S = some (some (.int (md_fo o)), S) := by
  rw [s108]
  cases o with
  | none => rfl
  | some k =>
    show some (some (Value.int (if nI 0 ≤ nI k then nI k else -5)), S) = _
    rw [if_pos (nI_le (Nat.zero_le _) (h k rfl))]; rfl
theorem c_2 (ok : gb_ok G) (hR : RC S G) : mm_cl (d + 1) 75 [.ref 0, .int x] S = some (some (.int (an_2 G x)), S) := by
  have hw := hR.1
  have hk : gK G ≤ 6 := ok.1.1.1
  unfold an_2
  rcases kw_c hk x with ⟨e, h⟩ | ⟨b, hb, e, rfl⟩
  · have k := s8n (d := d) ok hR e
    rw [e]
    simp only [b75_0, b75_8, b75_11, b75_23, e75, wx_o0 hw, wx_k0 hw, wx_q0 hw, wx_g0_0 hw, wx_s0_0 hw, wx_g0_1 hw, wx_s0_1 hw, wx_g0_2 hw, wx_s0_2 hw, wx_g0_3 hw, wx_s0_3 hw, wx_g0_4 hw, wx_s0_4 hw, wx_N42 hw, wx_a42 hw, wx_K42 hw, wx_g0_5 hw, wx_s0_5 hw, wx_g0_6 hw, wx_s0_6 hw, wx_N75 hw, wx_a75 hw, wx_K75 hw, wx_g0_7 hw, wx_s0_7 hw, wx_N88 hw, wx_a88 hw, wx_g0_8 hw, wx_s0_8 hw, wx_N89 hw, wx_a89 hw, wx_g0_9 hw, wx_s0_9 hw, wx_N90 hw, wx_a90 hw, wx_g0_10 hw, wx_s0_10 hw, wx_N91 hw, wx_a91 hw, wx_o6 hw, wx_k6 hw, wx_q6 hw, wx_g6_0 hw, wx_s6_0 hw, wx_N7 hw, wx_a7 hw, wx_K7 hw, wx_g6_1 hw, wx_s6_1 hw, wx_N8 hw, wx_a8 hw, wx_g6_2 hw, wx_s6_2 hw, wx_N9 hw, wx_a9 hw, wx_g6_3 hw, wx_s6_3 hw, wx_N10 hw, wx_a10 hw, wx_g6_4 hw, wx_s6_4 hw, wx_N11 hw, wx_a11 hw, wx_g6_5 hw, wx_s6_5 hw, wx_N12 hw, wx_a12 hw, wx_g6_6 hw, wx_s6_6 hw, wx_N13 hw, wx_a13 hw, wx_g6_7 hw, wx_s6_7 hw, wx_N14 hw, wx_a14 hw, List.not_mem_nil, false_implies, implies_true, nI_clamp, nI_add, Nat.reducePow, hp_bd, hp_bdi, hp_ts, hp_tn, hp_tsc, hp_tnc, Nat.reduceAdd, Nat.reduceSub, Nat.reduceMul, Nat.reduceLT, Nat.reduceLeDiff, Nat.reduceEqDiff, reduceIte, not_true_eq_false, not_false_eq_true, and_true, true_and, and_self, and_false, false_and, or_true, true_or, or_false, false_or, decide_true, decide_false, Bool.and_true, Bool.true_and, Bool.not_false, Bool.or_false, Bool.false_or, Bool.or_true, Bool.true_or, k]
  · have k := s8s (d := d) ok hR hb
    have cl : (nI b).toNatClampNeg = b := nI_clamp (by omega)
    have hbi : mm_inb (nI b) 6 = true := hp_inb (by omega) (by omega)
    have hg : mm_M S 11 b = ab_ga (gD G) b := hR.2.1.2.1.2.2.2.1 b hb
    rw [e]
    simp only [b75_0, b75_8, b75_11, b75_23, e75, wx_o0 hw, wx_k0 hw, wx_q0 hw, wx_g0_0 hw, wx_s0_0 hw, wx_g0_1 hw, wx_s0_1 hw, wx_g0_2 hw, wx_s0_2 hw, wx_g0_3 hw, wx_s0_3 hw, wx_g0_4 hw, wx_s0_4 hw, wx_N42 hw, wx_a42 hw, wx_K42 hw, wx_g0_5 hw, wx_s0_5 hw, wx_g0_6 hw, wx_s0_6 hw, wx_N75 hw, wx_a75 hw, wx_K75 hw, wx_g0_7 hw, wx_s0_7 hw, wx_N88 hw, wx_a88 hw, wx_g0_8 hw, wx_s0_8 hw, wx_N89 hw, wx_a89 hw, wx_g0_9 hw, wx_s0_9 hw, wx_N90 hw, wx_a90 hw, wx_g0_10 hw, wx_s0_10 hw, wx_N91 hw, wx_a91 hw, wx_o6 hw, wx_k6 hw, wx_q6 hw, wx_g6_0 hw, wx_s6_0 hw, wx_N7 hw, wx_a7 hw, wx_K7 hw, wx_g6_1 hw, wx_s6_1 hw, wx_N8 hw, wx_a8 hw, wx_g6_2 hw, wx_s6_2 hw, wx_N9 hw, wx_a9 hw, wx_g6_3 hw, wx_s6_3 hw, wx_N10 hw, wx_a10 hw, wx_g6_4 hw, wx_s6_4 hw, wx_N11 hw, wx_a11 hw, wx_g6_5 hw, wx_s6_5 hw, wx_N12 hw, wx_a12 hw, wx_g6_6 hw, wx_s6_6 hw, wx_N13 hw, wx_a13 hw, wx_g6_7 hw, wx_s6_7 hw, wx_N14 hw, wx_a14 hw, List.not_mem_nil, false_implies, implies_true, nI_clamp, nI_add, Nat.reducePow, hp_bd, hp_bdi, hp_ts, hp_tn, hp_tsc, hp_tnc, Nat.reduceAdd, Nat.reduceSub, Nat.reduceMul, Nat.reduceLT, Nat.reduceLeDiff, Nat.reduceEqDiff, reduceIte, not_true_eq_false, not_false_eq_true, and_true, true_and, and_self, and_false, false_and, or_true, true_or, or_false, false_or, decide_true, decide_false, Bool.and_true, Bool.true_and, Bool.not_false, Bool.or_false, Bool.false_or, Bool.or_true, Bool.true_or, i01, k, cl, hbi, hg]
theorem c_1 (ok : gb_ok G) (hR : RC S G) : ∃ T, mm_cl (d + 4) 74 [.ref 0, .int x, .int w] S = some (some (.int (an_1 G x w)), T) ∧ RC T G ∧ sf_f gc_F S T ∧ mm_n T = mm_n S ∧ mm_z T = mm_z S := by
  have hw := hR.1
  have hk : gK G ≤ 6 := ok.1.1.1
  have hA := RC_A ok hR
  unfold an_1
  rcases kw_c hk x with ⟨e, h⟩ | ⟨b, hb, e, rfl⟩
  · have k := s8n (d := d + 3) ok hR e
    rw [e]
    refine ⟨S, ?_, hR, sf_rf, rfl, rfl⟩
    simp only [b74_0, b74_8, b74_11, b74_15, b74_26, b74_76, b74_81, b74_86, b74_91, b74_103, b74_104, b74_114, b74_122, b74_125, b74_126, b74_134, b74_142, b74_150, b74_158, b74_167, b74_172, b74_175, b74_178, e74, wx_o0 hw, wx_k0 hw, wx_q0 hw, wx_g0_0 hw, wx_s0_0 hw, wx_g0_1 hw, wx_s0_1 hw, wx_g0_2 hw, wx_s0_2 hw, wx_g0_3 hw, wx_s0_3 hw, wx_g0_4 hw, wx_s0_4 hw, wx_N42 hw, wx_a42 hw, wx_K42 hw, wx_g0_5 hw, wx_s0_5 hw, wx_g0_6 hw, wx_s0_6 hw, wx_N75 hw, wx_a75 hw, wx_K75 hw, wx_g0_7 hw, wx_s0_7 hw, wx_N88 hw, wx_a88 hw, wx_g0_8 hw, wx_s0_8 hw, wx_N89 hw, wx_a89 hw, wx_g0_9 hw, wx_s0_9 hw, wx_N90 hw, wx_a90 hw, wx_g0_10 hw, wx_s0_10 hw, wx_N91 hw, wx_a91 hw, wx_o6 hw, wx_k6 hw, wx_q6 hw, wx_g6_0 hw, wx_s6_0 hw, wx_N7 hw, wx_a7 hw, wx_K7 hw, wx_g6_1 hw, wx_s6_1 hw, wx_N8 hw, wx_a8 hw, wx_g6_2 hw, wx_s6_2 hw, wx_N9 hw, wx_a9 hw, wx_g6_3 hw, wx_s6_3 hw, wx_N10 hw, wx_a10 hw, wx_g6_4 hw, wx_s6_4 hw, wx_N11 hw, wx_a11 hw, wx_g6_5 hw, wx_s6_5 hw, wx_N12 hw, wx_a12 hw, wx_g6_6 hw, wx_s6_6 hw, wx_N13 hw, wx_a13 hw, wx_g6_7 hw, wx_s6_7 hw, wx_N14 hw, wx_a14 hw, List.not_mem_nil, false_implies, implies_true, nI_clamp, nI_add, Nat.reducePow, hp_bd, hp_bdi, hp_ts, hp_tn, hp_tsc, hp_tnc, Nat.reduceAdd, Nat.reduceSub, Nat.reduceMul, Nat.reduceLT, Nat.reduceLeDiff, Nat.reduceEqDiff, reduceIte, not_true_eq_false, not_false_eq_true, and_true, true_and, and_self, and_false, false_and, or_true, true_or, or_false, false_or, decide_true, decide_false, Bool.and_true, Bool.true_and, Bool.not_false, Bool.or_false, Bool.false_or, Bool.or_true, Bool.true_or, k]
  · have k := s8s (d := d + 3) ok hR hb
    have cl : (nI b).toNatClampNeg = b := nI_clamp (by omega)
    have hbi : mm_inb (nI b) 6 = true := hp_inb (by omega) (by omega)
    obtain ⟨o, ho, hy⟩ := hA.2.2.1.2.2.2.2.1 b hb
    have ho : mm_R S 7 b = some o := ho
    have hkk := (hA.2.2.2.2.1.2.2.2.1 b hb)
    have oo := by_o hkk.1 hy
    have rgo : mm_rg S 7 b = o := hp_rg ho
    have rso : (mm_R S 7 b).isSome = true := hp_rs ho
    have m0 : mm_M S o 0 = nI (ab_ki (gP G) b) := hy.2.2.2.1
    have m2 : mm_M S o 2 = nI (ab_v (gP G) b) := hy.2.2.2.2.2.1
    have m3 : mm_M S o 3 = nI (ab_wo (gP G) b) := hy.2.2.2.2.2.2
    have start : mm_cl (d + 4) 74 [.ref 0, .int (nI b), .int w] S = mm_ex (d + 4) 74 26 [.ref 0, .int (nI b), .int w, .ref o] [.int w] S := by
      simp only [b74_0, b74_8, b74_15, e74, wx_o0 hw, wx_k0 hw, wx_q0 hw, wx_g0_0 hw, wx_s0_0 hw, wx_g0_1 hw, wx_s0_1 hw, wx_g0_2 hw, wx_s0_2 hw, wx_g0_3 hw, wx_s0_3 hw, wx_g0_4 hw, wx_s0_4 hw, wx_N42 hw, wx_a42 hw, wx_K42 hw, wx_g0_5 hw, wx_s0_5 hw, wx_g0_6 hw, wx_s0_6 hw, wx_N75 hw, wx_a75 hw, wx_K75 hw, wx_g0_7 hw, wx_s0_7 hw, wx_N88 hw, wx_a88 hw, wx_g0_8 hw, wx_s0_8 hw, wx_N89 hw, wx_a89 hw, wx_g0_9 hw, wx_s0_9 hw, wx_N90 hw, wx_a90 hw, wx_g0_10 hw, wx_s0_10 hw, wx_N91 hw, wx_a91 hw, wx_o6 hw, wx_k6 hw, wx_q6 hw, wx_g6_0 hw, wx_s6_0 hw, wx_N7 hw, wx_a7 hw, wx_K7 hw, wx_g6_1 hw, wx_s6_1 hw, wx_N8 hw, wx_a8 hw, wx_g6_2 hw, wx_s6_2 hw, wx_N9 hw, wx_a9 hw, wx_g6_3 hw, wx_s6_3 hw, wx_N10 hw, wx_a10 hw, wx_g6_4 hw, wx_s6_4 hw, wx_N11 hw, wx_a11 hw, wx_g6_5 hw, wx_s6_5 hw, wx_N12 hw, wx_a12 hw, wx_g6_6 hw, wx_s6_6 hw, wx_N13 hw, wx_a13 hw, wx_g6_7 hw, wx_s6_7 hw, wx_N14 hw, wx_a14 hw, List.not_mem_nil, false_implies, implies_true, nI_clamp, nI_add, Nat.reducePow, hp_bd, hp_bdi, hp_ts, hp_tn, hp_tsc, hp_tnc, Nat.reduceAdd, Nat.reduceSub, Nat.reduceMul, Nat.reduceLT, Nat.reduceLeDiff, Nat.reduceEqDiff, reduceIte, not_true_eq_false, not_false_eq_true, and_true, true_and, and_self, and_false, false_and, or_true, true_or, or_false, false_or, decide_true, decide_false, Bool.and_true, Bool.true_and, Bool.not_false, Bool.or_false, Bool.false_or, Bool.or_true, Bool.true_or, i01, k, cl, hbi, rgo, rso]
    rw [e, start, b74_26]
    have hfr : mm_M S 8 b = cd_fo (ab_fr (gP G) b) := hA.2.2.1.2.2.1 b hb
    have haw : mm_M S 10 b = nI (ab_aw (gD G) b) := hA.2.2.2.1.2.2.1 b hb
    have k12 := s12b (d := d + 3) hA hb
    have f1 : ∀ k, ab_fr (gP G) b = some k → k < 2 ^ 31 := fun k h => by have := (hA.2.2.2.2.1.2.2.2.2.1 b k hb h).1; have hk : ab_kn (gP G) ≤ 6 := hk; omega
    have f2 : ∀ k, ab_at b (ab_row (gD G)) = some k → k < 2 ^ 31 := fun k h => by have := at_lt (row_le hA.2.2.2.2.1 hA.2.2.2.2.2) h; omega
    have k108 := fo_108 (d := d + 3) (S := S) f1
    have k108b := fo_108 (d := d + 3) (S := S) f2
    have k19 := s19 (d := d) hA hb
    have fr19 := sf_cd (wg_fr (S := S) (a := 6) (b := b) (P := gP G) (D := gD G))
    simp only
    by_cases w0 : w = nI 0
    · rw [if_pos w0, if_pos w0, b74_76 oo, m0]; exact ⟨S, rfl, hR, sf_rf, rfl, rfl⟩
    rw [if_neg w0, if_neg w0]
    by_cases w1 : w = nI 1
    · rw [if_pos w1, if_pos w1, b74_81 oo, m2]; exact ⟨S, rfl, hR, sf_rf, rfl, rfl⟩
    rw [if_neg w1, if_neg w1]
    by_cases w2 : w = nI 2
    · rw [if_pos w2, if_pos w2, b74_86 oo, m3]; exact ⟨S, rfl, hR, sf_rf, rfl, rfl⟩
    rw [if_neg w2, if_neg w2]
    by_cases w3 : w = nI 3
    · rw [if_pos w3, if_pos w3]
      refine ⟨S, ?_, hR, sf_rf, rfl, rfl⟩
      simp only [b74_91, b74_103, wx_o0 hw, wx_k0 hw, wx_q0 hw, wx_g0_0 hw, wx_s0_0 hw, wx_g0_1 hw, wx_s0_1 hw, wx_g0_2 hw, wx_s0_2 hw, wx_g0_3 hw, wx_s0_3 hw, wx_g0_4 hw, wx_s0_4 hw, wx_N42 hw, wx_a42 hw, wx_K42 hw, wx_g0_5 hw, wx_s0_5 hw, wx_g0_6 hw, wx_s0_6 hw, wx_N75 hw, wx_a75 hw, wx_K75 hw, wx_g0_7 hw, wx_s0_7 hw, wx_N88 hw, wx_a88 hw, wx_g0_8 hw, wx_s0_8 hw, wx_N89 hw, wx_a89 hw, wx_g0_9 hw, wx_s0_9 hw, wx_N90 hw, wx_a90 hw, wx_g0_10 hw, wx_s0_10 hw, wx_N91 hw, wx_a91 hw, wx_o6 hw, wx_k6 hw, wx_q6 hw, wx_g6_0 hw, wx_s6_0 hw, wx_N7 hw, wx_a7 hw, wx_K7 hw, wx_g6_1 hw, wx_s6_1 hw, wx_N8 hw, wx_a8 hw, wx_g6_2 hw, wx_s6_2 hw, wx_N9 hw, wx_a9 hw, wx_g6_3 hw, wx_s6_3 hw, wx_N10 hw, wx_a10 hw, wx_g6_4 hw, wx_s6_4 hw, wx_N11 hw, wx_a11 hw, wx_g6_5 hw, wx_s6_5 hw, wx_N12 hw, wx_a12 hw, wx_g6_6 hw, wx_s6_6 hw, wx_N13 hw, wx_a13 hw, wx_g6_7 hw, wx_s6_7 hw, wx_N14 hw, wx_a14 hw, List.not_mem_nil, false_implies, implies_true, nI_clamp, nI_add, Nat.reducePow, hp_bd, hp_bdi, hp_ts, hp_tn, hp_tsc, hp_tnc, Nat.reduceAdd, Nat.reduceSub, Nat.reduceMul, Nat.reduceLT, Nat.reduceLeDiff, Nat.reduceEqDiff, reduceIte, not_true_eq_false, not_false_eq_true, and_true, true_and, and_self, and_false, false_and, or_true, true_or, or_false, false_or, decide_true, decide_false, Bool.and_true, Bool.true_and, Bool.not_false, Bool.or_false, Bool.false_or, Bool.or_true, Bool.true_or, cl, hbi, hfr, k108]
    rw [if_neg w3, if_neg w3]
    by_cases w4 : w = nI 4
    · rw [if_pos w4, if_pos w4]
      refine ⟨S, ?_, hR, sf_rf, rfl, rfl⟩
      simp only [b74_104, wx_o0 hw, wx_k0 hw, wx_q0 hw, wx_g0_0 hw, wx_s0_0 hw, wx_g0_1 hw, wx_s0_1 hw, wx_g0_2 hw, wx_s0_2 hw, wx_g0_3 hw, wx_s0_3 hw, wx_g0_4 hw, wx_s0_4 hw, wx_N42 hw, wx_a42 hw, wx_K42 hw, wx_g0_5 hw, wx_s0_5 hw, wx_g0_6 hw, wx_s0_6 hw, wx_N75 hw, wx_a75 hw, wx_K75 hw, wx_g0_7 hw, wx_s0_7 hw, wx_N88 hw, wx_a88 hw, wx_g0_8 hw, wx_s0_8 hw, wx_N89 hw, wx_a89 hw, wx_g0_9 hw, wx_s0_9 hw, wx_N90 hw, wx_a90 hw, wx_g0_10 hw, wx_s0_10 hw, wx_N91 hw, wx_a91 hw, wx_o6 hw, wx_k6 hw, wx_q6 hw, wx_g6_0 hw, wx_s6_0 hw, wx_N7 hw, wx_a7 hw, wx_K7 hw, wx_g6_1 hw, wx_s6_1 hw, wx_N8 hw, wx_a8 hw, wx_g6_2 hw, wx_s6_2 hw, wx_N9 hw, wx_a9 hw, wx_g6_3 hw, wx_s6_3 hw, wx_N10 hw, wx_a10 hw, wx_g6_4 hw, wx_s6_4 hw, wx_N11 hw, wx_a11 hw, wx_g6_5 hw, wx_s6_5 hw, wx_N12 hw, wx_a12 hw, wx_g6_6 hw, wx_s6_6 hw, wx_N13 hw, wx_a13 hw, wx_g6_7 hw, wx_s6_7 hw, wx_N14 hw, wx_a14 hw, List.not_mem_nil, false_implies, implies_true, nI_clamp, nI_add, Nat.reducePow, hp_bd, hp_bdi, hp_ts, hp_tn, hp_tsc, hp_tnc, Nat.reduceAdd, Nat.reduceSub, Nat.reduceMul, Nat.reduceLT, Nat.reduceLeDiff, Nat.reduceEqDiff, reduceIte, not_true_eq_false, not_false_eq_true, and_true, true_and, and_self, and_false, false_and, or_true, true_or, or_false, false_or, decide_true, decide_false, Bool.and_true, Bool.true_and, Bool.not_false, Bool.or_false, Bool.false_or, Bool.or_true, Bool.true_or, cl, hbi, haw]
    rw [if_neg w4, if_neg w4]
    by_cases w5 : w = nI 5
    · rw [if_pos w5, if_pos w5]
      refine ⟨S, ?_, hR, sf_rf, rfl, rfl⟩
      simp only [b74_114, b74_122, b74_125, wx_o0 hw, wx_k0 hw, wx_q0 hw, wx_g0_0 hw, wx_s0_0 hw, wx_g0_1 hw, wx_s0_1 hw, wx_g0_2 hw, wx_s0_2 hw, wx_g0_3 hw, wx_s0_3 hw, wx_g0_4 hw, wx_s0_4 hw, wx_N42 hw, wx_a42 hw, wx_K42 hw, wx_g0_5 hw, wx_s0_5 hw, wx_g0_6 hw, wx_s0_6 hw, wx_N75 hw, wx_a75 hw, wx_K75 hw, wx_g0_7 hw, wx_s0_7 hw, wx_N88 hw, wx_a88 hw, wx_g0_8 hw, wx_s0_8 hw, wx_N89 hw, wx_a89 hw, wx_g0_9 hw, wx_s0_9 hw, wx_N90 hw, wx_a90 hw, wx_g0_10 hw, wx_s0_10 hw, wx_N91 hw, wx_a91 hw, wx_o6 hw, wx_k6 hw, wx_q6 hw, wx_g6_0 hw, wx_s6_0 hw, wx_N7 hw, wx_a7 hw, wx_K7 hw, wx_g6_1 hw, wx_s6_1 hw, wx_N8 hw, wx_a8 hw, wx_g6_2 hw, wx_s6_2 hw, wx_N9 hw, wx_a9 hw, wx_g6_3 hw, wx_s6_3 hw, wx_N10 hw, wx_a10 hw, wx_g6_4 hw, wx_s6_4 hw, wx_N11 hw, wx_a11 hw, wx_g6_5 hw, wx_s6_5 hw, wx_N12 hw, wx_a12 hw, wx_g6_6 hw, wx_s6_6 hw, wx_N13 hw, wx_a13 hw, wx_g6_7 hw, wx_s6_7 hw, wx_N14 hw, wx_a14 hw, List.not_mem_nil, false_implies, implies_true, nI_clamp, nI_add, Nat.reducePow, hp_bd, hp_bdi, hp_ts, hp_tn, hp_tsc, hp_tnc, Nat.reduceAdd, Nat.reduceSub, Nat.reduceMul, Nat.reduceLT, Nat.reduceLeDiff, Nat.reduceEqDiff, reduceIte, not_true_eq_false, not_false_eq_true, and_true, true_and, and_self, and_false, false_and, or_true, true_or, or_false, false_or, decide_true, decide_false, Bool.and_true, Bool.true_and, Bool.not_false, Bool.or_false, Bool.false_or, Bool.or_true, Bool.true_or, k12, k108b]
    rw [if_neg w5, if_neg w5]
    have q19 : sf_f gc_F S (mm_uM (mm_uM (cd_mw S 6 b (gP G) (gD G)) 6 18 (nI (ab_val (gP G) (gD G) b))) 6 19 (nI (ab_cost (gP G) (gD G) b))) := by
      unfold cd_mw
      have f14 : ∀ j, gc_F (6 + 8) j := fun j => Or.inr (Or.inr (Or.inl rfl))
      exact sf_tr (sf_tr (sf_tr (sf_tr (sf_tr (sf_tr (sf_tr (sf_tr (sf_uM (f14 0)) (sf_uM (f14 1))) (sf_uM (f14 2))) (sf_uM (f14 3))) (sf_uM (f14 4))) (sf_uM (f14 5))) (sf_uM (f14 6))) (sf_uM (Or.inr (Or.inr (Or.inr ⟨rfl, Or.inl rfl⟩))))) (sf_uM (Or.inr (Or.inr (Or.inr ⟨rfl, Or.inr rfl⟩))))
    have w19 : mm_W (mm_uM (mm_uM (cd_mw S 6 b (gP G) (gD G)) 6 18 (nI (ab_val (gP G) (gD G) b))) 6 19 (nI (ab_cost (gP G) (gD G) b))) := hw
    by_cases w6 : w = nI 6
    · rw [if_pos w6, if_pos w6]
      refine ⟨_, ?_, RC_q ok q19 w19 hR, q19, rfl, rfl⟩
      rw [b74_126 (wx_o0 hw) (wx_s0_0 hw) (by rw [wx_g0_0 hw]; exact wx_k6 hw), wx_g0_0 hw, k19, hp_bd, hp_tnc, b74_134 (wx_o0 w19) (wx_s0_0 w19) (by rw [wx_g0_0 w19]; exact wx_o6 w19), wx_g0_0 w19, uM_k (by decide), uM_s]
    rw [if_neg w6, if_neg w6]
    by_cases w7 : w = nI 7
    · rw [if_pos w7, if_pos w7]
      refine ⟨_, ?_, RC_q ok q19 w19 hR, q19, rfl, rfl⟩
      rw [b74_142 (wx_o0 hw) (wx_s0_0 hw) (by rw [wx_g0_0 hw]; exact wx_k6 hw), wx_g0_0 hw, k19, hp_bd, hp_tnc, b74_150 (wx_o0 w19) (wx_s0_0 w19) (by rw [wx_g0_0 w19]; exact wx_o6 w19), wx_g0_0 w19, uM_s]
    rw [if_neg w7, if_neg w7]
    by_cases w8 : w = nI 8
    · rw [if_pos w8, if_pos w8, b74_158 oo, m0]
      refine ⟨S, ?_, hR, sf_rf, rfl, rfl⟩
      by_cases h6 : ab_ki (gP G) b = 6
      · have t0 : mm_M S 9 (b * 3) = nI (ab_te (gP G) (3 * b)) := by rw [Nat.mul_comm]; exact hA.2.2.1.2.2.2.1 _ (by have hb : b < ab_kn (gP G) := hb; omega)
        have t1 : mm_M S 9 (b * 3 + 1) = nI (ab_te (gP G) (3 * b + 1)) := by rw [Nat.mul_comm]; exact hA.2.2.1.2.2.2.1 _ (by have hb : b < ab_kn (gP G) := hb; omega)
        have t2 : mm_M S 9 (b * 3 + 2) = nI (ab_te (gP G) (3 * b + 2)) := by rw [Nat.mul_comm]; exact hA.2.2.1.2.2.2.1 _ (by have hb : b < ab_kn (gP G) := hb; omega)
        have c0 : (nI (b * 3)).toNatClampNeg = b * 3 := nI_clamp (by omega)
        have c1 : (nI (b * 3 + 1)).toNatClampNeg = b * 3 + 1 := nI_clamp (by omega)
        have c2 : (nI (b * 3 + 2)).toNatClampNeg = b * 3 + 2 := nI_clamp (by omega)
        have j0 : mm_inb (nI (b * 3)) 18 = true := hp_inb (by omega) (by omega)
        have j1 : mm_inb (nI (b * 3 + 1)) 18 = true := hp_inb (by omega) (by omega)
        have j2 : mm_inb (nI (b * 3 + 2)) 18 = true := hp_inb (by omega) (by omega)
        rw [if_pos (by rw [h6]), if_pos h6]
        simp only [b74_167, b74_172, b110_0, e110, wx_o0 hw, wx_k0 hw, wx_q0 hw, wx_g0_0 hw, wx_s0_0 hw, wx_g0_1 hw, wx_s0_1 hw, wx_g0_2 hw, wx_s0_2 hw, wx_g0_3 hw, wx_s0_3 hw, wx_g0_4 hw, wx_s0_4 hw, wx_N42 hw, wx_a42 hw, wx_K42 hw, wx_g0_5 hw, wx_s0_5 hw, wx_g0_6 hw, wx_s0_6 hw, wx_N75 hw, wx_a75 hw, wx_K75 hw, wx_g0_7 hw, wx_s0_7 hw, wx_N88 hw, wx_a88 hw, wx_g0_8 hw, wx_s0_8 hw, wx_N89 hw, wx_a89 hw, wx_g0_9 hw, wx_s0_9 hw, wx_N90 hw, wx_a90 hw, wx_g0_10 hw, wx_s0_10 hw, wx_N91 hw, wx_a91 hw, wx_o6 hw, wx_k6 hw, wx_q6 hw, wx_g6_0 hw, wx_s6_0 hw, wx_N7 hw, wx_a7 hw, wx_K7 hw, wx_g6_1 hw, wx_s6_1 hw, wx_N8 hw, wx_a8 hw, wx_g6_2 hw, wx_s6_2 hw, wx_N9 hw, wx_a9 hw, wx_g6_3 hw, wx_s6_3 hw, wx_N10 hw, wx_a10 hw, wx_g6_4 hw, wx_s6_4 hw, wx_N11 hw, wx_a11 hw, wx_g6_5 hw, wx_s6_5 hw, wx_N12 hw, wx_a12 hw, wx_g6_6 hw, wx_s6_6 hw, wx_N13 hw, wx_a13 hw, wx_g6_7 hw, wx_s6_7 hw, wx_N14 hw, wx_a14 hw, List.not_mem_nil, false_implies, implies_true, nI_clamp, nI_add, Nat.reducePow, hp_bd, hp_bdi, hp_ts, hp_tn, hp_tsc, hp_tnc, Nat.reduceAdd, Nat.reduceSub, Nat.reduceMul, Nat.reduceLT, Nat.reduceLeDiff, Nat.reduceEqDiff, reduceIte, not_true_eq_false, not_false_eq_true, and_true, true_and, and_self, and_false, false_and, or_true, true_or, or_false, false_or, decide_true, decide_false, Bool.and_true, Bool.true_and, Bool.not_false, Bool.or_false, Bool.false_or, Bool.or_true, Bool.true_or, nI_mul, c0, c1, c2, j0, j1, j2, t0, t1, t2]
      · rw [if_neg (fun e => h6 ((nI_eq (by omega) (by decide)).mp e)), if_neg h6, b74_175]
    rw [if_neg w8, if_neg w8, b74_178]
    exact ⟨S, rfl, hR, sf_rf, rfl, rfl⟩
end CO
end
section
/-! ===== calls: what they leave; numbers in a range ===== -/
def gc_0 (c _j : Nat) : Prop := c < 92 ∨ 137 ≤ c
def gm_0 (c _j : Nat) : Prop := 92 ≤ c ∧ c < 137
theorem kw_d {n m : Nat} (hm : m = n + 1) (hn : n < 2 ^ 30) (x : Int32) : (ab_kw m x = none ∧ (x < nI 0) = True ∧ (nI 0 ≤ x) = False ∧ (nI n < x) = False ∧ (x ≤ nI n) = True ∧ (nI m ≤ x) = False ∧ (x < nI m) = True) ∨ (ab_kw m x = none ∧ (x < nI 0) = False ∧ (nI 0 ≤ x) = True ∧ (nI n < x) = True ∧ (x ≤ nI n) = False ∧ (nI m ≤ x) = True ∧ (x < nI m) = False) ∨ ∃ j, j < m ∧ ab_kw m x = some j ∧ x = nI j ∧ (nI j < nI 0) = False ∧ (nI 0 ≤ nI j) = True ∧ (nI n < nI j) = False ∧ (nI j ≤ nI n) = True ∧ (nI m ≤ nI j) = False ∧ (nI j < nI m) = True := by
  subst hm
  have t0 : (nI 0).toInt = 0 := nI_toInt (by decide)
  have tn : (nI n).toInt = (n : Int) := nI_toInt (by omega)
  have tm : (nI (n + 1)).toInt = ((n + 1 : Nat) : Int) := nI_toInt (by omega)
  unfold ab_kw
  simp only [Int32.lt_iff_toInt_lt, Int32.le_iff_toInt_le, t0, tn, tm]
  by_cases h1 : x.toInt < 0
  · refine Or.inl ⟨if_pos (Or.inl h1), eq_true h1, eq_false (by omega), eq_false (by omega), eq_true (by omega), eq_false (by omega), eq_true (by omega)⟩
  · by_cases h2 : (n : Int) < x.toInt
    · refine Or.inr (Or.inl ⟨if_pos (Or.inr (by omega)), eq_false h1, eq_true (by omega), eq_true h2, eq_false (by omega), eq_true (by omega), eq_false (by omega)⟩)
    · have e : x = nI x.toInt.toNat := by
        rw [← Int32.toInt_inj, nI_toInt (by omega)]
        omega
      have tj : (nI x.toInt.toNat).toInt = (x.toInt.toNat : Int) := nI_toInt (by omega)
      refine Or.inr (Or.inr ⟨x.toInt.toNat, by omega, ?_, e, ?_⟩)
      · rw [if_neg (by omega)]; rfl
      · rw [tj]
        exact ⟨eq_false (by omega), eq_true (by omega), eq_false (by omega), eq_true (by omega), eq_false (by omega), eq_true (by omega)⟩
section RD
variable {F H : Nat → Nat → Prop} {S T : mm_S} {c j a k : Nat} {x : Int32}
theorem rdn (h : ¬ (a = c ∧ k = j)) : mm_M (mm_uM S c j x) a k = mm_M S a k := hp_MuM.trans (if_neg h)
theorem rds : mm_M (mm_uM S c j x) c j = x := hp_MuM.trans (if_pos ⟨rfl, rfl⟩)
theorem rdk : mm_M (mm_uM S c j x) c k = if k = j then x else mm_M S c k := by
  rw [hp_MuM]
  by_cases h : k = j
  · rw [if_pos ⟨rfl, h⟩, if_pos h]
  · rw [if_neg (fun e => h e.2), if_neg h]
theorem wu (hw : mm_W S) : mm_W (mm_uM S c j x) := hw
theorem wl {y : Int64} (hw : mm_W S) : mm_W (mm_uL S c j y) := hw
end RD
/-- the day now alone -/
def gc_6 (c _j : Nat) : Prop := 6 ≤ c ∧ c ≤ 14
/-- size and number of cells -/
def sz_e (S T : mm_S) : Prop := mm_n T ≤ mm_n S + 1 ∧ mm_z T ≤ mm_z S + 4
def oC (S : mm_S) (d y : Nat) (as : List Value) (v : Value) (G : gb_G) : Prop := ∃ T, mm_cl d y as S = some (some v, T) ∧ RC T G ∧ sf_f gc_0 S T ∧ sz_e S T
section GN
variable {F : Nat → Nat → Prop} {S T : mm_S} {G : gb_G} {d y : Nat} {as : List Value} {v : Value} {X : gb_X}
theorem sz_s (h1 : mm_n T = mm_n S) (h2 : mm_z T = mm_z S) : sz_e S T := ⟨by omega, by omega⟩
theorem sz_cd {a : Nat} (h : cd_fr a S T) : sz_e S T := sz_s (fr_n h) (fr_z h)
theorem g6_o : sf_o gc_6 S := by
  refine ⟨fun c j hc _ => ?_, fun s m j hs hm => ?_⟩
  · unfold gc_6; omega
  · unfold gc_6; unfold mm_sh at hs; omega
theorem g6_0 (h : sf_f gc_6 S T) : sf_f gc_0 S T := sf_mo h (fun c j h => by unfold gc_6 at h; unfold gc_0; omega)
theorem gF_0 (h : sf_f gc_F S T) : sf_f gc_0 S T := sf_mo h (fun c j h => by unfold gc_F at h; unfold gc_0; omega)
/-- the day now, and cells that are new -/
def gc_6n (n c _j : Nat) : Prop := (6 ≤ c ∧ c ≤ 14) ∨ n ≤ c
theorem g6n_o (hw : mm_W S) : sf_o (gc_6n (mm_n S)) S := by
  have := hw.1
  refine ⟨fun c j hc _ => ?_, fun s m j hs hm => ?_⟩
  · unfold gc_6n; omega
  · unfold gc_6n; unfold mm_sh at hs; omega
theorem RC_6n (ok : gb_ok G) (h : sf_f (gc_6n (mm_n S)) S T) (hw : mm_W T) (hR : RC S G) (hX : gc_X T 6 X) (hq : gc_q T 6) : RC T (X, G.2) := by
  have g6n := g6n_o hR.1
  obtain ⟨⟨hn, -⟩, h1, h2, h3, h4, h5, h6, h7, h8⟩ := hR
  refine ⟨hw, hX, hq, tr_q h (fun j => ?_) ?_ h3, tr_i h g6n ?_ (fun c j a b => ?_) h4, tr_s ok.2.2.1 h g6n ?_ h5, tr_t h ?_ (fun j => ?_) h6, tr_p h (fun c j a b => ?_) h7, tr_r h (fun j => ?_) h8⟩ <;> (unfold gc_6n; omega)
theorem RC_6 (ok : gb_ok G) (h : sf_f gc_6 S T) (hw : mm_W T) (hR : RC S G) (hX : gc_X T 6 X) (hq : gc_q T 6) : RC T (X, G.2) := by
  obtain ⟨-, h1, h2, h3, h4, h5, h6, h7, h8⟩ := hR
  refine ⟨hw, hX, hq, tr_q h (fun j => ?_) ?_ h3, tr_i h g6_o ?_ (fun c j a b => ?_) h4, tr_s ok.2.2.1 h g6_o ?_ h5, tr_t h ?_ (fun j => ?_) h6, tr_p h (fun c j a b => ?_) h7, tr_r h (fun j => ?_) h8⟩ <;> (unfold gc_6; omega)
theorem oC_id (hR : RC S G) (h : mm_cl d y as S = some (some v, S)) : oC S d y as v G := ⟨S, h, hR, sf_rf, sz_s rfl rfl⟩
theorem oC_F (ok : gb_ok G) (hR : RC S G) (h : mm_cl d y as S = some (some v, T)) (hf : sf_f gc_F S T) (hw : mm_W T) (hz : sz_e S T) : oC S d y as v G := ⟨T, h, RC_q ok hf hw hR, gF_0 hf, hz⟩
theorem oC_6 (ok : gb_ok G) (hR : RC S G) (h : mm_cl d y as S = some (some v, T)) (hf : sf_f gc_6 S T) (hw : mm_W T) (hX : gc_X T 6 X) (hq : gc_q T 6) (hz : sz_e S T) : oC S d y as v (X, G.2) := ⟨T, h, RC_6 ok hf hw hR hX hq, g6_0 hf, hz⟩
end GN
/-! ===== parts of all that an object is, changed ===== -/
def gP_fr (P : ab_P) (b : Nat) (o : Option Nat) : ab_P := (P.1, P.2.1, P.2.2.1, P.2.2.2.1, ab_up1 P.2.2.2.2.1 b o, P.2.2.2.2.2)
def gP_te (P : ab_P) (i n : Nat) : ab_P := (P.1, P.2.1, P.2.2.1, P.2.2.2.1, P.2.2.2.2.1, ab_up1 P.2.2.2.2.2.1 i n, P.2.2.2.2.2.2)
def gD_row (D : ab_D) (r : List Nat) : ab_D := (r, D.2)
def gD_pr (D : ab_D) (n : Nat) : ab_D := (D.1, D.2.1, D.2.2.1, n, D.2.2.2.2)
def gD_lo (D : ab_D) (n : Nat) : ab_D := (D.1, D.2.1, D.2.2.1, D.2.2.2.1, n, D.2.2.2.2.2)
def gX_P (X : gb_X) (P : ab_P) : gb_X := (P, X.2)
def gX_D (X : gb_X) (D : ab_D) : gb_X := (X.1, D, X.2.2)
def gX_s (X : gb_X) (s : Nat) : gb_X := (X.1, X.2.1, s, X.2.2.2)
def gX_f (X : gb_X) (f : List Nat) : gb_X := (X.1, X.2.1, X.2.2.1, f, X.2.2.2.2)
def gS_t (G : gb_G) (l : List Nat) : gb_G := (G.1, G.2.1, G.2.2.1, l, G.2.2.2.2)
def gS_p (G : gb_G) (f : Nat → Int32 × Nat × (Nat → Int64)) : gb_G := (G.1, G.2.1, G.2.2.1, G.2.2.2.1, f, G.2.2.2.2.2)
def gS_r (G : gb_G) (l : List Nat) : gb_G := (G.1, G.2.1, G.2.2.1, G.2.2.2.1, G.2.2.2.2.1, l)
/-- calls: the answer, and all that an object is then -/
def op_3 (G : gb_G) (x y : Int32) : Int32 × gb_G := match ab_kw (gK G) x with
  | none => (-1, G)
  | some b => if y = -1 then (md_fo (ab_fr (gP G) b), gX_P G.1 (gP_fr (gP G) b none), G.2) else match ab_kw (gK G) y with
    | none => (-1, G)
    | some o => if o = b then (-2, G) else (md_fo (ab_fr (gP G) b), gX_P G.1 (gP_fr (gP G) b (some o)), G.2)
def op_4 (G : gb_G) (x p n : Int32) : Int32 × gb_G := match ab_kw (gK G) x, ab_kw 3 p with
  | some b, some p => (match ab_kw 4 n with
    | none => (-2, G)
    | some n => if ab_ki (gP G) b = 6 then (nI (ab_te (gP G) (3 * b + p)), gX_P G.1 (gP_te (gP G) (3 * b + p) n), G.2) else (-3, G))
  | _, _ => (-1, G)
def op_5 (G : gb_G) (x : Int32) : Int32 × gb_G := match ab_kw (gK G) x with
  | none => (-1, G)
  | some b => if b ∈ ab_row (gD G) then (-3, G) else (nI (ab_row (gD G)).length, gX_D G.1 (gD_row (gD G) (ab_row (gD G) ++ [b])), G.2)
def op_6 (G : gb_G) (w n : Int32) : Int32 × gb_G :=
  if w = nI 0 then (match ab_kw 1000 n with
    | none => (-2, G)
    | some n => (nI (ab_pr (gD G)), gX_D G.1 (gD_pr (gD G) n), G.2))
  else if w = nI 1 then (match ab_kw 10 n with
    | none => (-2, G)
    | some n => (nI (ab_lo (gD G)), gX_D G.1 (gD_lo (gD G) n), G.2))
  else (-1, G)
def op_7 (G : gb_G) (x : Int32) : Int32 × gb_G := match ab_kw 128 x with
  | none => (-2, G)
  | some c => if (gb_t G).length = 100 then (-4, G) else (nI ((gb_t G).length + 1), gS_t G (gb_t G ++ [c]))
def an_9 (G : gb_G) (w : Int32) : Int32 := if w = nI 0 then nI (ab_up (gP G)) else if w = nI 1 then nI (ab_down (gP G)) else if w = nI 2 then nI (ab_away (gP G)) else if w = nI 3 then nI (ab_fe (gP G)) else if w = nI 4 then nI (ab_pr (gD G)) else if w = nI 5 then nI (ab_lo (gD G)) else if w = nI 6 then ab_ti (gD G) else if w = nI 7 then ab_tu (gD G) else if w = nI 8 then nI (ab_row (gD G)).length else if w = nI 9 then (if (ab_row (gD G)).length = 0 then -5 else nI ((ab_row (gD G)).getD 0 0)) else -1
def op_11 (G : gb_G) : Int32 × gb_G := if ab_com (gD G) = true then (nI (ab_ha (gP G) (gD G)), gX_D G.1 (ab_turn (gP G) (gD G)), G.2) else (nI 0, G)
def op_20 (G : gb_G) (x : Int32) : Int32 × gb_G := match ab_kw 11 x with
  | none => (-2, G)
  | some n => (nI (gx_s G.1), gX_s G.1 n, G.2)
def op_22 (G : gb_G) (x : Int32) : Int32 × gb_G := if x = -1 then (nI 0, gX_f G.1 [], G.2) else match ab_kw 4 x with
  | none => (-1, G)
  | some n => if n = 0 then (-1, G) else if (gx_f G.1).length = 12 then (-4, G) else (nI ((gx_f G.1).length + 1), gX_f G.1 (gx_f G.1 ++ [n]), G.2)
def op_25 (G : gb_G) : Int32 × gb_G := (nI (gK G), G.1, some G.1, G.2.2)
def op_26 (G : gb_G) : Int32 × gb_G := match gb_i G with
  | none => (-3, G)
  | some Y => (nI (ab_kn (gx_P Y)), Y, G.2)
def an_28 (G : gb_G) (x : Int32) : Int32 := match ab_kw (gb_r G).length x with
  | none => -1
  | some i => nI ((gb_r G).getD i 0)
def an_30 (G : gb_G) (w : Int32) : Int32 := if w = nI 0 then nI (gK G) else if w = nI 1 then nI (gb_s G).length else if w = nI 2 then nI (gx_f G.1).length else if w = nI 3 then nI (gb_t G).length else if w = nI 4 then nI (gb_r G).length else -2
def ab_above (k : Nat) : List Nat := ([[0], [1, 0], [2, 0], [3, 0], [4, 1, 0], [5, 2, 0], [6, 3, 0]] : List (List Nat)).getD k []
def an_29 (G : gb_G) (x k : Int32) : Int32 := match ab_kw 7 k with
  | none => -2
  | some k => match ab_kw (gK G) x with
    | none => -11
    | some b => if k ∈ ab_above (ab_ki (gP G) b) then nI (ab_ki (gP G) b) else -12
def op_31 (G : gb_G) (t s n : Int32) : Int32 × gb_G := match ab_kw 6 t with
  | none => (-1, G)
  | some t => if s = -1 then (nI 1, gS_p G (ab_up1 (gb_p G) t (-1, 0, fun _ => 0))) else match ab_kw 5 s with
    | none => (-2, G)
    | some s => if nI 60 < n then (-2, G) else if n < nI 0 then (-14, G) else (nI 1, gS_p G (ab_up1 (gb_p G) t (nI s, n.toNatClampNeg, fun _ => 0)))
def ab_cut (s : Int32) (v : Int64) : Int64 := if s = nI 0 then v.toInt32.toInt8.toInt32.toInt64 else if s = nI 1 then v.toInt32.toInt16.toInt32.toInt64 else if s = nI 2 then v.toInt32.toInt64 else if s = nI 4 then (if lg_cmp v 0 = nI 0 then 0 else 1) else v
def op_32 (G : gb_G) (t i : Int32) (v : Int64) : Int32 × gb_G := match ab_kw 6 t with
  | none => (-1, G)
  | some t => if (gb_p G t).1 = -1 then (-11, G) else match ab_kw (gb_p G t).2.1 i with
    | none => (-13, G)
    | some i => (nI 1, gS_p G (ab_up1 (gb_p G) t ((gb_p G t).1, (gb_p G t).2.1, ab_up1 (gb_p G t).2.2 i (ab_cut (gb_p G t).1 v))))
def an_33 (G : gb_G) (t i : Int32) : Int64 := match ab_kw 6 t with
  | none => -9223372036854775808
  | some t => match ab_kw (gb_p G t).2.1 i with
    | none => -9223372036854775808
    | some i => (gb_p G t).2.2 i
def op_34 (G : gb_G) (t i o j n : Int32) : Int32 × gb_G := match ab_kw 6 t, ab_kw 6 o with
  | some t, some o => if (gb_p G t).1 = -1 ∨ (gb_p G o).1 = -1 then (-11, G) else if (gb_p G t).1 ≠ (gb_p G o).1 then (-12, G) else (match ab_kw 61 n, ab_kw 61 i, ab_kw 61 j with
    | some n, some i, some j => if i + n ≤ (gb_p G t).2.1 ∧ j + n ≤ (gb_p G o).2.1 then (nI n, gS_p G (ab_up1 (gb_p G) o ((gb_p G o).1, (gb_p G o).2.1, va_cpy (gb_p G t).2.2 (gb_p G o).2.2 i j n))) else (-13, G)
    | _, _, _ => (-13, G))
  | _, _ => (-1, G)
end
section
/-! ===== calls of the class ===== -/
def gc_tt (c _j : Nat) : Prop := c = 73 ∨ c = 74
def gc_pp (c _j : Nat) : Prop := 76 ≤ c ∧ c ≤ 87
def gc_rr (c _j : Nat) : Prop := c = 88
def gc_6m (c j : Nat) : Prop := c = 13 ∨ (c = 6 ∧ (j = 16 ∨ j = 17))
section XU
variable {F : Nat → Nat → Prop} {S T : mm_S} {G : gb_G} {X : gb_X} {b i n : Nat} {v : Int32} {o : Option Nat} {l : List Nat} {D : ab_D}
theorem X_fr (hX : gc_X S 6 X) (hv : v = cd_fo o) : gc_X (mm_uM S 8 b v) 6 (gX_P X (gP_fr (gx_P X) b o)) := by
  obtain ⟨⟨p1, p2, p3, p4, p5, s, p6, p7, p8⟩, hD, q1, q2, q3, q4⟩ := hX
  have f : sf_f (fun c j => c = 8 ∧ j = b) S (mm_uM S 8 b v) := sf_uM ⟨rfl, rfl⟩
  refine ⟨⟨(rdn (by omega)).trans p1, (rdn (by omega)).trans p2, fun i hi => ?_, fun i hi => (rdn (by omega)).trans (p4 i hi), fun i hi => ?_, s, p6, p7, tr_cs f (fun m j hm (h : s + m = 8 ∧ j = b) => by unfold mm_sh at p7; omega) p8⟩, tr_D f (fun m j hm (h : 6 + m = 8 ∧ j = b) => by omega) hD, (rdn (by omega)).trans q1, (rdn (by omega)).trans q2, fun i hi => (rdn (by omega)).trans (q3 i hi), q4⟩
  · show mm_M (mm_uM S 8 b v) 8 i = cd_fo (ab_up1 (ab_fr (gx_P X)) b o i)
    rw [rdk]; unfold ab_up1
    by_cases h : i = b
    · rw [if_pos h, if_pos h, hv]
    · rw [if_neg h, if_neg h]; exact p3 i hi
  · obtain ⟨e, he, hb2⟩ := p5 i hi
    exact ⟨e, he, tr_by f (fun j _ (h : e = 8 ∧ j = b) => by have := hb2.1; omega) hb2⟩
theorem X_te (hX : gc_X S 6 X) (hv : v = nI n) : gc_X (mm_uM S 9 b v) 6 (gX_P X (gP_te (gx_P X) b n)) := by
  obtain ⟨⟨p1, p2, p3, p4, p5, s, p6, p7, p8⟩, hD, q1, q2, q3, q4⟩ := hX
  have f : sf_f (fun c j => c = 9 ∧ j = b) S (mm_uM S 9 b v) := sf_uM ⟨rfl, rfl⟩
  refine ⟨⟨(rdn (by omega)).trans p1, (rdn (by omega)).trans p2, fun i hi => (rdn (by omega)).trans (p3 i hi), fun i hi => ?_, fun i hi => ?_, s, p6, p7, tr_cs f (fun m j hm (h : s + m = 9 ∧ j = b) => by unfold mm_sh at p7; omega) p8⟩, tr_D f (fun m j hm (h : 6 + m = 9 ∧ j = b) => by omega) hD, (rdn (by omega)).trans q1, (rdn (by omega)).trans q2, fun i hi => (rdn (by omega)).trans (q3 i hi), q4⟩
  · show mm_M (mm_uM S 9 b v) 9 i = nI (ab_up1 (ab_te (gx_P X)) b n i)
    rw [rdk]; unfold ab_up1
    by_cases h : i = b
    · rw [if_pos h, if_pos h, hv]
    · rw [if_neg h, if_neg h]; exact p4 i hi
  · obtain ⟨e, he, hb2⟩ := p5 i hi
    exact ⟨e, he, tr_by f (fun j _ (h : e = 9 ∧ j = b) => by have := hb2.1; omega) hb2⟩
theorem X_D (h : sf_f F S T) (hF : ∀ c j, F c j → (c = 6 ∧ ((11 ≤ j ∧ j ≤ 15) ∨ j = 18 ∨ j = 19)) ∨ c = 10 ∨ c = 11 ∨ c = 12 ∨ c = 14) (hX : gc_X S 6 X) (hD : cd_D T 6 (ab_kn (gx_P X)) D) : gc_X T 6 (gX_D X D) := by
  obtain ⟨hP, -, q1, q2, q3, q4⟩ := hX
  have ho : sf_o F S := by
    refine ⟨fun c j hc _ e => ?_, fun s m j hs hm e => ?_⟩
    · have := hF _ _ e; omega
    · have := hF _ _ e; unfold mm_sh at hs; omega
  have hx : ∀ c j, ¬ ((c = 6 ∧ ((11 ≤ j ∧ j ≤ 15) ∨ j = 18 ∨ j = 19)) ∨ c = 10 ∨ c = 11 ∨ c = 12 ∨ c = 14) → ¬ F c j := fun c j n e => n (hF c j e)
  exact ⟨tr_P h ho (fun m j hm => hx _ _ (by omega)) hP, hD, (h.1 _ _ (hx _ _ (by omega))).1.trans q1, (h.1 _ _ (hx _ _ (by omega))).1.trans q2, fun i hi => (h.1 _ _ (hx _ _ (by omega))).1.trans (q3 i hi), (h.1 _ _ (hx _ _ (by omega))).2.2.trans q4⟩
theorem X_m (h : sf_f gc_6m S T) (hX : gc_X S 6 X) : cd_P T 6 (gx_P X) ∧ cd_D T 6 (ab_kn (gx_P X)) (gx_D X) ∧ mm_R T 6 8 = some (gc_ad (gx_h X)) := by
  have ho : sf_o gc_6m S := by
    refine ⟨fun c j hc _ e => ?_, fun s m j hs hm e => ?_⟩
    · unfold gc_6m at e; omega
    · unfold gc_6m at e; unfold mm_sh at hs; omega
  exact ⟨tr_P h ho (fun m j hm => by unfold gc_6m; omega) hX.1, tr_D h (fun m j hm => by unfold gc_6m; omega) hX.2.1, (h.1 _ _ (by unfold gc_6m; omega)).2.2.trans hX.2.2.2.2.2⟩
theorem RC_t (ok : gb_ok G) (h : sf_f gc_tt S T) (hw : mm_W T) (hR : RC S G) (ht : gc_t T l) : RC T (gS_t G l) := by
  have ho : sf_o gc_tt S := by
    refine ⟨fun c j hc _ e => ?_, fun s m j hs hm e => ?_⟩
    · unfold gc_tt at e; omega
    · unfold gc_tt at e; unfold mm_sh at hs; omega
  obtain ⟨-, h1, h2, h3, h4, h5, h6, h7, h8⟩ := hR
  refine ⟨hw, tr_X h ho (fun m j hm => ?_) h1, tr_q h (fun j => ?_) ?_ h2, tr_q h (fun j => ?_) ?_ h3, tr_i h ho ?_ (fun c j a b => ?_) h4, tr_s ok.2.2.1 h ho ?_ h5, ht, tr_p h (fun c j a b => ?_) h7, tr_r h (fun j => ?_) h8⟩ <;> (unfold gc_tt; omega)
theorem RC_p (ok : gb_ok G) {f : Nat → Int32 × Nat × (Nat → Int64)} (h : sf_f gc_pp S T) (hw : mm_W T) (hR : RC S G) (ht : gc_p T f) : RC T (gS_p G f) := by
  have ho : sf_o gc_pp S := by
    refine ⟨fun c j hc _ e => ?_, fun s m j hs hm e => ?_⟩
    · unfold gc_pp at e; omega
    · unfold gc_pp at e; unfold mm_sh at hs; omega
  obtain ⟨-, h1, h2, h3, h4, h5, h6, h7, h8⟩ := hR
  refine ⟨hw, tr_X h ho (fun m j hm => ?_) h1, tr_q h (fun j => ?_) ?_ h2, tr_q h (fun j => ?_) ?_ h3, tr_i h ho ?_ (fun c j a b => ?_) h4, tr_s ok.2.2.1 h ho ?_ h5, tr_t h ?_ (fun j => ?_) h6, ht, tr_r h (fun j => ?_) h8⟩ <;> (unfold gc_pp; omega)
theorem RC_r (ok : gb_ok G) (h : sf_f gc_rr S T) (hw : mm_W T) (hR : RC S G) (ht : gc_r T l) : RC T (gS_r G l) := by
  have ho : sf_o gc_rr S := by
    refine ⟨fun c j hc _ e => ?_, fun s m j hs hm e => ?_⟩
    · unfold gc_rr at e; omega
    · unfold gc_rr at e; unfold mm_sh at hs; omega
  obtain ⟨-, h1, h2, h3, h4, h5, h6, h7, h8⟩ := hR
  refine ⟨hw, tr_X h ho (fun m j hm => ?_) h1, tr_q h (fun j => ?_) ?_ h2, tr_q h (fun j => ?_) ?_ h3, tr_i h ho ?_ (fun c j a b => ?_) h4, tr_s ok.2.2.1 h ho ?_ h5, tr_t h ?_ (fun j => ?_) h6, tr_p h (fun c j a b => ?_) h7, ht⟩ <;> (unfold gc_rr; omega)
theorem tt_0 (h : sf_f gc_tt S T) : sf_f gc_0 S T := sf_mo h (fun c j h => by unfold gc_tt at h; unfold gc_0; omega)
theorem pp_0 (h : sf_f gc_pp S T) : sf_f gc_0 S T := sf_mo h (fun c j h => by unfold gc_pp at h; unfold gc_0; omega)
theorem rr_0 (h : sf_f gc_rr S T) : sf_f gc_0 S T := sf_mo h (fun c j h => by unfold gc_rr at h; unfold gc_0; omega)
theorem m6_6 (h : sf_f gc_6m S T) : sf_f gc_6 S T := sf_mo h (fun c j h => by unfold gc_6m at h; unfold gc_6; omega)
theorem ok_D (ok : gb_ok G) (h : ab_okD (gP G) D) : gb_ok (gX_D G.1 D, G.2) := ⟨⟨ok.1.1, h, ok.1.2.2⟩, ok.2⟩
theorem okD_back (ok : gb_ok G) (hb : b < gK G) (hn : b ∉ ab_row (gD G)) : ab_okD (gP G) (gD_row (gD G) (ab_row (gD G) ++ [b])) := by
  obtain ⟨h1, h2, h3, h4, h5⟩ := ok.1.2.1
  refine ⟨?_, ?_, h3, h4, h5⟩
  · show (ab_row (gD G) ++ [b]).Nodup
    rw [List.nodup_append]
    refine ⟨h1, by simp, ?_⟩
    intro x hx y hy e
    have : y = b := by simpa using hy
    subst e this
    exact hn hx
  · intro x hx
    have hx : x ∈ ab_row (gD G) ++ [b] := hx
    rcases List.mem_append.mp hx with h | h
    · exact h2 x h
    · have : x = b := by simpa using h
      subst this; exact hb
theorem at_app : ∀ {r : List Nat}, b ∉ r → ab_at b (r ++ [b]) = some r.length := by
  intro r
  induction r with
  | nil => intro _; unfold ab_at; simp
  | cons y r ih =>
    intro h
    have h1 : ¬ y = b := fun e => h (by rw [e]; exact List.mem_cons_self)
    show (if y = b then some 0 else (ab_at b (r ++ [b])).map (· + 1)) = _
    rw [if_neg h1, ih (fun e => h (List.mem_cons_of_mem _ e))]
    rfl
end XU
section C1
variable {S T : mm_S} {G : gb_G} {d b n : Nat} {x y w p t i o j : Int32}
theorem c_3 (ok : gb_ok G) (hR : RC S G) : oC S (d + 1) 76 [.ref 0, .int x, .int y] (.int (op_3 G x y).1) (op_3 G x y).2 := by
  have hw := hR.1
  have hk : gK G ≤ 6 := ok.1.1.1
  rcases kw_c hk x with ⟨e, h⟩ | ⟨b, hb, e, rfl⟩
  · have k := s8n (d := d) ok hR e
    have eo : op_3 G x y = (-1, G) := by unfold op_3; simp only [e]
    rw [eo]
    refine oC_id hR ?_
    by_cases hy : y = -1 <;> simp only [b76_0, b76_5, b76_9, b76_19, b76_22, b76_26, b76_34, b76_37, b76_39, b76_44, b76_47, b76_59, e76, wx_o0 hw, wx_k0 hw, wx_q0 hw, wx_g0_0 hw, wx_s0_0 hw, wx_g0_1 hw, wx_s0_1 hw, wx_g0_2 hw, wx_s0_2 hw, wx_g0_3 hw, wx_s0_3 hw, wx_g0_4 hw, wx_s0_4 hw, wx_N42 hw, wx_a42 hw, wx_K42 hw, wx_g0_5 hw, wx_s0_5 hw, wx_g0_6 hw, wx_s0_6 hw, wx_N75 hw, wx_a75 hw, wx_K75 hw, wx_g0_7 hw, wx_s0_7 hw, wx_N88 hw, wx_a88 hw, wx_g0_8 hw, wx_s0_8 hw, wx_N89 hw, wx_a89 hw, wx_g0_9 hw, wx_s0_9 hw, wx_N90 hw, wx_a90 hw, wx_g0_10 hw, wx_s0_10 hw, wx_N91 hw, wx_a91 hw, wx_o6 hw, wx_k6 hw, wx_q6 hw, wx_g6_0 hw, wx_s6_0 hw, wx_N7 hw, wx_a7 hw, wx_K7 hw, wx_g6_1 hw, wx_s6_1 hw, wx_N8 hw, wx_a8 hw, wx_g6_2 hw, wx_s6_2 hw, wx_N9 hw, wx_a9 hw, wx_g6_3 hw, wx_s6_3 hw, wx_N10 hw, wx_a10 hw, wx_g6_4 hw, wx_s6_4 hw, wx_N11 hw, wx_a11 hw, wx_g6_5 hw, wx_s6_5 hw, wx_N12 hw, wx_a12 hw, wx_g6_6 hw, wx_s6_6 hw, wx_N13 hw, wx_a13 hw, wx_g6_7 hw, wx_s6_7 hw, wx_N14 hw, wx_a14 hw, List.not_mem_nil, false_implies, implies_true, nI_clamp, nI_add, Nat.reducePow, hp_bd, hp_bdi, hp_ts, hp_tn, hp_tsc, hp_tnc, Nat.reduceAdd, Nat.reduceSub, Nat.reduceMul, Nat.reduceLT, Nat.reduceLeDiff, Nat.reduceEqDiff, reduceIte, not_true_eq_false, not_false_eq_true, and_true, true_and, and_self, and_false, false_and, or_true, true_or, or_false, false_or, decide_true, decide_false, Bool.and_true, Bool.true_and, Bool.not_false, Bool.or_false, Bool.false_or, Bool.or_true, Bool.true_or, i01, k, hy]
  · have k := s8s (d := d) ok hR hb
    have cl : (nI b).toNatClampNeg = b := nI_clamp (by omega)
    have hbi : mm_inb (nI b) 6 = true := hp_inb (by omega) (by omega)
    have hg : mm_M S 8 b = cd_fo (ab_fr (gP G) b) := hR.2.1.1.2.2.1 b hb
    have f1 : ∀ k, ab_fr (gP G) b = some k → k < 2 ^ 31 := fun k h => by have := (ok.1.1.2.2.2.2.1 b k hb h).1; have hk : ab_kn (gP G) ≤ 6 := hk; have : k < ab_kn (gP G) := this; omega
    have k108 := fo_108 (d := d) (S := S) f1
    have nb : ¬ (-1 : Int32) = nI b := by
      intro e
      have h1 := congrArg Int32.toInt e
      rw [nI_toInt (by omega)] at h1
      have h2 : (-1 : Int32).toInt = -1 := rfl
      omega
    by_cases hy : y = -1
    · subst hy
      have eo : op_3 G (nI b) (-1) = (md_fo (ab_fr (gP G) b), gX_P G.1 (gP_fr (gP G) b none), G.2) := by unfold op_3; simp only [e, if_true]
      rw [eo]
      refine oC_6 ok hR (T := mm_uM S 8 b (-1)) ?_ (sf_uM (by unfold gc_6; omega)) hw (X_fr hR.2.1 rfl) hR.2.2.1 (sz_s rfl rfl)
      simp only [b76_0, b76_5, b76_9, b76_19, b76_22, b76_26, b76_34, b76_37, b76_39, b76_44, b76_47, b76_59, e76, wx_o0 hw, wx_k0 hw, wx_q0 hw, wx_g0_0 hw, wx_s0_0 hw, wx_g0_1 hw, wx_s0_1 hw, wx_g0_2 hw, wx_s0_2 hw, wx_g0_3 hw, wx_s0_3 hw, wx_g0_4 hw, wx_s0_4 hw, wx_N42 hw, wx_a42 hw, wx_K42 hw, wx_g0_5 hw, wx_s0_5 hw, wx_g0_6 hw, wx_s0_6 hw, wx_N75 hw, wx_a75 hw, wx_K75 hw, wx_g0_7 hw, wx_s0_7 hw, wx_N88 hw, wx_a88 hw, wx_g0_8 hw, wx_s0_8 hw, wx_N89 hw, wx_a89 hw, wx_g0_9 hw, wx_s0_9 hw, wx_N90 hw, wx_a90 hw, wx_g0_10 hw, wx_s0_10 hw, wx_N91 hw, wx_a91 hw, wx_o6 hw, wx_k6 hw, wx_q6 hw, wx_g6_0 hw, wx_s6_0 hw, wx_N7 hw, wx_a7 hw, wx_K7 hw, wx_g6_1 hw, wx_s6_1 hw, wx_N8 hw, wx_a8 hw, wx_g6_2 hw, wx_s6_2 hw, wx_N9 hw, wx_a9 hw, wx_g6_3 hw, wx_s6_3 hw, wx_N10 hw, wx_a10 hw, wx_g6_4 hw, wx_s6_4 hw, wx_N11 hw, wx_a11 hw, wx_g6_5 hw, wx_s6_5 hw, wx_N12 hw, wx_a12 hw, wx_g6_6 hw, wx_s6_6 hw, wx_N13 hw, wx_a13 hw, wx_g6_7 hw, wx_s6_7 hw, wx_N14 hw, wx_a14 hw, List.not_mem_nil, false_implies, implies_true, nI_clamp, nI_add, Nat.reducePow, hp_bd, hp_bdi, hp_ts, hp_tn, hp_tsc, hp_tnc, Nat.reduceAdd, Nat.reduceSub, Nat.reduceMul, Nat.reduceLT, Nat.reduceLeDiff, Nat.reduceEqDiff, reduceIte, not_true_eq_false, not_false_eq_true, and_true, true_and, and_self, and_false, false_and, or_true, true_or, or_false, false_or, decide_true, decide_false, Bool.and_true, Bool.true_and, Bool.not_false, Bool.or_false, Bool.false_or, Bool.or_true, Bool.true_or, i01, k, cl, hbi, hg, k108, nb]
    · rcases kw_c hk y with ⟨ey, hy2⟩ | ⟨q, hq, ey, rfl⟩
      · have k2 := s8n (d := d) ok hR ey
        have eo : op_3 G (nI b) y = (-1, G) := by unfold op_3; simp only [e, ey, hy, if_false]
        rw [eo]
        refine oC_id hR ?_
        simp only [b76_0, b76_5, b76_9, b76_19, b76_22, b76_26, b76_34, b76_37, b76_39, b76_44, b76_47, b76_59, e76, wx_o0 hw, wx_k0 hw, wx_q0 hw, wx_g0_0 hw, wx_s0_0 hw, wx_g0_1 hw, wx_s0_1 hw, wx_g0_2 hw, wx_s0_2 hw, wx_g0_3 hw, wx_s0_3 hw, wx_g0_4 hw, wx_s0_4 hw, wx_N42 hw, wx_a42 hw, wx_K42 hw, wx_g0_5 hw, wx_s0_5 hw, wx_g0_6 hw, wx_s0_6 hw, wx_N75 hw, wx_a75 hw, wx_K75 hw, wx_g0_7 hw, wx_s0_7 hw, wx_N88 hw, wx_a88 hw, wx_g0_8 hw, wx_s0_8 hw, wx_N89 hw, wx_a89 hw, wx_g0_9 hw, wx_s0_9 hw, wx_N90 hw, wx_a90 hw, wx_g0_10 hw, wx_s0_10 hw, wx_N91 hw, wx_a91 hw, wx_o6 hw, wx_k6 hw, wx_q6 hw, wx_g6_0 hw, wx_s6_0 hw, wx_N7 hw, wx_a7 hw, wx_K7 hw, wx_g6_1 hw, wx_s6_1 hw, wx_N8 hw, wx_a8 hw, wx_g6_2 hw, wx_s6_2 hw, wx_N9 hw, wx_a9 hw, wx_g6_3 hw, wx_s6_3 hw, wx_N10 hw, wx_a10 hw, wx_g6_4 hw, wx_s6_4 hw, wx_N11 hw, wx_a11 hw, wx_g6_5 hw, wx_s6_5 hw, wx_N12 hw, wx_a12 hw, wx_g6_6 hw, wx_s6_6 hw, wx_N13 hw, wx_a13 hw, wx_g6_7 hw, wx_s6_7 hw, wx_N14 hw, wx_a14 hw, List.not_mem_nil, false_implies, implies_true, nI_clamp, nI_add, Nat.reducePow, hp_bd, hp_bdi, hp_ts, hp_tn, hp_tsc, hp_tnc, Nat.reduceAdd, Nat.reduceSub, Nat.reduceMul, Nat.reduceLT, Nat.reduceLeDiff, Nat.reduceEqDiff, reduceIte, not_true_eq_false, not_false_eq_true, and_true, true_and, and_self, and_false, false_and, or_true, true_or, or_false, false_or, decide_true, decide_false, Bool.and_true, Bool.true_and, Bool.not_false, Bool.or_false, Bool.false_or, Bool.or_true, Bool.true_or, i01, k, k2, hy]
      · have k2 := s8s (d := d) ok hR hq
        have e2 : (nI q = nI b) = (q = b) := propext (nI_eq (by omega) (by omega))
        have hyb : q = b → ¬ nI b = -1 := fun e => e ▸ hy
        by_cases hqb : q = b
        · have hyb := hyb hqb
          have eo : op_3 G (nI b) (nI q) = (-2, G) := by unfold op_3; simp only [e, ey, hy, hyb, if_false, hqb, if_true]
          rw [eo]
          refine oC_id hR ?_
          simp only [b76_0, b76_5, b76_9, b76_19, b76_22, b76_26, b76_34, b76_37, b76_39, b76_44, b76_47, b76_59, e76, wx_o0 hw, wx_k0 hw, wx_q0 hw, wx_g0_0 hw, wx_s0_0 hw, wx_g0_1 hw, wx_s0_1 hw, wx_g0_2 hw, wx_s0_2 hw, wx_g0_3 hw, wx_s0_3 hw, wx_g0_4 hw, wx_s0_4 hw, wx_N42 hw, wx_a42 hw, wx_K42 hw, wx_g0_5 hw, wx_s0_5 hw, wx_g0_6 hw, wx_s0_6 hw, wx_N75 hw, wx_a75 hw, wx_K75 hw, wx_g0_7 hw, wx_s0_7 hw, wx_N88 hw, wx_a88 hw, wx_g0_8 hw, wx_s0_8 hw, wx_N89 hw, wx_a89 hw, wx_g0_9 hw, wx_s0_9 hw, wx_N90 hw, wx_a90 hw, wx_g0_10 hw, wx_s0_10 hw, wx_N91 hw, wx_a91 hw, wx_o6 hw, wx_k6 hw, wx_q6 hw, wx_g6_0 hw, wx_s6_0 hw, wx_N7 hw, wx_a7 hw, wx_K7 hw, wx_g6_1 hw, wx_s6_1 hw, wx_N8 hw, wx_a8 hw, wx_g6_2 hw, wx_s6_2 hw, wx_N9 hw, wx_a9 hw, wx_g6_3 hw, wx_s6_3 hw, wx_N10 hw, wx_a10 hw, wx_g6_4 hw, wx_s6_4 hw, wx_N11 hw, wx_a11 hw, wx_g6_5 hw, wx_s6_5 hw, wx_N12 hw, wx_a12 hw, wx_g6_6 hw, wx_s6_6 hw, wx_N13 hw, wx_a13 hw, wx_g6_7 hw, wx_s6_7 hw, wx_N14 hw, wx_a14 hw, List.not_mem_nil, false_implies, implies_true, nI_clamp, nI_add, Nat.reducePow, hp_bd, hp_bdi, hp_ts, hp_tn, hp_tsc, hp_tnc, Nat.reduceAdd, Nat.reduceSub, Nat.reduceMul, Nat.reduceLT, Nat.reduceLeDiff, Nat.reduceEqDiff, reduceIte, not_true_eq_false, not_false_eq_true, and_true, true_and, and_self, and_false, false_and, or_true, true_or, or_false, false_or, decide_true, decide_false, Bool.and_true, Bool.true_and, Bool.not_false, Bool.or_false, Bool.false_or, Bool.or_true, Bool.true_or, i01, k, k2, hy, hyb, e2, hqb]
        · have eo : op_3 G (nI b) (nI q) = (md_fo (ab_fr (gP G) b), gX_P G.1 (gP_fr (gP G) b (some q)), G.2) := by unfold op_3; simp only [e, ey, hy, if_false, hqb]
          rw [eo]
          refine oC_6 ok hR (T := mm_uM S 8 b (nI q)) ?_ (sf_uM (by unfold gc_6; omega)) hw (X_fr hR.2.1 rfl) hR.2.2.1 (sz_s rfl rfl)
          simp only [b76_0, b76_5, b76_9, b76_19, b76_22, b76_26, b76_34, b76_37, b76_39, b76_44, b76_47, b76_59, e76, wx_o0 hw, wx_k0 hw, wx_q0 hw, wx_g0_0 hw, wx_s0_0 hw, wx_g0_1 hw, wx_s0_1 hw, wx_g0_2 hw, wx_s0_2 hw, wx_g0_3 hw, wx_s0_3 hw, wx_g0_4 hw, wx_s0_4 hw, wx_N42 hw, wx_a42 hw, wx_K42 hw, wx_g0_5 hw, wx_s0_5 hw, wx_g0_6 hw, wx_s0_6 hw, wx_N75 hw, wx_a75 hw, wx_K75 hw, wx_g0_7 hw, wx_s0_7 hw, wx_N88 hw, wx_a88 hw, wx_g0_8 hw, wx_s0_8 hw, wx_N89 hw, wx_a89 hw, wx_g0_9 hw, wx_s0_9 hw, wx_N90 hw, wx_a90 hw, wx_g0_10 hw, wx_s0_10 hw, wx_N91 hw, wx_a91 hw, wx_o6 hw, wx_k6 hw, wx_q6 hw, wx_g6_0 hw, wx_s6_0 hw, wx_N7 hw, wx_a7 hw, wx_K7 hw, wx_g6_1 hw, wx_s6_1 hw, wx_N8 hw, wx_a8 hw, wx_g6_2 hw, wx_s6_2 hw, wx_N9 hw, wx_a9 hw, wx_g6_3 hw, wx_s6_3 hw, wx_N10 hw, wx_a10 hw, wx_g6_4 hw, wx_s6_4 hw, wx_N11 hw, wx_a11 hw, wx_g6_5 hw, wx_s6_5 hw, wx_N12 hw, wx_a12 hw, wx_g6_6 hw, wx_s6_6 hw, wx_N13 hw, wx_a13 hw, wx_g6_7 hw, wx_s6_7 hw, wx_N14 hw, wx_a14 hw, List.not_mem_nil, false_implies, implies_true, nI_clamp, nI_add, Nat.reducePow, hp_bd, hp_bdi, hp_ts, hp_tn, hp_tsc, hp_tnc, Nat.reduceAdd, Nat.reduceSub, Nat.reduceMul, Nat.reduceLT, Nat.reduceLeDiff, Nat.reduceEqDiff, reduceIte, not_true_eq_false, not_false_eq_true, and_true, true_and, and_self, and_false, false_and, or_true, true_or, or_false, false_or, decide_true, decide_false, Bool.and_true, Bool.true_and, Bool.not_false, Bool.or_false, Bool.false_or, Bool.or_true, Bool.true_or, i01, k, k2, cl, hbi, hg, k108, hy, e2, hqb]
theorem RC_by (ok : gb_ok G) (hR : RC S G) (hb : b < gK G) : ∃ e, mm_R S 7 b = some e ∧ mm_rg S 7 b = e ∧ (mm_R S 7 b).isSome = true ∧ mm_obj S e 0 = true ∧ mm_rk S e = cd_kc (ab_ki (gP G) b) ∧ cd_by S e b (ab_ki (gP G) b) (ab_v (gP G) b) (ab_wo (gP G) b) := by
  obtain ⟨e, he, hy⟩ := hR.2.1.1.2.2.2.2.1 b hb
  have hk := (ok.1.1.2.2.2.1 b hb).1
  exact ⟨e, he, hp_rg he, hp_rs he, by_o hk hy, by_k hk hy, hy⟩
theorem c_4 (ok : gb_ok G) (hR : RC S G) : oC S (d + 1) 77 [.ref 0, .int x, .int p, .int w] (.int (op_4 G x p w).1) (op_4 G x p w).2 := by
  have hw := hR.1
  have hk : gK G ≤ 6 := ok.1.1.1
  rcases kw_c hk x with ⟨e, h⟩ | ⟨b, hb, e, rfl⟩
  · have k := s8n (d := d) ok hR e
    have eo : op_4 G x p w = (-1, G) := by unfold op_4; simp only [e]
    rw [eo]
    refine oC_id hR ?_
    simp only [b77_0, b77_8, b77_11, b77_15, b77_20, b77_22, b77_26, b77_31, b77_34, b77_51, b77_54, e77, wx_o0 hw, wx_k0 hw, wx_q0 hw, wx_g0_0 hw, wx_s0_0 hw, wx_g0_1 hw, wx_s0_1 hw, wx_g0_2 hw, wx_s0_2 hw, wx_g0_3 hw, wx_s0_3 hw, wx_g0_4 hw, wx_s0_4 hw, wx_N42 hw, wx_a42 hw, wx_K42 hw, wx_g0_5 hw, wx_s0_5 hw, wx_g0_6 hw, wx_s0_6 hw, wx_N75 hw, wx_a75 hw, wx_K75 hw, wx_g0_7 hw, wx_s0_7 hw, wx_N88 hw, wx_a88 hw, wx_g0_8 hw, wx_s0_8 hw, wx_N89 hw, wx_a89 hw, wx_g0_9 hw, wx_s0_9 hw, wx_N90 hw, wx_a90 hw, wx_g0_10 hw, wx_s0_10 hw, wx_N91 hw, wx_a91 hw, wx_o6 hw, wx_k6 hw, wx_q6 hw, wx_g6_0 hw, wx_s6_0 hw, wx_N7 hw, wx_a7 hw, wx_K7 hw, wx_g6_1 hw, wx_s6_1 hw, wx_N8 hw, wx_a8 hw, wx_g6_2 hw, wx_s6_2 hw, wx_N9 hw, wx_a9 hw, wx_g6_3 hw, wx_s6_3 hw, wx_N10 hw, wx_a10 hw, wx_g6_4 hw, wx_s6_4 hw, wx_N11 hw, wx_a11 hw, wx_g6_5 hw, wx_s6_5 hw, wx_N12 hw, wx_a12 hw, wx_g6_6 hw, wx_s6_6 hw, wx_N13 hw, wx_a13 hw, wx_g6_7 hw, wx_s6_7 hw, wx_N14 hw, wx_a14 hw, List.not_mem_nil, false_implies, implies_true, nI_clamp, nI_add, Nat.reducePow, hp_bd, hp_bdi, hp_ts, hp_tn, hp_tsc, hp_tnc, Nat.reduceAdd, Nat.reduceSub, Nat.reduceMul, Nat.reduceLT, Nat.reduceLeDiff, Nat.reduceEqDiff, reduceIte, not_true_eq_false, not_false_eq_true, and_true, true_and, and_self, and_false, false_and, or_true, true_or, or_false, false_or, decide_true, decide_false, Bool.and_true, Bool.true_and, Bool.not_false, Bool.or_false, Bool.false_or, Bool.or_true, Bool.true_or, i01, k]
  · have k := s8s (d := d) ok hR hb
    have cl : (nI b).toNatClampNeg = b := nI_clamp (by omega)
    have hbi : mm_inb (nI b) 6 = true := hp_inb (by omega) (by omega)
    obtain ⟨q, hq, rgq, rsq, oq, kq, hy⟩ := RC_by ok hR hb
    have m0 : mm_M S q 0 = nI (ab_ki (gP G) b) := hy.2.2.2.1
    have hk7 := (ok.1.1.2.2.2.1 b hb).1
    have e6 : (nI (ab_ki (gP G) b) = nI 6) = (ab_ki (gP G) b = 6) := propext (nI_eq (by have : ab_ki (gP G) b < 7 := hk7; omega) (by decide))
    rcases kw_d (n := 2) (m := 3) rfl (by decide) p with ⟨ep, a1, a2, a3, a4, a5, a6⟩ | ⟨ep, a1, a2, a3, a4, a5, a6⟩ | ⟨p, hp, ep, rfl, a1, a2, a3, a4, a5, a6⟩
    · have eo : op_4 G (nI b) p w = (-1, G) := by unfold op_4; simp only [e, ep]
      rw [eo]
      refine oC_id hR ?_
      simp only [b77_0, b77_8, b77_11, b77_15, b77_20, b77_22, b77_26, b77_31, b77_34, b77_51, b77_54, e77, wx_o0 hw, wx_k0 hw, wx_q0 hw, wx_g0_0 hw, wx_s0_0 hw, wx_g0_1 hw, wx_s0_1 hw, wx_g0_2 hw, wx_s0_2 hw, wx_g0_3 hw, wx_s0_3 hw, wx_g0_4 hw, wx_s0_4 hw, wx_N42 hw, wx_a42 hw, wx_K42 hw, wx_g0_5 hw, wx_s0_5 hw, wx_g0_6 hw, wx_s0_6 hw, wx_N75 hw, wx_a75 hw, wx_K75 hw, wx_g0_7 hw, wx_s0_7 hw, wx_N88 hw, wx_a88 hw, wx_g0_8 hw, wx_s0_8 hw, wx_N89 hw, wx_a89 hw, wx_g0_9 hw, wx_s0_9 hw, wx_N90 hw, wx_a90 hw, wx_g0_10 hw, wx_s0_10 hw, wx_N91 hw, wx_a91 hw, wx_o6 hw, wx_k6 hw, wx_q6 hw, wx_g6_0 hw, wx_s6_0 hw, wx_N7 hw, wx_a7 hw, wx_K7 hw, wx_g6_1 hw, wx_s6_1 hw, wx_N8 hw, wx_a8 hw, wx_g6_2 hw, wx_s6_2 hw, wx_N9 hw, wx_a9 hw, wx_g6_3 hw, wx_s6_3 hw, wx_N10 hw, wx_a10 hw, wx_g6_4 hw, wx_s6_4 hw, wx_N11 hw, wx_a11 hw, wx_g6_5 hw, wx_s6_5 hw, wx_N12 hw, wx_a12 hw, wx_g6_6 hw, wx_s6_6 hw, wx_N13 hw, wx_a13 hw, wx_g6_7 hw, wx_s6_7 hw, wx_N14 hw, wx_a14 hw, List.not_mem_nil, false_implies, implies_true, nI_clamp, nI_add, Nat.reducePow, hp_bd, hp_bdi, hp_ts, hp_tn, hp_tsc, hp_tnc, Nat.reduceAdd, Nat.reduceSub, Nat.reduceMul, Nat.reduceLT, Nat.reduceLeDiff, Nat.reduceEqDiff, reduceIte, not_true_eq_false, not_false_eq_true, and_true, true_and, and_self, and_false, false_and, or_true, true_or, or_false, false_or, decide_true, decide_false, Bool.and_true, Bool.true_and, Bool.not_false, Bool.or_false, Bool.false_or, Bool.or_true, Bool.true_or, i01, k, a1, a6]
    · have eo : op_4 G (nI b) p w = (-1, G) := by unfold op_4; simp only [e, ep]
      rw [eo]
      refine oC_id hR ?_
      simp only [b77_0, b77_8, b77_11, b77_15, b77_20, b77_22, b77_26, b77_31, b77_34, b77_51, b77_54, e77, wx_o0 hw, wx_k0 hw, wx_q0 hw, wx_g0_0 hw, wx_s0_0 hw, wx_g0_1 hw, wx_s0_1 hw, wx_g0_2 hw, wx_s0_2 hw, wx_g0_3 hw, wx_s0_3 hw, wx_g0_4 hw, wx_s0_4 hw, wx_N42 hw, wx_a42 hw, wx_K42 hw, wx_g0_5 hw, wx_s0_5 hw, wx_g0_6 hw, wx_s0_6 hw, wx_N75 hw, wx_a75 hw, wx_K75 hw, wx_g0_7 hw, wx_s0_7 hw, wx_N88 hw, wx_a88 hw, wx_g0_8 hw, wx_s0_8 hw, wx_N89 hw, wx_a89 hw, wx_g0_9 hw, wx_s0_9 hw, wx_N90 hw, wx_a90 hw, wx_g0_10 hw, wx_s0_10 hw, wx_N91 hw, wx_a91 hw, wx_o6 hw, wx_k6 hw, wx_q6 hw, wx_g6_0 hw, wx_s6_0 hw, wx_N7 hw, wx_a7 hw, wx_K7 hw, wx_g6_1 hw, wx_s6_1 hw, wx_N8 hw, wx_a8 hw, wx_g6_2 hw, wx_s6_2 hw, wx_N9 hw, wx_a9 hw, wx_g6_3 hw, wx_s6_3 hw, wx_N10 hw, wx_a10 hw, wx_g6_4 hw, wx_s6_4 hw, wx_N11 hw, wx_a11 hw, wx_g6_5 hw, wx_s6_5 hw, wx_N12 hw, wx_a12 hw, wx_g6_6 hw, wx_s6_6 hw, wx_N13 hw, wx_a13 hw, wx_g6_7 hw, wx_s6_7 hw, wx_N14 hw, wx_a14 hw, List.not_mem_nil, false_implies, implies_true, nI_clamp, nI_add, Nat.reducePow, hp_bd, hp_bdi, hp_ts, hp_tn, hp_tsc, hp_tnc, Nat.reduceAdd, Nat.reduceSub, Nat.reduceMul, Nat.reduceLT, Nat.reduceLeDiff, Nat.reduceEqDiff, reduceIte, not_true_eq_false, not_false_eq_true, and_true, true_and, and_self, and_false, false_and, or_true, true_or, or_false, false_or, decide_true, decide_false, Bool.and_true, Bool.true_and, Bool.not_false, Bool.or_false, Bool.false_or, Bool.or_true, Bool.true_or, i01, k, a1, a6]
    · rcases kw_d (n := 3) (m := 4) rfl (by decide) w with ⟨ew, c1, c2, c3, c4, c5, c6⟩ | ⟨ew, c1, c2, c3, c4, c5, c6⟩ | ⟨w, hw4, ew, rfl, c1, c2, c3, c4, c5, c6⟩
      · have eo : op_4 G (nI b) (nI p) w = (-2, G) := by unfold op_4; simp only [e, ep, ew]
        rw [eo]
        refine oC_id hR ?_
        simp only [b77_0, b77_8, b77_11, b77_15, b77_20, b77_22, b77_26, b77_31, b77_34, b77_51, b77_54, e77, wx_o0 hw, wx_k0 hw, wx_q0 hw, wx_g0_0 hw, wx_s0_0 hw, wx_g0_1 hw, wx_s0_1 hw, wx_g0_2 hw, wx_s0_2 hw, wx_g0_3 hw, wx_s0_3 hw, wx_g0_4 hw, wx_s0_4 hw, wx_N42 hw, wx_a42 hw, wx_K42 hw, wx_g0_5 hw, wx_s0_5 hw, wx_g0_6 hw, wx_s0_6 hw, wx_N75 hw, wx_a75 hw, wx_K75 hw, wx_g0_7 hw, wx_s0_7 hw, wx_N88 hw, wx_a88 hw, wx_g0_8 hw, wx_s0_8 hw, wx_N89 hw, wx_a89 hw, wx_g0_9 hw, wx_s0_9 hw, wx_N90 hw, wx_a90 hw, wx_g0_10 hw, wx_s0_10 hw, wx_N91 hw, wx_a91 hw, wx_o6 hw, wx_k6 hw, wx_q6 hw, wx_g6_0 hw, wx_s6_0 hw, wx_N7 hw, wx_a7 hw, wx_K7 hw, wx_g6_1 hw, wx_s6_1 hw, wx_N8 hw, wx_a8 hw, wx_g6_2 hw, wx_s6_2 hw, wx_N9 hw, wx_a9 hw, wx_g6_3 hw, wx_s6_3 hw, wx_N10 hw, wx_a10 hw, wx_g6_4 hw, wx_s6_4 hw, wx_N11 hw, wx_a11 hw, wx_g6_5 hw, wx_s6_5 hw, wx_N12 hw, wx_a12 hw, wx_g6_6 hw, wx_s6_6 hw, wx_N13 hw, wx_a13 hw, wx_g6_7 hw, wx_s6_7 hw, wx_N14 hw, wx_a14 hw, List.not_mem_nil, false_implies, implies_true, nI_clamp, nI_add, Nat.reducePow, hp_bd, hp_bdi, hp_ts, hp_tn, hp_tsc, hp_tnc, Nat.reduceAdd, Nat.reduceSub, Nat.reduceMul, Nat.reduceLT, Nat.reduceLeDiff, Nat.reduceEqDiff, reduceIte, not_true_eq_false, not_false_eq_true, and_true, true_and, and_self, and_false, false_and, or_true, true_or, or_false, false_or, decide_true, decide_false, Bool.and_true, Bool.true_and, Bool.not_false, Bool.or_false, Bool.false_or, Bool.or_true, Bool.true_or, i01, k, a1, a6, c1, c4]
      · have eo : op_4 G (nI b) (nI p) w = (-2, G) := by unfold op_4; simp only [e, ep, ew]
        rw [eo]
        refine oC_id hR ?_
        simp only [b77_0, b77_8, b77_11, b77_15, b77_20, b77_22, b77_26, b77_31, b77_34, b77_51, b77_54, e77, wx_o0 hw, wx_k0 hw, wx_q0 hw, wx_g0_0 hw, wx_s0_0 hw, wx_g0_1 hw, wx_s0_1 hw, wx_g0_2 hw, wx_s0_2 hw, wx_g0_3 hw, wx_s0_3 hw, wx_g0_4 hw, wx_s0_4 hw, wx_N42 hw, wx_a42 hw, wx_K42 hw, wx_g0_5 hw, wx_s0_5 hw, wx_g0_6 hw, wx_s0_6 hw, wx_N75 hw, wx_a75 hw, wx_K75 hw, wx_g0_7 hw, wx_s0_7 hw, wx_N88 hw, wx_a88 hw, wx_g0_8 hw, wx_s0_8 hw, wx_N89 hw, wx_a89 hw, wx_g0_9 hw, wx_s0_9 hw, wx_N90 hw, wx_a90 hw, wx_g0_10 hw, wx_s0_10 hw, wx_N91 hw, wx_a91 hw, wx_o6 hw, wx_k6 hw, wx_q6 hw, wx_g6_0 hw, wx_s6_0 hw, wx_N7 hw, wx_a7 hw, wx_K7 hw, wx_g6_1 hw, wx_s6_1 hw, wx_N8 hw, wx_a8 hw, wx_g6_2 hw, wx_s6_2 hw, wx_N9 hw, wx_a9 hw, wx_g6_3 hw, wx_s6_3 hw, wx_N10 hw, wx_a10 hw, wx_g6_4 hw, wx_s6_4 hw, wx_N11 hw, wx_a11 hw, wx_g6_5 hw, wx_s6_5 hw, wx_N12 hw, wx_a12 hw, wx_g6_6 hw, wx_s6_6 hw, wx_N13 hw, wx_a13 hw, wx_g6_7 hw, wx_s6_7 hw, wx_N14 hw, wx_a14 hw, List.not_mem_nil, false_implies, implies_true, nI_clamp, nI_add, Nat.reducePow, hp_bd, hp_bdi, hp_ts, hp_tn, hp_tsc, hp_tnc, Nat.reduceAdd, Nat.reduceSub, Nat.reduceMul, Nat.reduceLT, Nat.reduceLeDiff, Nat.reduceEqDiff, reduceIte, not_true_eq_false, not_false_eq_true, and_true, true_and, and_self, and_false, false_and, or_true, true_or, or_false, false_or, decide_true, decide_false, Bool.and_true, Bool.true_and, Bool.not_false, Bool.or_false, Bool.false_or, Bool.or_true, Bool.true_or, i01, k, a1, a6, c1, c4]
      · by_cases h6 : ab_ki (gP G) b = 6
        · have eo : op_4 G (nI b) (nI p) (nI w) = (nI (ab_te (gP G) (3 * b + p)), gX_P G.1 (gP_te (gP G) (3 * b + p) w), G.2) := by unfold op_4; simp only [e, ep, ew, h6, if_true]
          have cl2 : (nI (b * 3 + p)).toNatClampNeg = 3 * b + p := by rw [nI_clamp (by omega)]; omega
          have hbi2 : mm_inb (nI (b * 3 + p)) 18 = true := hp_inb (by omega) (by omega)
          have hg : mm_M S 9 (3 * b + p) = nI (ab_te (gP G) (3 * b + p)) := hR.2.1.1.2.2.2.1 _ (by have hb : b < ab_kn (gx_P (gb_x G)) := hb; omega)
          rw [eo]
          refine oC_6 ok hR (T := mm_uM S 9 (3 * b + p) (nI w)) ?_ (sf_uM (by unfold gc_6; omega)) hw (X_te hR.2.1 rfl) hR.2.2.1 (sz_s rfl rfl)
          simp only [b77_0, b77_8, b77_11, b77_15, b77_20, b77_22, b77_26, b77_31, b77_34, b77_51, b77_54, e77, wx_o0 hw, wx_k0 hw, wx_q0 hw, wx_g0_0 hw, wx_s0_0 hw, wx_g0_1 hw, wx_s0_1 hw, wx_g0_2 hw, wx_s0_2 hw, wx_g0_3 hw, wx_s0_3 hw, wx_g0_4 hw, wx_s0_4 hw, wx_N42 hw, wx_a42 hw, wx_K42 hw, wx_g0_5 hw, wx_s0_5 hw, wx_g0_6 hw, wx_s0_6 hw, wx_N75 hw, wx_a75 hw, wx_K75 hw, wx_g0_7 hw, wx_s0_7 hw, wx_N88 hw, wx_a88 hw, wx_g0_8 hw, wx_s0_8 hw, wx_N89 hw, wx_a89 hw, wx_g0_9 hw, wx_s0_9 hw, wx_N90 hw, wx_a90 hw, wx_g0_10 hw, wx_s0_10 hw, wx_N91 hw, wx_a91 hw, wx_o6 hw, wx_k6 hw, wx_q6 hw, wx_g6_0 hw, wx_s6_0 hw, wx_N7 hw, wx_a7 hw, wx_K7 hw, wx_g6_1 hw, wx_s6_1 hw, wx_N8 hw, wx_a8 hw, wx_g6_2 hw, wx_s6_2 hw, wx_N9 hw, wx_a9 hw, wx_g6_3 hw, wx_s6_3 hw, wx_N10 hw, wx_a10 hw, wx_g6_4 hw, wx_s6_4 hw, wx_N11 hw, wx_a11 hw, wx_g6_5 hw, wx_s6_5 hw, wx_N12 hw, wx_a12 hw, wx_g6_6 hw, wx_s6_6 hw, wx_N13 hw, wx_a13 hw, wx_g6_7 hw, wx_s6_7 hw, wx_N14 hw, wx_a14 hw, List.not_mem_nil, false_implies, implies_true, nI_clamp, nI_add, Nat.reducePow, hp_bd, hp_bdi, hp_ts, hp_tn, hp_tsc, hp_tnc, Nat.reduceAdd, Nat.reduceSub, Nat.reduceMul, Nat.reduceLT, Nat.reduceLeDiff, Nat.reduceEqDiff, reduceIte, not_true_eq_false, not_false_eq_true, and_true, true_and, and_self, and_false, false_and, or_true, true_or, or_false, false_or, decide_true, decide_false, Bool.and_true, Bool.true_and, Bool.not_false, Bool.or_false, Bool.false_or, Bool.or_true, Bool.true_or, i01, k, a1, a6, c1, c4, cl, hbi, rgq, rsq, oq, m0, h6, nI_mul, cl2, hbi2, hg]
        · have eo : op_4 G (nI b) (nI p) (nI w) = (-3, G) := by unfold op_4; simp only [e, ep, ew, h6, if_false]
          rw [eo]
          refine oC_id hR ?_
          simp only [b77_0, b77_8, b77_11, b77_15, b77_20, b77_22, b77_26, b77_31, b77_34, b77_51, b77_54, e77, wx_o0 hw, wx_k0 hw, wx_q0 hw, wx_g0_0 hw, wx_s0_0 hw, wx_g0_1 hw, wx_s0_1 hw, wx_g0_2 hw, wx_s0_2 hw, wx_g0_3 hw, wx_s0_3 hw, wx_g0_4 hw, wx_s0_4 hw, wx_N42 hw, wx_a42 hw, wx_K42 hw, wx_g0_5 hw, wx_s0_5 hw, wx_g0_6 hw, wx_s0_6 hw, wx_N75 hw, wx_a75 hw, wx_K75 hw, wx_g0_7 hw, wx_s0_7 hw, wx_N88 hw, wx_a88 hw, wx_g0_8 hw, wx_s0_8 hw, wx_N89 hw, wx_a89 hw, wx_g0_9 hw, wx_s0_9 hw, wx_N90 hw, wx_a90 hw, wx_g0_10 hw, wx_s0_10 hw, wx_N91 hw, wx_a91 hw, wx_o6 hw, wx_k6 hw, wx_q6 hw, wx_g6_0 hw, wx_s6_0 hw, wx_N7 hw, wx_a7 hw, wx_K7 hw, wx_g6_1 hw, wx_s6_1 hw, wx_N8 hw, wx_a8 hw, wx_g6_2 hw, wx_s6_2 hw, wx_N9 hw, wx_a9 hw, wx_g6_3 hw, wx_s6_3 hw, wx_N10 hw, wx_a10 hw, wx_g6_4 hw, wx_s6_4 hw, wx_N11 hw, wx_a11 hw, wx_g6_5 hw, wx_s6_5 hw, wx_N12 hw, wx_a12 hw, wx_g6_6 hw, wx_s6_6 hw, wx_N13 hw, wx_a13 hw, wx_g6_7 hw, wx_s6_7 hw, wx_N14 hw, wx_a14 hw, List.not_mem_nil, false_implies, implies_true, nI_clamp, nI_add, Nat.reducePow, hp_bd, hp_bdi, hp_ts, hp_tn, hp_tsc, hp_tnc, Nat.reduceAdd, Nat.reduceSub, Nat.reduceMul, Nat.reduceLT, Nat.reduceLeDiff, Nat.reduceEqDiff, reduceIte, not_true_eq_false, not_false_eq_true, and_true, true_and, and_self, and_false, false_and, or_true, true_or, or_false, false_or, decide_true, decide_false, Bool.and_true, Bool.true_and, Bool.not_false, Bool.or_false, Bool.false_or, Bool.or_true, Bool.true_or, i01, k, a1, a6, c1, c4, cl, hbi, rgq, rsq, oq, m0, e6, h6]
theorem c_5 (ok : gb_ok G) (hR : RC S G) : oC S (d + 1) 78 [.ref 0, .int x] (.int (op_5 G x).1) (op_5 G x).2 := by
  have hw := hR.1
  have hk : gK G ≤ 6 := ok.1.1.1
  have hA := RC_A ok hR
  rcases kw_c hk x with ⟨e, h⟩ | ⟨b, hb, e, rfl⟩
  · have k := s8n (d := d) ok hR e
    have eo : op_5 G x = (-1, G) := by unfold op_5; simp only [e]
    rw [eo]
    refine oC_id hR ?_
    simp only [b78_0, b78_8, b78_11, b78_13, b78_21, b78_24, b78_27, b78_35, b78_43, e78, wx_o0 hw, wx_k0 hw, wx_q0 hw, wx_g0_0 hw, wx_s0_0 hw, wx_g0_1 hw, wx_s0_1 hw, wx_g0_2 hw, wx_s0_2 hw, wx_g0_3 hw, wx_s0_3 hw, wx_g0_4 hw, wx_s0_4 hw, wx_N42 hw, wx_a42 hw, wx_K42 hw, wx_g0_5 hw, wx_s0_5 hw, wx_g0_6 hw, wx_s0_6 hw, wx_N75 hw, wx_a75 hw, wx_K75 hw, wx_g0_7 hw, wx_s0_7 hw, wx_N88 hw, wx_a88 hw, wx_g0_8 hw, wx_s0_8 hw, wx_N89 hw, wx_a89 hw, wx_g0_9 hw, wx_s0_9 hw, wx_N90 hw, wx_a90 hw, wx_g0_10 hw, wx_s0_10 hw, wx_N91 hw, wx_a91 hw, wx_o6 hw, wx_k6 hw, wx_q6 hw, wx_g6_0 hw, wx_s6_0 hw, wx_N7 hw, wx_a7 hw, wx_K7 hw, wx_g6_1 hw, wx_s6_1 hw, wx_N8 hw, wx_a8 hw, wx_g6_2 hw, wx_s6_2 hw, wx_N9 hw, wx_a9 hw, wx_g6_3 hw, wx_s6_3 hw, wx_N10 hw, wx_a10 hw, wx_g6_4 hw, wx_s6_4 hw, wx_N11 hw, wx_a11 hw, wx_g6_5 hw, wx_s6_5 hw, wx_N12 hw, wx_a12 hw, wx_g6_6 hw, wx_s6_6 hw, wx_N13 hw, wx_a13 hw, wx_g6_7 hw, wx_s6_7 hw, wx_N14 hw, wx_a14 hw, List.not_mem_nil, false_implies, implies_true, nI_clamp, nI_add, Nat.reducePow, hp_bd, hp_bdi, hp_ts, hp_tn, hp_tsc, hp_tnc, Nat.reduceAdd, Nat.reduceSub, Nat.reduceMul, Nat.reduceLT, Nat.reduceLeDiff, Nat.reduceEqDiff, reduceIte, not_true_eq_false, not_false_eq_true, and_true, true_and, and_self, and_false, false_and, or_true, true_or, or_false, false_or, decide_true, decide_false, Bool.and_true, Bool.true_and, Bool.not_false, Bool.or_false, Bool.false_or, Bool.or_true, Bool.true_or, i01, k]
  · have k := s8s (d := d) ok hR hb
    have k12 := s12b (d := d) hA hb
    have hl := row_le hA.2.2.2.2.1 hA.2.2.2.2.2
    have f2 : ∀ k, ab_at b (ab_row (gD G)) = some k → k < 2 ^ 31 := fun k h => by have := at_lt hl h; omega
    by_cases hm : b ∈ ab_row (gD G)
    · have eo : op_5 G (nI b) = (-3, G) := by unfold op_5; simp only [e, hm, if_true]
      have hn : ¬ (cd_fo (ab_at b (ab_row (gD G))) < nI 0) := by rw [fo_neg f2, at_none]; exact fun h => h hm
      rw [eo]
      refine oC_id hR ?_
      simp only [b78_0, b78_8, b78_11, b78_13, b78_21, b78_24, b78_27, b78_35, b78_43, e78, wx_o0 hw, wx_k0 hw, wx_q0 hw, wx_g0_0 hw, wx_s0_0 hw, wx_g0_1 hw, wx_s0_1 hw, wx_g0_2 hw, wx_s0_2 hw, wx_g0_3 hw, wx_s0_3 hw, wx_g0_4 hw, wx_s0_4 hw, wx_N42 hw, wx_a42 hw, wx_K42 hw, wx_g0_5 hw, wx_s0_5 hw, wx_g0_6 hw, wx_s0_6 hw, wx_N75 hw, wx_a75 hw, wx_K75 hw, wx_g0_7 hw, wx_s0_7 hw, wx_N88 hw, wx_a88 hw, wx_g0_8 hw, wx_s0_8 hw, wx_N89 hw, wx_a89 hw, wx_g0_9 hw, wx_s0_9 hw, wx_N90 hw, wx_a90 hw, wx_g0_10 hw, wx_s0_10 hw, wx_N91 hw, wx_a91 hw, wx_o6 hw, wx_k6 hw, wx_q6 hw, wx_g6_0 hw, wx_s6_0 hw, wx_N7 hw, wx_a7 hw, wx_K7 hw, wx_g6_1 hw, wx_s6_1 hw, wx_N8 hw, wx_a8 hw, wx_g6_2 hw, wx_s6_2 hw, wx_N9 hw, wx_a9 hw, wx_g6_3 hw, wx_s6_3 hw, wx_N10 hw, wx_a10 hw, wx_g6_4 hw, wx_s6_4 hw, wx_N11 hw, wx_a11 hw, wx_g6_5 hw, wx_s6_5 hw, wx_N12 hw, wx_a12 hw, wx_g6_6 hw, wx_s6_6 hw, wx_N13 hw, wx_a13 hw, wx_g6_7 hw, wx_s6_7 hw, wx_N14 hw, wx_a14 hw, List.not_mem_nil, false_implies, implies_true, nI_clamp, nI_add, Nat.reducePow, hp_bd, hp_bdi, hp_ts, hp_tn, hp_tsc, hp_tnc, Nat.reduceAdd, Nat.reduceSub, Nat.reduceMul, Nat.reduceLT, Nat.reduceLeDiff, Nat.reduceEqDiff, reduceIte, not_true_eq_false, not_false_eq_true, and_true, true_and, and_self, and_false, false_and, or_true, true_or, or_false, false_or, decide_true, decide_false, Bool.and_true, Bool.true_and, Bool.not_false, Bool.or_false, Bool.false_or, Bool.or_true, Bool.true_or, i01, k, k12, hn]
    · have eo : op_5 G (nI b) = (nI (ab_row (gD G)).length, gX_D G.1 (gD_row (gD G) (ab_row (gD G) ++ [b])), G.2) := by unfold op_5; simp only [e, hm, if_false]
      have hn : cd_fo (ab_at b (ab_row (gD G))) < nI 0 := by rw [fo_neg f2, at_none]; exact hm
      have oD := okD_back ok hb hm
      have hl2 : (ab_row (gD G)).length + 1 ≤ 6 := by
        have := row_le ok.1.1 oD
        have e2 : ab_row (gD_row (gD G) (ab_row (gD G) ++ [b])) = ab_row (gD G) ++ [b] := rfl
        rw [e2, List.length_append] at this
        exact this
      have k13 := s13 (d := d) (x := nI b) hw dy6 hA.2.2.2.1.1 (by omega)
      have fT : sf_f (fun c j => c = 12 ∨ (c = 6 ∧ j = 11)) S (mm_uM (mm_uM S (6 + 6) (ab_row (gD G)).length (nI b)) 6 11 (nI ((ab_row (gD G)).length + 1))) := sf_tr (sf_uM (Or.inl rfl)) (sf_uM (Or.inr ⟨rfl, rfl⟩))
      have wT : mm_W (mm_uM (mm_uM S (6 + 6) (ab_row (gD G)).length (nI b)) 6 11 (nI ((ab_row (gD G)).length + 1))) := hw
      have DT : cd_D (mm_uM (mm_uM S (6 + 6) (ab_row (gD G)).length (nI b)) 6 11 (nI ((ab_row (gD G)).length + 1))) 6 (gK G) (gD_row (gD G) (ab_row (gD G) ++ [b])) := by
        obtain ⟨h1, h2, h3, h4, h5, h6, h7, h8⟩ := hR.2.1.2.1
        refine ⟨?_, fun p hp => ?_, fun b hb => (rdn (by omega)).trans ((rdn (by omega)).trans (h3 b hb)), fun b hb => (rdn (by omega)).trans ((rdn (by omega)).trans (h4 b hb)), (rdn (by omega)).trans ((rdn (by omega)).trans h5), (rdn (by omega)).trans ((rdn (by omega)).trans h6), (rdn (by omega)).trans ((rdn (by omega)).trans h7), (rdn (by omega)).trans ((rdn (by omega)).trans h8)⟩
        · rw [rds]
          show _ = nI (ab_row (gD G) ++ [b]).length
          rw [List.length_append]; rfl
        · have hp : p < (ab_row (gD G) ++ [b]).length := hp
          rw [List.length_append] at hp
          rw [rdn (by omega), rdk]
          show _ = nI ((ab_row (gD G) ++ [b]).getD p 0)
          by_cases e : p = (ab_row (gD G)).length
          · rw [if_pos e, e, List.getD_eq_getElem?_getD, List.getElem?_append_right (Nat.le_refl _), Nat.sub_self]; rfl
          · have hp2 : p < (ab_row (gD G)).length := by
              have : [b].length = 1 := rfl
              omega
            rw [if_neg e, List.getD_eq_getElem?_getD, List.getElem?_append_left hp2, ← List.getD_eq_getElem?_getD]
            exact h2 p hp2
      have XT := X_D (X := gb_x G) fT (fun c j (h : c = 12 ∨ (c = 6 ∧ j = 11)) => by omega) hR.2.1 DT
      have AT : cd_A (mm_uM (mm_uM S (6 + 6) (ab_row (gD G)).length (nI b)) 6 11 (nI ((ab_row (gD G)).length + 1))) 6 (gP G) (gD_row (gD G) (ab_row (gD G) ++ [b])) := ⟨wT, dy6, XT.1, DT, ok.1.1, oD⟩
      have k12T := s12b (d := d) AT hb
      have ea : ab_at b (ab_row (gD_row (gD G) (ab_row (gD G) ++ [b]))) = some (ab_row (gD G)).length := at_app hm
      rw [ea] at k12T
      rw [eo]
      refine oC_6 ok hR ?_ (sf_mo fT (fun c j (h : c = 12 ∨ (c = 6 ∧ j = 11)) => by unfold gc_6; omega)) wT XT hR.2.2.1 (sz_s rfl rfl)
      rw [e78, b78_0 (wx_o0 hw) (wx_s0_0 hw) (by rw [wx_g0_0 hw]; exact wx_k6 hw), wx_g0_0 hw, k, hp_bd, hp_ts, b78_8, if_neg i01, b78_13 (wx_o0 hw) (wx_s0_0 hw) (by rw [wx_g0_0 hw]; exact wx_k6 hw), wx_g0_0 hw, k12, hp_bd, hp_ts, b78_21, if_pos hn, b78_27 (wx_o0 hw) (wx_s0_0 hw) (by rw [wx_g0_0 hw]; exact wx_k6 hw), wx_g0_0 hw, k13, hp_bd, hp_tn, b78_35 (wx_o0 wT) (wx_s0_0 wT) (by rw [wx_g0_0 wT]; exact wx_k6 wT), wx_g0_0 wT, k12T, hp_bd, hp_ts, b78_43]
      rfl
theorem c_6 (ok : gb_ok G) (hR : RC S G) : oC S d 79 [.ref 0, .int x, .int y] (.int (op_6 G x y).1) (op_6 G x y).2 := by
  have hw := hR.1
  have h12 : mm_M S 6 12 = nI (ab_pr (gD G)) := hR.2.1.2.1.2.2.2.2.1
  have h13 : mm_M S 6 13 = nI (ab_lo (gD G)) := hR.2.1.2.1.2.2.2.2.2.1
  by_cases x0 : x = nI 0
  · subst x0
    rcases kw_d (n := 999) (m := 1000) rfl (by decide) y with ⟨ep, a1, a2, a3, a4, a5, a6⟩ | ⟨ep, a1, a2, a3, a4, a5, a6⟩ | ⟨n, hp, ep, rfl, a1, a2, a3, a4, a5, a6⟩
    · have eo : op_6 G (nI 0) y = (-2, G) := by unfold op_6; simp only [ep, if_true]
      rw [eo]
      refine oC_id hR ?_
      simp only [b79_0, b79_4, b79_9, b79_11, b79_15, b79_20, b79_26, b79_31, b79_34, b79_38, b79_57, e79, wx_o0 hw, wx_k0 hw, wx_q0 hw, wx_g0_0 hw, wx_s0_0 hw, wx_g0_1 hw, wx_s0_1 hw, wx_g0_2 hw, wx_s0_2 hw, wx_g0_3 hw, wx_s0_3 hw, wx_g0_4 hw, wx_s0_4 hw, wx_N42 hw, wx_a42 hw, wx_K42 hw, wx_g0_5 hw, wx_s0_5 hw, wx_g0_6 hw, wx_s0_6 hw, wx_N75 hw, wx_a75 hw, wx_K75 hw, wx_g0_7 hw, wx_s0_7 hw, wx_N88 hw, wx_a88 hw, wx_g0_8 hw, wx_s0_8 hw, wx_N89 hw, wx_a89 hw, wx_g0_9 hw, wx_s0_9 hw, wx_N90 hw, wx_a90 hw, wx_g0_10 hw, wx_s0_10 hw, wx_N91 hw, wx_a91 hw, wx_o6 hw, wx_k6 hw, wx_q6 hw, wx_g6_0 hw, wx_s6_0 hw, wx_N7 hw, wx_a7 hw, wx_K7 hw, wx_g6_1 hw, wx_s6_1 hw, wx_N8 hw, wx_a8 hw, wx_g6_2 hw, wx_s6_2 hw, wx_N9 hw, wx_a9 hw, wx_g6_3 hw, wx_s6_3 hw, wx_N10 hw, wx_a10 hw, wx_g6_4 hw, wx_s6_4 hw, wx_N11 hw, wx_a11 hw, wx_g6_5 hw, wx_s6_5 hw, wx_N12 hw, wx_a12 hw, wx_g6_6 hw, wx_s6_6 hw, wx_N13 hw, wx_a13 hw, wx_g6_7 hw, wx_s6_7 hw, wx_N14 hw, wx_a14 hw, List.not_mem_nil, false_implies, implies_true, nI_clamp, nI_add, Nat.reducePow, hp_bd, hp_bdi, hp_ts, hp_tn, hp_tsc, hp_tnc, Nat.reduceAdd, Nat.reduceSub, Nat.reduceMul, Nat.reduceLT, Nat.reduceLeDiff, Nat.reduceEqDiff, reduceIte, not_true_eq_false, not_false_eq_true, and_true, true_and, and_self, and_false, false_and, or_true, true_or, or_false, false_or, decide_true, decide_false, Bool.and_true, Bool.true_and, Bool.not_false, Bool.or_false, Bool.false_or, Bool.or_true, Bool.true_or, a1, a4]
    · have eo : op_6 G (nI 0) y = (-2, G) := by unfold op_6; simp only [ep, if_true]
      rw [eo]
      refine oC_id hR ?_
      simp only [b79_0, b79_4, b79_9, b79_11, b79_15, b79_20, b79_26, b79_31, b79_34, b79_38, b79_57, e79, wx_o0 hw, wx_k0 hw, wx_q0 hw, wx_g0_0 hw, wx_s0_0 hw, wx_g0_1 hw, wx_s0_1 hw, wx_g0_2 hw, wx_s0_2 hw, wx_g0_3 hw, wx_s0_3 hw, wx_g0_4 hw, wx_s0_4 hw, wx_N42 hw, wx_a42 hw, wx_K42 hw, wx_g0_5 hw, wx_s0_5 hw, wx_g0_6 hw, wx_s0_6 hw, wx_N75 hw, wx_a75 hw, wx_K75 hw, wx_g0_7 hw, wx_s0_7 hw, wx_N88 hw, wx_a88 hw, wx_g0_8 hw, wx_s0_8 hw, wx_N89 hw, wx_a89 hw, wx_g0_9 hw, wx_s0_9 hw, wx_N90 hw, wx_a90 hw, wx_g0_10 hw, wx_s0_10 hw, wx_N91 hw, wx_a91 hw, wx_o6 hw, wx_k6 hw, wx_q6 hw, wx_g6_0 hw, wx_s6_0 hw, wx_N7 hw, wx_a7 hw, wx_K7 hw, wx_g6_1 hw, wx_s6_1 hw, wx_N8 hw, wx_a8 hw, wx_g6_2 hw, wx_s6_2 hw, wx_N9 hw, wx_a9 hw, wx_g6_3 hw, wx_s6_3 hw, wx_N10 hw, wx_a10 hw, wx_g6_4 hw, wx_s6_4 hw, wx_N11 hw, wx_a11 hw, wx_g6_5 hw, wx_s6_5 hw, wx_N12 hw, wx_a12 hw, wx_g6_6 hw, wx_s6_6 hw, wx_N13 hw, wx_a13 hw, wx_g6_7 hw, wx_s6_7 hw, wx_N14 hw, wx_a14 hw, List.not_mem_nil, false_implies, implies_true, nI_clamp, nI_add, Nat.reducePow, hp_bd, hp_bdi, hp_ts, hp_tn, hp_tsc, hp_tnc, Nat.reduceAdd, Nat.reduceSub, Nat.reduceMul, Nat.reduceLT, Nat.reduceLeDiff, Nat.reduceEqDiff, reduceIte, not_true_eq_false, not_false_eq_true, and_true, true_and, and_self, and_false, false_and, or_true, true_or, or_false, false_or, decide_true, decide_false, Bool.and_true, Bool.true_and, Bool.not_false, Bool.or_false, Bool.false_or, Bool.or_true, Bool.true_or, a1, a4]
    · have eo : op_6 G (nI 0) (nI n) = (nI (ab_pr (gD G)), gX_D G.1 (gD_pr (gD G) n), G.2) := by unfold op_6; simp only [ep, if_true]
      rw [eo]
      have fT : sf_f (fun c j => c = 6 ∧ j = 12) S (mm_uM S 6 12 (nI n)) := sf_uM ⟨rfl, rfl⟩
      have DT : cd_D (mm_uM S 6 12 (nI n)) 6 (gK G) (gD_pr (gD G) n) := by
        obtain ⟨h1, h2, h3, h4, h5, h6, h7, h8⟩ := hR.2.1.2.1
        exact ⟨(rdn (by omega)).trans h1, fun p hp => (rdn (by omega)).trans (h2 p hp), fun p hp => (rdn (by omega)).trans (h3 p hp), fun p hp => (rdn (by omega)).trans (h4 p hp), rds, (rdn (by omega)).trans h6, (rdn (by omega)).trans h7, (rdn (by omega)).trans h8⟩
      refine oC_6 ok hR (T := mm_uM S 6 12 (nI n)) ?_ (sf_uM (by unfold gc_6; omega)) hw (X_D fT (fun c j (h : c = 6 ∧ j = 12) => by omega) hR.2.1 DT) hR.2.2.1 (sz_s rfl rfl)
      simp only [b79_0, b79_4, b79_9, b79_11, b79_15, b79_20, b79_26, b79_31, b79_34, b79_38, b79_57, e79, wx_o0 hw, wx_k0 hw, wx_q0 hw, wx_g0_0 hw, wx_s0_0 hw, wx_g0_1 hw, wx_s0_1 hw, wx_g0_2 hw, wx_s0_2 hw, wx_g0_3 hw, wx_s0_3 hw, wx_g0_4 hw, wx_s0_4 hw, wx_N42 hw, wx_a42 hw, wx_K42 hw, wx_g0_5 hw, wx_s0_5 hw, wx_g0_6 hw, wx_s0_6 hw, wx_N75 hw, wx_a75 hw, wx_K75 hw, wx_g0_7 hw, wx_s0_7 hw, wx_N88 hw, wx_a88 hw, wx_g0_8 hw, wx_s0_8 hw, wx_N89 hw, wx_a89 hw, wx_g0_9 hw, wx_s0_9 hw, wx_N90 hw, wx_a90 hw, wx_g0_10 hw, wx_s0_10 hw, wx_N91 hw, wx_a91 hw, wx_o6 hw, wx_k6 hw, wx_q6 hw, wx_g6_0 hw, wx_s6_0 hw, wx_N7 hw, wx_a7 hw, wx_K7 hw, wx_g6_1 hw, wx_s6_1 hw, wx_N8 hw, wx_a8 hw, wx_g6_2 hw, wx_s6_2 hw, wx_N9 hw, wx_a9 hw, wx_g6_3 hw, wx_s6_3 hw, wx_N10 hw, wx_a10 hw, wx_g6_4 hw, wx_s6_4 hw, wx_N11 hw, wx_a11 hw, wx_g6_5 hw, wx_s6_5 hw, wx_N12 hw, wx_a12 hw, wx_g6_6 hw, wx_s6_6 hw, wx_N13 hw, wx_a13 hw, wx_g6_7 hw, wx_s6_7 hw, wx_N14 hw, wx_a14 hw, List.not_mem_nil, false_implies, implies_true, nI_clamp, nI_add, Nat.reducePow, hp_bd, hp_bdi, hp_ts, hp_tn, hp_tsc, hp_tnc, Nat.reduceAdd, Nat.reduceSub, Nat.reduceMul, Nat.reduceLT, Nat.reduceLeDiff, Nat.reduceEqDiff, reduceIte, not_true_eq_false, not_false_eq_true, and_true, true_and, and_self, and_false, false_and, or_true, true_or, or_false, false_or, decide_true, decide_false, Bool.and_true, Bool.true_and, Bool.not_false, Bool.or_false, Bool.false_or, Bool.or_true, Bool.true_or, a1, a4, h12]
  · by_cases x1 : x = nI 1
    · subst x1
      rcases kw_d (n := 9) (m := 10) rfl (by decide) y with ⟨ep, a1, a2, a3, a4, a5, a6⟩ | ⟨ep, a1, a2, a3, a4, a5, a6⟩ | ⟨n, hp, ep, rfl, a1, a2, a3, a4, a5, a6⟩
      · have eo : op_6 G (nI 1) y = (-2, G) := by unfold op_6; simp only [ep, i01, if_true, if_false]
        rw [eo]
        refine oC_id hR ?_
        simp only [b79_0, b79_4, b79_9, b79_11, b79_15, b79_20, b79_26, b79_31, b79_34, b79_38, b79_57, e79, wx_o0 hw, wx_k0 hw, wx_q0 hw, wx_g0_0 hw, wx_s0_0 hw, wx_g0_1 hw, wx_s0_1 hw, wx_g0_2 hw, wx_s0_2 hw, wx_g0_3 hw, wx_s0_3 hw, wx_g0_4 hw, wx_s0_4 hw, wx_N42 hw, wx_a42 hw, wx_K42 hw, wx_g0_5 hw, wx_s0_5 hw, wx_g0_6 hw, wx_s0_6 hw, wx_N75 hw, wx_a75 hw, wx_K75 hw, wx_g0_7 hw, wx_s0_7 hw, wx_N88 hw, wx_a88 hw, wx_g0_8 hw, wx_s0_8 hw, wx_N89 hw, wx_a89 hw, wx_g0_9 hw, wx_s0_9 hw, wx_N90 hw, wx_a90 hw, wx_g0_10 hw, wx_s0_10 hw, wx_N91 hw, wx_a91 hw, wx_o6 hw, wx_k6 hw, wx_q6 hw, wx_g6_0 hw, wx_s6_0 hw, wx_N7 hw, wx_a7 hw, wx_K7 hw, wx_g6_1 hw, wx_s6_1 hw, wx_N8 hw, wx_a8 hw, wx_g6_2 hw, wx_s6_2 hw, wx_N9 hw, wx_a9 hw, wx_g6_3 hw, wx_s6_3 hw, wx_N10 hw, wx_a10 hw, wx_g6_4 hw, wx_s6_4 hw, wx_N11 hw, wx_a11 hw, wx_g6_5 hw, wx_s6_5 hw, wx_N12 hw, wx_a12 hw, wx_g6_6 hw, wx_s6_6 hw, wx_N13 hw, wx_a13 hw, wx_g6_7 hw, wx_s6_7 hw, wx_N14 hw, wx_a14 hw, List.not_mem_nil, false_implies, implies_true, nI_clamp, nI_add, Nat.reducePow, hp_bd, hp_bdi, hp_ts, hp_tn, hp_tsc, hp_tnc, Nat.reduceAdd, Nat.reduceSub, Nat.reduceMul, Nat.reduceLT, Nat.reduceLeDiff, Nat.reduceEqDiff, reduceIte, not_true_eq_false, not_false_eq_true, and_true, true_and, and_self, and_false, false_and, or_true, true_or, or_false, false_or, decide_true, decide_false, Bool.and_true, Bool.true_and, Bool.not_false, Bool.or_false, Bool.false_or, Bool.or_true, Bool.true_or, i01, a1, a4]
      · have eo : op_6 G (nI 1) y = (-2, G) := by unfold op_6; simp only [ep, i01, if_true, if_false]
        rw [eo]
        refine oC_id hR ?_
        simp only [b79_0, b79_4, b79_9, b79_11, b79_15, b79_20, b79_26, b79_31, b79_34, b79_38, b79_57, e79, wx_o0 hw, wx_k0 hw, wx_q0 hw, wx_g0_0 hw, wx_s0_0 hw, wx_g0_1 hw, wx_s0_1 hw, wx_g0_2 hw, wx_s0_2 hw, wx_g0_3 hw, wx_s0_3 hw, wx_g0_4 hw, wx_s0_4 hw, wx_N42 hw, wx_a42 hw, wx_K42 hw, wx_g0_5 hw, wx_s0_5 hw, wx_g0_6 hw, wx_s0_6 hw, wx_N75 hw, wx_a75 hw, wx_K75 hw, wx_g0_7 hw, wx_s0_7 hw, wx_N88 hw, wx_a88 hw, wx_g0_8 hw, wx_s0_8 hw, wx_N89 hw, wx_a89 hw, wx_g0_9 hw, wx_s0_9 hw, wx_N90 hw, wx_a90 hw, wx_g0_10 hw, wx_s0_10 hw, wx_N91 hw, wx_a91 hw, wx_o6 hw, wx_k6 hw, wx_q6 hw, wx_g6_0 hw, wx_s6_0 hw, wx_N7 hw, wx_a7 hw, wx_K7 hw, wx_g6_1 hw, wx_s6_1 hw, wx_N8 hw, wx_a8 hw, wx_g6_2 hw, wx_s6_2 hw, wx_N9 hw, wx_a9 hw, wx_g6_3 hw, wx_s6_3 hw, wx_N10 hw, wx_a10 hw, wx_g6_4 hw, wx_s6_4 hw, wx_N11 hw, wx_a11 hw, wx_g6_5 hw, wx_s6_5 hw, wx_N12 hw, wx_a12 hw, wx_g6_6 hw, wx_s6_6 hw, wx_N13 hw, wx_a13 hw, wx_g6_7 hw, wx_s6_7 hw, wx_N14 hw, wx_a14 hw, List.not_mem_nil, false_implies, implies_true, nI_clamp, nI_add, Nat.reducePow, hp_bd, hp_bdi, hp_ts, hp_tn, hp_tsc, hp_tnc, Nat.reduceAdd, Nat.reduceSub, Nat.reduceMul, Nat.reduceLT, Nat.reduceLeDiff, Nat.reduceEqDiff, reduceIte, not_true_eq_false, not_false_eq_true, and_true, true_and, and_self, and_false, false_and, or_true, true_or, or_false, false_or, decide_true, decide_false, Bool.and_true, Bool.true_and, Bool.not_false, Bool.or_false, Bool.false_or, Bool.or_true, Bool.true_or, i01, a1, a4]
      · have eo : op_6 G (nI 1) (nI n) = (nI (ab_lo (gD G)), gX_D G.1 (gD_lo (gD G) n), G.2) := by unfold op_6; simp only [ep, i01, if_true, if_false]
        rw [eo]
        have fT : sf_f (fun c j => c = 6 ∧ j = 13) S (mm_uM S 6 13 (nI n)) := sf_uM ⟨rfl, rfl⟩
        have DT : cd_D (mm_uM S 6 13 (nI n)) 6 (gK G) (gD_lo (gD G) n) := by
          obtain ⟨h1, h2, h3, h4, h5, h6, h7, h8⟩ := hR.2.1.2.1
          exact ⟨(rdn (by omega)).trans h1, fun p hp => (rdn (by omega)).trans (h2 p hp), fun p hp => (rdn (by omega)).trans (h3 p hp), fun p hp => (rdn (by omega)).trans (h4 p hp), (rdn (by omega)).trans h5, rds, (rdn (by omega)).trans h7, (rdn (by omega)).trans h8⟩
        refine oC_6 ok hR (T := mm_uM S 6 13 (nI n)) ?_ (sf_uM (by unfold gc_6; omega)) hw (X_D fT (fun c j (h : c = 6 ∧ j = 13) => by omega) hR.2.1 DT) hR.2.2.1 (sz_s rfl rfl)
        simp only [b79_0, b79_4, b79_9, b79_11, b79_15, b79_20, b79_26, b79_31, b79_34, b79_38, b79_57, e79, wx_o0 hw, wx_k0 hw, wx_q0 hw, wx_g0_0 hw, wx_s0_0 hw, wx_g0_1 hw, wx_s0_1 hw, wx_g0_2 hw, wx_s0_2 hw, wx_g0_3 hw, wx_s0_3 hw, wx_g0_4 hw, wx_s0_4 hw, wx_N42 hw, wx_a42 hw, wx_K42 hw, wx_g0_5 hw, wx_s0_5 hw, wx_g0_6 hw, wx_s0_6 hw, wx_N75 hw, wx_a75 hw, wx_K75 hw, wx_g0_7 hw, wx_s0_7 hw, wx_N88 hw, wx_a88 hw, wx_g0_8 hw, wx_s0_8 hw, wx_N89 hw, wx_a89 hw, wx_g0_9 hw, wx_s0_9 hw, wx_N90 hw, wx_a90 hw, wx_g0_10 hw, wx_s0_10 hw, wx_N91 hw, wx_a91 hw, wx_o6 hw, wx_k6 hw, wx_q6 hw, wx_g6_0 hw, wx_s6_0 hw, wx_N7 hw, wx_a7 hw, wx_K7 hw, wx_g6_1 hw, wx_s6_1 hw, wx_N8 hw, wx_a8 hw, wx_g6_2 hw, wx_s6_2 hw, wx_N9 hw, wx_a9 hw, wx_g6_3 hw, wx_s6_3 hw, wx_N10 hw, wx_a10 hw, wx_g6_4 hw, wx_s6_4 hw, wx_N11 hw, wx_a11 hw, wx_g6_5 hw, wx_s6_5 hw, wx_N12 hw, wx_a12 hw, wx_g6_6 hw, wx_s6_6 hw, wx_N13 hw, wx_a13 hw, wx_g6_7 hw, wx_s6_7 hw, wx_N14 hw, wx_a14 hw, List.not_mem_nil, false_implies, implies_true, nI_clamp, nI_add, Nat.reducePow, hp_bd, hp_bdi, hp_ts, hp_tn, hp_tsc, hp_tnc, Nat.reduceAdd, Nat.reduceSub, Nat.reduceMul, Nat.reduceLT, Nat.reduceLeDiff, Nat.reduceEqDiff, reduceIte, not_true_eq_false, not_false_eq_true, and_true, true_and, and_self, and_false, false_and, or_true, true_or, or_false, false_or, decide_true, decide_false, Bool.and_true, Bool.true_and, Bool.not_false, Bool.or_false, Bool.false_or, Bool.or_true, Bool.true_or, i01, a1, a4, h13]
    · have eo : op_6 G x y = (-1, G) := by unfold op_6; simp only [x0, x1, if_false]
      rw [eo]
      refine oC_id hR ?_
      simp only [b79_0, b79_4, b79_9, b79_11, b79_15, b79_20, b79_26, b79_31, b79_34, b79_38, b79_57, e79, wx_o0 hw, wx_k0 hw, wx_q0 hw, wx_g0_0 hw, wx_s0_0 hw, wx_g0_1 hw, wx_s0_1 hw, wx_g0_2 hw, wx_s0_2 hw, wx_g0_3 hw, wx_s0_3 hw, wx_g0_4 hw, wx_s0_4 hw, wx_N42 hw, wx_a42 hw, wx_K42 hw, wx_g0_5 hw, wx_s0_5 hw, wx_g0_6 hw, wx_s0_6 hw, wx_N75 hw, wx_a75 hw, wx_K75 hw, wx_g0_7 hw, wx_s0_7 hw, wx_N88 hw, wx_a88 hw, wx_g0_8 hw, wx_s0_8 hw, wx_N89 hw, wx_a89 hw, wx_g0_9 hw, wx_s0_9 hw, wx_N90 hw, wx_a90 hw, wx_g0_10 hw, wx_s0_10 hw, wx_N91 hw, wx_a91 hw, wx_o6 hw, wx_k6 hw, wx_q6 hw, wx_g6_0 hw, wx_s6_0 hw, wx_N7 hw, wx_a7 hw, wx_K7 hw, wx_g6_1 hw, wx_s6_1 hw, wx_N8 hw, wx_a8 hw, wx_g6_2 hw, wx_s6_2 hw, wx_N9 hw, wx_a9 hw, wx_g6_3 hw, wx_s6_3 hw, wx_N10 hw, wx_a10 hw, wx_g6_4 hw, wx_s6_4 hw, wx_N11 hw, wx_a11 hw, wx_g6_5 hw, wx_s6_5 hw, wx_N12 hw, wx_a12 hw, wx_g6_6 hw, wx_s6_6 hw, wx_N13 hw, wx_a13 hw, wx_g6_7 hw, wx_s6_7 hw, wx_N14 hw, wx_a14 hw, List.not_mem_nil, false_implies, implies_true, nI_clamp, nI_add, Nat.reducePow, hp_bd, hp_bdi, hp_ts, hp_tn, hp_tsc, hp_tnc, Nat.reduceAdd, Nat.reduceSub, Nat.reduceMul, Nat.reduceLT, Nat.reduceLeDiff, Nat.reduceEqDiff, reduceIte, not_true_eq_false, not_false_eq_true, and_true, true_and, and_self, and_false, false_and, or_true, true_or, or_false, false_or, decide_true, decide_false, Bool.and_true, Bool.true_and, Bool.not_false, Bool.or_false, Bool.false_or, Bool.or_true, Bool.true_or, x0, x1]
theorem c_7 (ok : gb_ok G) (hR : RC S G) : oC S (d + 1) 80 [.ref 0, .int x] (.int (op_7 G x).1) (op_7 G x).2 := by
  have hw := hR.1
  have hl := ok.2.2.2.2.1
  obtain ⟨ht, ht2⟩ := hR.2.2.2.2.2.2.1
  rcases kw_d (n := 127) (m := 128) rfl (by decide) x with ⟨ep, a1, a2, a3, a4, a5, a6⟩ | ⟨ep, a1, a2, a3, a4, a5, a6⟩ | ⟨n, hp, ep, rfl, a1, a2, a3, a4, a5, a6⟩
  · have eo : op_7 G x = (-2, G) := by unfold op_7; simp only [ep]
    rw [eo]
    refine oC_id hR ?_
    simp only [b80_0, b80_4, b80_10, b80_13, b80_21, b80_24, b80_34, e80, wx_o0 hw, wx_k0 hw, wx_q0 hw, wx_g0_0 hw, wx_s0_0 hw, wx_g0_1 hw, wx_s0_1 hw, wx_g0_2 hw, wx_s0_2 hw, wx_g0_3 hw, wx_s0_3 hw, wx_g0_4 hw, wx_s0_4 hw, wx_N42 hw, wx_a42 hw, wx_K42 hw, wx_g0_5 hw, wx_s0_5 hw, wx_g0_6 hw, wx_s0_6 hw, wx_N75 hw, wx_a75 hw, wx_K75 hw, wx_g0_7 hw, wx_s0_7 hw, wx_N88 hw, wx_a88 hw, wx_g0_8 hw, wx_s0_8 hw, wx_N89 hw, wx_a89 hw, wx_g0_9 hw, wx_s0_9 hw, wx_N90 hw, wx_a90 hw, wx_g0_10 hw, wx_s0_10 hw, wx_N91 hw, wx_a91 hw, wx_o73 hw, wx_k73 hw, wx_q73 hw, wx_g73_1 hw, wx_s73_1 hw, wx_N74 hw, wx_a74 hw, List.not_mem_nil, false_implies, implies_true, nI_clamp, nI_add, Nat.reducePow, hp_bd, hp_bdi, hp_ts, hp_tn, hp_tsc, hp_tnc, Nat.reduceAdd, Nat.reduceSub, Nat.reduceMul, Nat.reduceLT, Nat.reduceLeDiff, Nat.reduceEqDiff, reduceIte, not_true_eq_false, not_false_eq_true, and_true, true_and, and_self, and_false, false_and, or_true, true_or, or_false, false_or, decide_true, decide_false, Bool.and_true, Bool.true_and, Bool.not_false, Bool.or_false, Bool.false_or, Bool.or_true, Bool.true_or, a1, a4]
  · have eo : op_7 G x = (-2, G) := by unfold op_7; simp only [ep]
    rw [eo]
    refine oC_id hR ?_
    simp only [b80_0, b80_4, b80_10, b80_13, b80_21, b80_24, b80_34, e80, wx_o0 hw, wx_k0 hw, wx_q0 hw, wx_g0_0 hw, wx_s0_0 hw, wx_g0_1 hw, wx_s0_1 hw, wx_g0_2 hw, wx_s0_2 hw, wx_g0_3 hw, wx_s0_3 hw, wx_g0_4 hw, wx_s0_4 hw, wx_N42 hw, wx_a42 hw, wx_K42 hw, wx_g0_5 hw, wx_s0_5 hw, wx_g0_6 hw, wx_s0_6 hw, wx_N75 hw, wx_a75 hw, wx_K75 hw, wx_g0_7 hw, wx_s0_7 hw, wx_N88 hw, wx_a88 hw, wx_g0_8 hw, wx_s0_8 hw, wx_N89 hw, wx_a89 hw, wx_g0_9 hw, wx_s0_9 hw, wx_N90 hw, wx_a90 hw, wx_g0_10 hw, wx_s0_10 hw, wx_N91 hw, wx_a91 hw, wx_o73 hw, wx_k73 hw, wx_q73 hw, wx_g73_1 hw, wx_s73_1 hw, wx_N74 hw, wx_a74 hw, List.not_mem_nil, false_implies, implies_true, nI_clamp, nI_add, Nat.reducePow, hp_bd, hp_bdi, hp_ts, hp_tn, hp_tsc, hp_tnc, Nat.reduceAdd, Nat.reduceSub, Nat.reduceMul, Nat.reduceLT, Nat.reduceLeDiff, Nat.reduceEqDiff, reduceIte, not_true_eq_false, not_false_eq_true, and_true, true_and, and_self, and_false, false_and, or_true, true_or, or_false, false_or, decide_true, decide_false, Bool.and_true, Bool.true_and, Bool.not_false, Bool.or_false, Bool.false_or, Bool.or_true, Bool.true_or, a1, a4]
  · by_cases hf : (gb_t G).length = 100
    · have eo : op_7 G (nI n) = (-4, G) := by unfold op_7; simp only [ep, hf, if_true]
      have h1 : (nI (gb_t G).length < nI 100) = False := eq_false (nI_nlt (by omega) (by omega))
      rw [eo]
      refine oC_id hR ?_
      simp only [b80_0, b80_4, b80_10, b80_13, b80_21, b80_24, b80_34, e80, b35_0, b35_9, b35_11, b35_23, e35, wx_o0 hw, wx_k0 hw, wx_q0 hw, wx_g0_0 hw, wx_s0_0 hw, wx_g0_1 hw, wx_s0_1 hw, wx_g0_2 hw, wx_s0_2 hw, wx_g0_3 hw, wx_s0_3 hw, wx_g0_4 hw, wx_s0_4 hw, wx_N42 hw, wx_a42 hw, wx_K42 hw, wx_g0_5 hw, wx_s0_5 hw, wx_g0_6 hw, wx_s0_6 hw, wx_N75 hw, wx_a75 hw, wx_K75 hw, wx_g0_7 hw, wx_s0_7 hw, wx_N88 hw, wx_a88 hw, wx_g0_8 hw, wx_s0_8 hw, wx_N89 hw, wx_a89 hw, wx_g0_9 hw, wx_s0_9 hw, wx_N90 hw, wx_a90 hw, wx_g0_10 hw, wx_s0_10 hw, wx_N91 hw, wx_a91 hw, wx_o73 hw, wx_k73 hw, wx_q73 hw, wx_g73_1 hw, wx_s73_1 hw, wx_N74 hw, wx_a74 hw, List.not_mem_nil, false_implies, implies_true, nI_clamp, nI_add, Nat.reducePow, hp_bd, hp_bdi, hp_ts, hp_tn, hp_tsc, hp_tnc, Nat.reduceAdd, Nat.reduceSub, Nat.reduceMul, Nat.reduceLT, Nat.reduceLeDiff, Nat.reduceEqDiff, reduceIte, not_true_eq_false, not_false_eq_true, and_true, true_and, and_self, and_false, false_and, or_true, true_or, or_false, false_or, decide_true, decide_false, Bool.and_true, Bool.true_and, Bool.not_false, Bool.or_false, Bool.false_or, Bool.or_true, Bool.true_or, a1, a4, ht, h1]
    · have eo : op_7 G (nI n) = (nI ((gb_t G).length + 1), gS_t G (gb_t G ++ [n])) := by unfold op_7; simp only [ep, hf, if_false]
      have h1 : (nI (gb_t G).length < nI 100) = True := eq_true (nI_lt (by omega) (by omega))
      have cl : (nI (gb_t G).length).toNatClampNeg = (gb_t G).length := nI_clamp (by omega)
      have hbi : mm_inb (nI (gb_t G).length) 100 = true := hp_inb (by omega) (by omega)
      have g1 : mm_M (mm_uM S 74 (gb_t G).length (nI n)) 73 0 = nI (gb_t G).length := (rdn (by omega)).trans ht
      have g2 : mm_M (mm_uM (mm_uM S 74 (gb_t G).length (nI n)) 73 0 (nI ((gb_t G).length + 1))) 73 0 = nI ((gb_t G).length + 1) := rds
      have fT : sf_f gc_tt S (mm_uM (mm_uM S 74 (gb_t G).length (nI n)) 73 0 (nI ((gb_t G).length + 1))) := sf_tr (sf_uM (Or.inr rfl)) (sf_uM (Or.inl rfl))
      rw [eo]
      refine ⟨mm_uM (mm_uM S 74 (gb_t G).length (nI n)) 73 0 (nI ((gb_t G).length + 1)), ?_, RC_t ok fT hw hR ⟨?_, fun i hi => ?_⟩, tt_0 fT, sz_s rfl rfl⟩
      · simp only [b80_0, b80_4, b80_10, b80_13, b80_21, b80_24, b80_34, e80, b35_0, b35_9, b35_11, b35_23, e35, wx_o0 hw, wx_k0 hw, wx_q0 hw, wx_g0_0 hw, wx_s0_0 hw, wx_g0_1 hw, wx_s0_1 hw, wx_g0_2 hw, wx_s0_2 hw, wx_g0_3 hw, wx_s0_3 hw, wx_g0_4 hw, wx_s0_4 hw, wx_N42 hw, wx_a42 hw, wx_K42 hw, wx_g0_5 hw, wx_s0_5 hw, wx_g0_6 hw, wx_s0_6 hw, wx_N75 hw, wx_a75 hw, wx_K75 hw, wx_g0_7 hw, wx_s0_7 hw, wx_N88 hw, wx_a88 hw, wx_g0_8 hw, wx_s0_8 hw, wx_N89 hw, wx_a89 hw, wx_g0_9 hw, wx_s0_9 hw, wx_N90 hw, wx_a90 hw, wx_g0_10 hw, wx_s0_10 hw, wx_N91 hw, wx_a91 hw, wx_o73 hw, wx_k73 hw, wx_q73 hw, wx_g73_1 hw, wx_s73_1 hw, wx_N74 hw, wx_a74 hw, List.not_mem_nil, false_implies, implies_true, nI_clamp, nI_add, Nat.reducePow, hp_bd, hp_bdi, hp_ts, hp_tn, hp_tsc, hp_tnc, Nat.reduceAdd, Nat.reduceSub, Nat.reduceMul, Nat.reduceLT, Nat.reduceLeDiff, Nat.reduceEqDiff, reduceIte, not_true_eq_false, not_false_eq_true, and_true, true_and, and_self, and_false, false_and, or_true, true_or, or_false, false_or, decide_true, decide_false, Bool.and_true, Bool.true_and, Bool.not_false, Bool.or_false, Bool.false_or, Bool.or_true, Bool.true_or, hp_MuM, hp_LuL, hp_RuR, hp_McpM, hp_LcpL, hp_LuM, hp_RuM, hp_KuM, hp_NuM, hp_nuM, hp_zuM, hp_ouM, hp_auM, hp_kuM, hp_guM, hp_MuL, hp_RuL, hp_KuL, hp_NuL, hp_nuL, hp_zuL, hp_ouL, hp_auL, hp_kuL, hp_guL, hp_MuR, hp_LuR, hp_KuR, hp_NuR, hp_nuR, hp_zuR, hp_ouR, hp_auR, hp_kuR, hp_LcpM, hp_RcpM, hp_KcpM, hp_NcpM, hp_ncpM, hp_zcpM, hp_ocpM, hp_acpM, hp_kcpM, hp_gcpM, hp_McpL, hp_RcpL, hp_KcpL, hp_NcpL, hp_ncpL, hp_zcpL, hp_ocpL, hp_acpL, hp_kcpL, hp_gcpL, hp_MwM, hp_LwM, hp_RwM, hp_KwM, hp_NwM, hp_nwM, hp_zwM, hp_owM, hp_awM, hp_kwM, hp_gwM, hp_MwR, hp_LwR, hp_RwR, hp_KwR, hp_NwR, hp_nwR, hp_zwR, hp_owR, hp_awR, hp_kwR, hp_MwL, hp_LwL, hp_RwL, hp_KwL, hp_NwL, hp_nwL, hp_zwL, hp_owL, hp_awL, hp_kwL, hp_gwL, hp_w2M, hp_w2R, hp_w2L, a1, a4, ht, h1, cl, hbi, i01, g1, g2]
      · rw [rds, List.length_append]; rfl
      · rw [List.length_append] at hi
        rw [rdn (by omega), rdk]
        by_cases e : i = (gb_t G).length
        · rw [if_pos e, e, List.getD_eq_getElem?_getD, List.getElem?_append_right (Nat.le_refl _), Nat.sub_self]; rfl
        · have hi2 : i < (gb_t G).length := by
            have : [n].length = 1 := rfl
            omega
          rw [if_neg e, List.getD_eq_getElem?_getD, List.getElem?_append_left hi2, ← List.getD_eq_getElem?_getD]
          exact ht2 i hi2
theorem c_9 (ok : gb_ok G) (hR : RC S G) : oC S (d + 1) 82 [.ref 0, .int w] (.int (an_9 G w)) G := by
  have hw := hR.1
  have hA := RC_A ok hR
  refine oC_id hR ?_
  obtain ⟨h1, h2, h3, h4, h5, h6, h7, h8⟩ := hR.2.1.2.1
  obtain ⟨-, p2, p3, p4, p5, s, p6, p7, q1, q2, q3, q4, -⟩ := hR.2.1.1
  have rg : mm_rg S 6 8 = s := hp_rg p6
  have rs : (mm_R S 6 8).isSome = true := hp_rs p6
  have so := ws_o hw p7
  have hl := row_le hA.2.2.2.2.1 hA.2.2.2.2.2
  have efe : ab_fe (gP G) = ab_law (ab_sh (gP G)) 5 0 := ok.1.2.2.2.2.2.2
  have h1 : mm_M S 6 11 = nI (ab_row (gD G)).length := h1
  have h5 : mm_M S 6 12 = nI (ab_pr (gD G)) := h5
  have h6 : mm_M S 6 13 = nI (ab_lo (gD G)) := h6
  have h7 : mm_M S 6 14 = ab_ti (gD G) := h7
  have h8 : mm_M S 6 15 = ab_tu (gD G) := h8
  have k11 := s11 (d := d) hw dy6
  have c11 : mm_cl d 108 [.int (if mm_M S 6 11 ≤ nI 0 then -1 else mm_M S (6 + 6) 0)] S = some (some (.int (if (ab_row (gD G)).length = 0 then -5 else nI ((ab_row (gD G)).getD 0 0))), S) := by
    rw [s108, h1]
    by_cases h0 : (ab_row (gD G)).length = 0
    · have e9 : nI (ab_row (gD G)).length ≤ nI 0 := by rw [h0]; exact nI_le (Nat.le_refl _) (by decide)
      rw [if_pos e9, if_pos h0]; rfl
    · have g := h2 0 (by have : ¬ (ab_row (gx_D (gb_x G))).length = 0 := h0; omega)
      have hh : (ab_row (gD G)).getD 0 0 < 6 := by
        have hm : (ab_row (gD G)).getD 0 0 ∈ ab_row (gD G) := by
          rw [List.getD_eq_getElem?_getD, List.getElem?_eq_getElem (by omega)]
          exact List.getElem_mem _
        have := hA.2.2.2.2.2.2.1 _ hm
        have := ok.1.1.1
        have e : ab_kn (gP G) = ab_kn (gx_P (gb_x G)) := rfl
        omega
      have e9 : ¬ nI (ab_row (gD G)).length ≤ nI 0 := nI_ge (by omega) (by omega)
      have e8 : nI 0 ≤ nI ((ab_row (gx_D (gb_x G))).getD 0 0) := nI_le (Nat.zero_le _) (by have : (ab_row (gx_D (gb_x G))).getD 0 0 < 6 := hh; omega)
      rw [if_neg e9, if_neg h0, show mm_M S (6 + 6) 0 = _ from g, if_pos e8]
      rfl
  unfold an_9
  rw [e82, b82_0, b82_1]
  by_cases w0 : w = nI 0
  · rw [if_pos w0, if_pos w0, b82_56 (wx_o0 hw) (wx_s0_0 hw) (by rw [wx_g0_0 hw]; exact wx_o6 hw) (by rw [wx_g0_0 hw]; exact rs) (by rw [wx_g0_0 hw, rg]; exact so), wx_g0_0 hw, rg, q1]; rfl
  rw [if_neg w0, if_neg w0]
  by_cases w1 : w = nI 1
  · rw [if_pos w1, if_pos w1, b82_67 (wx_o0 hw) (wx_s0_0 hw) (by rw [wx_g0_0 hw]; exact wx_o6 hw) (by rw [wx_g0_0 hw]; exact rs) (by rw [wx_g0_0 hw, rg]; exact so), wx_g0_0 hw, rg, q2]; rfl
  rw [if_neg w1, if_neg w1]
  by_cases w2 : w = nI 2
  · rw [if_pos w2, if_pos w2, b82_78 (wx_o0 hw) (wx_s0_0 hw) (by rw [wx_g0_0 hw]; exact wx_o6 hw) (by rw [wx_g0_0 hw]; exact rs) (by rw [wx_g0_0 hw, rg]; exact so), wx_g0_0 hw, rg, q3]; rfl
  rw [if_neg w2, if_neg w2]
  by_cases w3 : w = nI 3
  · rw [if_pos w3, if_pos w3, b82_89 (wx_o0 hw) (wx_s0_0 hw) (by rw [wx_g0_0 hw]; exact wx_o6 hw) (by rw [wx_g0_0 hw]; exact rs) (by rw [wx_g0_0 hw, rg]; exact so), wx_g0_0 hw, rg, q4, efe]; rfl
  rw [if_neg w3, if_neg w3]
  by_cases w4 : w = nI 4
  · rw [if_pos w4, if_pos w4, b82_100 (wx_o0 hw) (wx_s0_0 hw) (by rw [wx_g0_0 hw]; exact wx_o6 hw), wx_g0_0 hw, h5]
  rw [if_neg w4, if_neg w4]
  by_cases w5 : w = nI 5
  · rw [if_pos w5, if_pos w5, b82_108 (wx_o0 hw) (wx_s0_0 hw) (by rw [wx_g0_0 hw]; exact wx_o6 hw), wx_g0_0 hw, h6]
  rw [if_neg w5, if_neg w5]
  by_cases w6 : w = nI 6
  · rw [if_pos w6, if_pos w6, b82_116 (wx_o0 hw) (wx_s0_0 hw) (by rw [wx_g0_0 hw]; exact wx_o6 hw), wx_g0_0 hw, h7]
  rw [if_neg w6, if_neg w6]
  by_cases w7 : w = nI 7
  · rw [if_pos w7, if_pos w7, b82_124 (wx_o0 hw) (wx_s0_0 hw) (by rw [wx_g0_0 hw]; exact wx_o6 hw), wx_g0_0 hw, h8]
  rw [if_neg w7, if_neg w7]
  by_cases w8 : w = nI 8
  · rw [if_pos w8, if_pos w8, b82_132 (wx_o0 hw) (wx_s0_0 hw) (by rw [wx_g0_0 hw]; exact wx_o6 hw), wx_g0_0 hw, h1]
  rw [if_neg w8, if_neg w8]
  by_cases w9 : w = nI 9
  · rw [if_pos w9, if_pos w9, b82_140 (wx_o0 hw) (wx_s0_0 hw) (by rw [wx_g0_0 hw]; exact wx_k6 hw), wx_g0_0 hw, k11, hp_bd, hp_ts, b82_147, c11, hp_bd, hp_ts, b82_150]
  rw [if_neg w9, if_neg w9, b82_151]
theorem c_11 (ok : gb_ok G) (hR : RC S G) : oC S (d + 5) 84 [.ref 0] (.int (op_11 G).1) (op_11 G).2 := by
  have hw := hR.1
  have hA := RC_A ok hR
  have k20 := s20w (d := d + 4) hA
  cases hc : ab_com (gD G) with
  | false =>
    have eo : op_11 G = (nI 0, G) := by unfold op_11; rw [hc, if_neg (by decide)]
    rw [eo]
    refine oC_id hR ?_
    rw [e84, b84_0 (wx_o0 hw) (wx_s0_0 hw) (by rw [wx_g0_0 hw]; exact wx_k6 hw), wx_g0_0 hw, k20, hp_bd, hp_ts, b84_7, hc, if_pos (by decide), b84_20]
  | true =>
    have eo : op_11 G = (nI (ab_ha (gP G) (gD G)), gX_D G.1 (ab_turn (gP G) (gD G)), G.2) := by unfold op_11; rw [hc, if_pos rfl]
    obtain ⟨T, g1, g2, g3⟩ := s21 (d := d) hA hc
    rw [eo]
    refine oC_6 ok hR (T := T) ?_ (sf_mo (sf_cd g2) (fun c j h => by unfold cd_dc at h; unfold gc_6; omega)) g3.1 (X_D (sf_cd g2) (fun c j h => by unfold cd_dc at h; omega) hR.2.1 g3.2.2.2.1) ?_ (sz_cd g2)
    · rw [e84, b84_0 (wx_o0 hw) (wx_s0_0 hw) (by rw [wx_g0_0 hw]; exact wx_k6 hw), wx_g0_0 hw, k20, hp_bd, hp_ts, b84_7, hc, if_neg (by decide), b84_10 (wx_o0 hw) (wx_s0_0 hw) (by rw [wx_g0_0 hw]; exact wx_k6 hw), wx_g0_0 hw, g1, hp_bd, hp_ts, b84_17]
    · exact tr_q (sf_cd g2) (fun j => by unfold cd_dc; omega) (by unfold cd_dc; omega) hR.2.2.1
end C1
end
section
/-! ===== copies of days, with what they mean ===== -/
def gc_dy (a c _j : Nat) : Prop := a ≤ c ∧ c ≤ a + 7
section CP
variable {S T : mm_S} {a b c d j m n : Nat} {X : gb_X} {G : gb_G}
theorem cD_0 (h1 : 9 ≤ j) (h2 : j ≤ 17) : mm_M (mm_cD S a b) a j = mm_M S b j := by rw [hc_M, if_pos ⟨rfl, h1, h2⟩]
theorem cD_m (h1 : 2 ≤ m) (h2 : m ≤ 7) (hj : j < mm_N S (a + m)) : mm_M (mm_cD S a b) (a + m) j = mm_M S (b + m) j := by
  rw [hc_M, if_neg (by omega), if_pos ⟨by omega, by omega, hj⟩]
  congr 1
  omega
theorem cD_R8 : mm_R (mm_cD S a b) a 8 = mm_R S b 8 := by rw [hc_R, if_pos ⟨rfl, rfl⟩]
theorem cD_R1 (hj : j < 6) : mm_R (mm_cD S a b) (a + 1) j = mm_R S (b + 1) j := by rw [hc_R, if_neg (by omega), if_pos ⟨rfl, hj⟩]
theorem cD_sf : sf_f (gc_dy a) S (mm_cD S a b) := by
  refine ⟨fun c j hc => ?_, fun _ _ => ⟨rfl, rfl⟩, Nat.le_refl _⟩
  unfold gc_dy at hc
  refine ⟨?_, rfl, ?_⟩
  · rw [hc_M, if_neg (by omega), if_neg (by omega)]
  · rw [hc_R, if_neg (by omega), if_neg (by omega)]
theorem cD_X (hw : mm_W S) (ha : mm_dy a) (hk : ab_okP (gx_P X)) (hr : (ab_row (gx_D X)).length ≤ 6) (hf : (gx_f X).length ≤ 12) (hX : gc_X S b X) : gc_X (mm_cD S a b) a X := by
  obtain ⟨⟨p1, p2, p3, p4, p5, s, p6, p7, p8⟩, ⟨h1, h2, h3, h4, h5, h6, h7, h8⟩, q1, q2, q3, q4⟩ := hX
  have k6 := hk.1
  have f := cD_sf (S := S) (a := a) (b := b)
  refine ⟨⟨(cD_0 (by decide) (by decide)).trans p1, (cD_0 (by decide) (by decide)).trans p2, fun i hi => (cD_m (by decide) (by decide) (by rw [wd_N2 hw ha]; omega)).trans (p3 i hi), fun i hi => (cD_m (by decide) (by decide) (by rw [wd_N3 hw ha]; omega)).trans (p4 i hi), fun i hi => ?_, s, cD_R8.trans p6, p7, tr_cs f (fun m j hm h => ?_) p8⟩, ⟨(cD_0 (by decide) (by decide)).trans h1, fun i hi => (cD_m (by decide) (by decide) (by rw [wd_N6 hw ha]; omega)).trans (h2 i hi), fun i hi => (cD_m (by decide) (by decide) (by rw [wd_N4 hw ha]; omega)).trans (h3 i hi), fun i hi => (cD_m (by decide) (by decide) (by rw [wd_N5 hw ha]; omega)).trans (h4 i hi), (cD_0 (by decide) (by decide)).trans h5, (cD_0 (by decide) (by decide)).trans h6, (cD_0 (by decide) (by decide)).trans h7, (cD_0 (by decide) (by decide)).trans h8⟩, (cD_0 (by decide) (by decide)).trans q1, (cD_0 (by decide) (by decide)).trans q2, fun i hi => (cD_m (by decide) (by decide) (by rw [wd_N7 hw ha]; omega)).trans (q3 i hi), cD_R8.trans q4⟩
  · obtain ⟨e, he, hb2⟩ := p5 i hi
    refine ⟨e, (cD_R1 (by omega)).trans he, tr_by f (fun j _ h => ?_) hb2⟩
    have := hb2.1
    unfold gc_dy at h
    unfold mm_dy at ha
    omega
  · unfold gc_dy at h
    unfold mm_dy at ha
    unfold mm_sh at p7
    omega
theorem cD_q (hq : gc_q S b) : gc_q (mm_cD S a b) a := by
  obtain ⟨h1, s, h2, h3⟩ := hq
  exact ⟨fun i hi e he => h1 i hi e ((cD_R1 hi).symm.trans he), s, h2, cD_R8.trans h3⟩
theorem cD_q2 (hab : b + 1 < a ∨ a + 7 < b) (hq : gc_q S b) : gc_q (mm_cD S a b) b := by
  refine tr_q cD_sf (fun j h => ?_) (fun h => ?_) hq
  · unfold gc_dy at h; omega
  · unfold gc_dy at h; omega
theorem X_len {l : List (List ab_C)} (ok : gx_ok l X) : (ab_row (gx_D X)).length ≤ 6 := row_le ok.1 ok.2.1
end CP
/-! ===== calls of the class: slips, film, image, undo, trace, taken, count ===== -/
section C2
variable {S T : mm_S} {G : gb_G} {d b n : Nat} {x y w p t i o j : Int32}
theorem c_20 (ok : gb_ok G) (hR : RC S G) : oC S d 93 [.ref 0, .int x] (.int (op_20 G x).1) (op_20 G x).2 := by
  have hw := hR.1
  have h16 : mm_M S 6 16 = nI (gx_s G.1) := hR.2.1.2.2.1
  rcases kw_d (n := 10) (m := 11) rfl (by decide) x with ⟨ep, a1, a2, a3, a4, a5, a6⟩ | ⟨ep, a1, a2, a3, a4, a5, a6⟩ | ⟨n, hp, ep, rfl, a1, a2, a3, a4, a5, a6⟩
  · have eo : op_20 G x = (-2, G) := by unfold op_20; simp only [ep]
    rw [eo]
    refine oC_id hR ?_
    simp only [b93_0, b93_4, b93_10, b93_13, e93, wx_o0 hw, wx_k0 hw, wx_q0 hw, wx_g0_0 hw, wx_s0_0 hw, wx_g0_1 hw, wx_s0_1 hw, wx_g0_2 hw, wx_s0_2 hw, wx_g0_3 hw, wx_s0_3 hw, wx_g0_4 hw, wx_s0_4 hw, wx_N42 hw, wx_a42 hw, wx_K42 hw, wx_g0_5 hw, wx_s0_5 hw, wx_g0_6 hw, wx_s0_6 hw, wx_N75 hw, wx_a75 hw, wx_K75 hw, wx_g0_7 hw, wx_s0_7 hw, wx_N88 hw, wx_a88 hw, wx_g0_8 hw, wx_s0_8 hw, wx_N89 hw, wx_a89 hw, wx_g0_9 hw, wx_s0_9 hw, wx_N90 hw, wx_a90 hw, wx_g0_10 hw, wx_s0_10 hw, wx_N91 hw, wx_a91 hw, wx_o6 hw, wx_k6 hw, wx_q6 hw, wx_g6_0 hw, wx_s6_0 hw, wx_N7 hw, wx_a7 hw, wx_K7 hw, wx_g6_1 hw, wx_s6_1 hw, wx_N8 hw, wx_a8 hw, wx_g6_2 hw, wx_s6_2 hw, wx_N9 hw, wx_a9 hw, wx_g6_3 hw, wx_s6_3 hw, wx_N10 hw, wx_a10 hw, wx_g6_4 hw, wx_s6_4 hw, wx_N11 hw, wx_a11 hw, wx_g6_5 hw, wx_s6_5 hw, wx_N12 hw, wx_a12 hw, wx_g6_6 hw, wx_s6_6 hw, wx_N13 hw, wx_a13 hw, wx_g6_7 hw, wx_s6_7 hw, wx_N14 hw, wx_a14 hw, List.not_mem_nil, false_implies, implies_true, nI_clamp, nI_add, Nat.reducePow, hp_bd, hp_bdi, hp_ts, hp_tn, hp_tsc, hp_tnc, Nat.reduceAdd, Nat.reduceSub, Nat.reduceMul, Nat.reduceLT, Nat.reduceLeDiff, Nat.reduceEqDiff, reduceIte, not_true_eq_false, not_false_eq_true, and_true, true_and, and_self, and_false, false_and, or_true, true_or, or_false, false_or, decide_true, decide_false, Bool.and_true, Bool.true_and, Bool.not_false, Bool.or_false, Bool.false_or, Bool.or_true, Bool.true_or, a1, a4]
  · have eo : op_20 G x = (-2, G) := by unfold op_20; simp only [ep]
    rw [eo]
    refine oC_id hR ?_
    simp only [b93_0, b93_4, b93_10, b93_13, e93, wx_o0 hw, wx_k0 hw, wx_q0 hw, wx_g0_0 hw, wx_s0_0 hw, wx_g0_1 hw, wx_s0_1 hw, wx_g0_2 hw, wx_s0_2 hw, wx_g0_3 hw, wx_s0_3 hw, wx_g0_4 hw, wx_s0_4 hw, wx_N42 hw, wx_a42 hw, wx_K42 hw, wx_g0_5 hw, wx_s0_5 hw, wx_g0_6 hw, wx_s0_6 hw, wx_N75 hw, wx_a75 hw, wx_K75 hw, wx_g0_7 hw, wx_s0_7 hw, wx_N88 hw, wx_a88 hw, wx_g0_8 hw, wx_s0_8 hw, wx_N89 hw, wx_a89 hw, wx_g0_9 hw, wx_s0_9 hw, wx_N90 hw, wx_a90 hw, wx_g0_10 hw, wx_s0_10 hw, wx_N91 hw, wx_a91 hw, wx_o6 hw, wx_k6 hw, wx_q6 hw, wx_g6_0 hw, wx_s6_0 hw, wx_N7 hw, wx_a7 hw, wx_K7 hw, wx_g6_1 hw, wx_s6_1 hw, wx_N8 hw, wx_a8 hw, wx_g6_2 hw, wx_s6_2 hw, wx_N9 hw, wx_a9 hw, wx_g6_3 hw, wx_s6_3 hw, wx_N10 hw, wx_a10 hw, wx_g6_4 hw, wx_s6_4 hw, wx_N11 hw, wx_a11 hw, wx_g6_5 hw, wx_s6_5 hw, wx_N12 hw, wx_a12 hw, wx_g6_6 hw, wx_s6_6 hw, wx_N13 hw, wx_a13 hw, wx_g6_7 hw, wx_s6_7 hw, wx_N14 hw, wx_a14 hw, List.not_mem_nil, false_implies, implies_true, nI_clamp, nI_add, Nat.reducePow, hp_bd, hp_bdi, hp_ts, hp_tn, hp_tsc, hp_tnc, Nat.reduceAdd, Nat.reduceSub, Nat.reduceMul, Nat.reduceLT, Nat.reduceLeDiff, Nat.reduceEqDiff, reduceIte, not_true_eq_false, not_false_eq_true, and_true, true_and, and_self, and_false, false_and, or_true, true_or, or_false, false_or, decide_true, decide_false, Bool.and_true, Bool.true_and, Bool.not_false, Bool.or_false, Bool.false_or, Bool.or_true, Bool.true_or, a1, a4]
  · have eo : op_20 G (nI n) = (nI (gx_s G.1), gX_s G.1 n, G.2) := by unfold op_20; simp only [ep]
    rw [eo]
    have f : sf_f gc_6m S (mm_uM S 6 16 (nI n)) := sf_uM (Or.inr ⟨rfl, Or.inl rfl⟩)
    obtain ⟨g1, g2, g3⟩ := X_m f hR.2.1
    refine oC_6 ok hR (T := mm_uM S 6 16 (nI n)) ?_ (m6_6 f) hw ⟨g1, g2, rds, (rdn (by omega)).trans hR.2.1.2.2.2.1, fun i hi => (rdn (by omega)).trans (hR.2.1.2.2.2.2.1 i hi), g3⟩ hR.2.2.1 (sz_s rfl rfl)
    simp only [b93_0, b93_4, b93_10, b93_13, e93, wx_o0 hw, wx_k0 hw, wx_q0 hw, wx_g0_0 hw, wx_s0_0 hw, wx_g0_1 hw, wx_s0_1 hw, wx_g0_2 hw, wx_s0_2 hw, wx_g0_3 hw, wx_s0_3 hw, wx_g0_4 hw, wx_s0_4 hw, wx_N42 hw, wx_a42 hw, wx_K42 hw, wx_g0_5 hw, wx_s0_5 hw, wx_g0_6 hw, wx_s0_6 hw, wx_N75 hw, wx_a75 hw, wx_K75 hw, wx_g0_7 hw, wx_s0_7 hw, wx_N88 hw, wx_a88 hw, wx_g0_8 hw, wx_s0_8 hw, wx_N89 hw, wx_a89 hw, wx_g0_9 hw, wx_s0_9 hw, wx_N90 hw, wx_a90 hw, wx_g0_10 hw, wx_s0_10 hw, wx_N91 hw, wx_a91 hw, wx_o6 hw, wx_k6 hw, wx_q6 hw, wx_g6_0 hw, wx_s6_0 hw, wx_N7 hw, wx_a7 hw, wx_K7 hw, wx_g6_1 hw, wx_s6_1 hw, wx_N8 hw, wx_a8 hw, wx_g6_2 hw, wx_s6_2 hw, wx_N9 hw, wx_a9 hw, wx_g6_3 hw, wx_s6_3 hw, wx_N10 hw, wx_a10 hw, wx_g6_4 hw, wx_s6_4 hw, wx_N11 hw, wx_a11 hw, wx_g6_5 hw, wx_s6_5 hw, wx_N12 hw, wx_a12 hw, wx_g6_6 hw, wx_s6_6 hw, wx_N13 hw, wx_a13 hw, wx_g6_7 hw, wx_s6_7 hw, wx_N14 hw, wx_a14 hw, List.not_mem_nil, false_implies, implies_true, nI_clamp, nI_add, Nat.reducePow, hp_bd, hp_bdi, hp_ts, hp_tn, hp_tsc, hp_tnc, Nat.reduceAdd, Nat.reduceSub, Nat.reduceMul, Nat.reduceLT, Nat.reduceLeDiff, Nat.reduceEqDiff, reduceIte, not_true_eq_false, not_false_eq_true, and_true, true_and, and_self, and_false, false_and, or_true, true_or, or_false, false_or, decide_true, decide_false, Bool.and_true, Bool.true_and, Bool.not_false, Bool.or_false, Bool.false_or, Bool.or_true, Bool.true_or, a1, a4, h16]
theorem c_22 (ok : gb_ok G) (hR : RC S G) : oC S d 95 [.ref 0, .int x] (.int (op_22 G x).1) (op_22 G x).2 := by
  have hw := hR.1
  have h17 : mm_M S 6 17 = nI (gx_f G.1).length := hR.2.1.2.2.2.1
  have hl : (gx_f G.1).length ≤ 12 := ok.1.2.2.2.1
  have hi6 := hR.2.1.2.2.2.2.1
  by_cases hx : x = -1
  · subst hx
    have eo : op_22 G (-1) = (nI 0, gX_f G.1 [], G.2) := by unfold op_22; rw [if_pos rfl]
    rw [eo]
    have f : sf_f gc_6m S (mm_uM S 6 17 (nI 0)) := sf_uM (Or.inr ⟨rfl, Or.inr rfl⟩)
    obtain ⟨g1, g2, g3⟩ := X_m f hR.2.1
    refine oC_6 ok hR (T := mm_uM S 6 17 (nI 0)) ?_ (m6_6 f) hw ⟨g1, g2, (rdn (by omega)).trans hR.2.1.2.2.1, rds, fun i hi => absurd hi (Nat.not_lt_zero i), g3⟩ hR.2.2.1 (sz_s rfl rfl)
    simp only [b95_0, b95_5, b95_10, b95_15, b95_17, b95_22, b95_32, b95_44, b95_47, b95_68, b95_80, e95, wx_o0 hw, wx_k0 hw, wx_q0 hw, wx_g0_0 hw, wx_s0_0 hw, wx_g0_1 hw, wx_s0_1 hw, wx_g0_2 hw, wx_s0_2 hw, wx_g0_3 hw, wx_s0_3 hw, wx_g0_4 hw, wx_s0_4 hw, wx_N42 hw, wx_a42 hw, wx_K42 hw, wx_g0_5 hw, wx_s0_5 hw, wx_g0_6 hw, wx_s0_6 hw, wx_N75 hw, wx_a75 hw, wx_K75 hw, wx_g0_7 hw, wx_s0_7 hw, wx_N88 hw, wx_a88 hw, wx_g0_8 hw, wx_s0_8 hw, wx_N89 hw, wx_a89 hw, wx_g0_9 hw, wx_s0_9 hw, wx_N90 hw, wx_a90 hw, wx_g0_10 hw, wx_s0_10 hw, wx_N91 hw, wx_a91 hw, wx_o6 hw, wx_k6 hw, wx_q6 hw, wx_g6_0 hw, wx_s6_0 hw, wx_N7 hw, wx_a7 hw, wx_K7 hw, wx_g6_1 hw, wx_s6_1 hw, wx_N8 hw, wx_a8 hw, wx_g6_2 hw, wx_s6_2 hw, wx_N9 hw, wx_a9 hw, wx_g6_3 hw, wx_s6_3 hw, wx_N10 hw, wx_a10 hw, wx_g6_4 hw, wx_s6_4 hw, wx_N11 hw, wx_a11 hw, wx_g6_5 hw, wx_s6_5 hw, wx_N12 hw, wx_a12 hw, wx_g6_6 hw, wx_s6_6 hw, wx_N13 hw, wx_a13 hw, wx_g6_7 hw, wx_s6_7 hw, wx_N14 hw, wx_a14 hw, List.not_mem_nil, false_implies, implies_true, nI_clamp, nI_add, Nat.reducePow, hp_bd, hp_bdi, hp_ts, hp_tn, hp_tsc, hp_tnc, Nat.reduceAdd, Nat.reduceSub, Nat.reduceMul, Nat.reduceLT, Nat.reduceLeDiff, Nat.reduceEqDiff, reduceIte, not_true_eq_false, not_false_eq_true, and_true, true_and, and_self, and_false, false_and, or_true, true_or, or_false, false_or, decide_true, decide_false, Bool.and_true, Bool.true_and, Bool.not_false, Bool.or_false, Bool.false_or, Bool.or_true, Bool.true_or]
  · rcases kw_d (n := 3) (m := 4) rfl (by decide) x with ⟨ep, a1, a2, a3, a4, a5, a6⟩ | ⟨ep, a1, a2, a3, a4, a5, a6⟩ | ⟨n, hp, ep, rfl, a1, a2, a3, a4, a5, a6⟩
    · have eo : op_22 G x = (-1, G) := by unfold op_22; rw [if_neg hx, ep]
      have h1 : (x < nI 1) = True := by
        refine eq_true ?_
        have := of_eq_true a1
        rw [Int32.lt_iff_toInt_lt] at this ⊢
        have e0 : (nI 0).toInt = 0 := rfl
        have e1 : (nI 1).toInt = 1 := rfl
        omega
      rw [eo]
      refine oC_id hR ?_
      simp only [b95_0, b95_5, b95_10, b95_15, b95_17, b95_22, b95_32, b95_44, b95_47, b95_68, b95_80, e95, wx_o0 hw, wx_k0 hw, wx_q0 hw, wx_g0_0 hw, wx_s0_0 hw, wx_g0_1 hw, wx_s0_1 hw, wx_g0_2 hw, wx_s0_2 hw, wx_g0_3 hw, wx_s0_3 hw, wx_g0_4 hw, wx_s0_4 hw, wx_N42 hw, wx_a42 hw, wx_K42 hw, wx_g0_5 hw, wx_s0_5 hw, wx_g0_6 hw, wx_s0_6 hw, wx_N75 hw, wx_a75 hw, wx_K75 hw, wx_g0_7 hw, wx_s0_7 hw, wx_N88 hw, wx_a88 hw, wx_g0_8 hw, wx_s0_8 hw, wx_N89 hw, wx_a89 hw, wx_g0_9 hw, wx_s0_9 hw, wx_N90 hw, wx_a90 hw, wx_g0_10 hw, wx_s0_10 hw, wx_N91 hw, wx_a91 hw, wx_o6 hw, wx_k6 hw, wx_q6 hw, wx_g6_0 hw, wx_s6_0 hw, wx_N7 hw, wx_a7 hw, wx_K7 hw, wx_g6_1 hw, wx_s6_1 hw, wx_N8 hw, wx_a8 hw, wx_g6_2 hw, wx_s6_2 hw, wx_N9 hw, wx_a9 hw, wx_g6_3 hw, wx_s6_3 hw, wx_N10 hw, wx_a10 hw, wx_g6_4 hw, wx_s6_4 hw, wx_N11 hw, wx_a11 hw, wx_g6_5 hw, wx_s6_5 hw, wx_N12 hw, wx_a12 hw, wx_g6_6 hw, wx_s6_6 hw, wx_N13 hw, wx_a13 hw, wx_g6_7 hw, wx_s6_7 hw, wx_N14 hw, wx_a14 hw, List.not_mem_nil, false_implies, implies_true, nI_clamp, nI_add, Nat.reducePow, hp_bd, hp_bdi, hp_ts, hp_tn, hp_tsc, hp_tnc, Nat.reduceAdd, Nat.reduceSub, Nat.reduceMul, Nat.reduceLT, Nat.reduceLeDiff, Nat.reduceEqDiff, reduceIte, not_true_eq_false, not_false_eq_true, and_true, true_and, and_self, and_false, false_and, or_true, true_or, or_false, false_or, decide_true, decide_false, Bool.and_true, Bool.true_and, Bool.not_false, Bool.or_false, Bool.false_or, Bool.or_true, Bool.true_or, hx, h1]
    · have eo : op_22 G x = (-1, G) := by unfold op_22; rw [if_neg hx, ep]
      have h1 : (x < nI 1) = False := by
        refine eq_false ?_
        have := of_eq_true a3
        rw [Int32.lt_iff_toInt_lt] at this ⊢
        have e0 : (nI 3).toInt = 3 := rfl
        have e1 : (nI 1).toInt = 1 := rfl
        omega
      rw [eo]
      refine oC_id hR ?_
      simp only [b95_0, b95_5, b95_10, b95_15, b95_17, b95_22, b95_32, b95_44, b95_47, b95_68, b95_80, e95, wx_o0 hw, wx_k0 hw, wx_q0 hw, wx_g0_0 hw, wx_s0_0 hw, wx_g0_1 hw, wx_s0_1 hw, wx_g0_2 hw, wx_s0_2 hw, wx_g0_3 hw, wx_s0_3 hw, wx_g0_4 hw, wx_s0_4 hw, wx_N42 hw, wx_a42 hw, wx_K42 hw, wx_g0_5 hw, wx_s0_5 hw, wx_g0_6 hw, wx_s0_6 hw, wx_N75 hw, wx_a75 hw, wx_K75 hw, wx_g0_7 hw, wx_s0_7 hw, wx_N88 hw, wx_a88 hw, wx_g0_8 hw, wx_s0_8 hw, wx_N89 hw, wx_a89 hw, wx_g0_9 hw, wx_s0_9 hw, wx_N90 hw, wx_a90 hw, wx_g0_10 hw, wx_s0_10 hw, wx_N91 hw, wx_a91 hw, wx_o6 hw, wx_k6 hw, wx_q6 hw, wx_g6_0 hw, wx_s6_0 hw, wx_N7 hw, wx_a7 hw, wx_K7 hw, wx_g6_1 hw, wx_s6_1 hw, wx_N8 hw, wx_a8 hw, wx_g6_2 hw, wx_s6_2 hw, wx_N9 hw, wx_a9 hw, wx_g6_3 hw, wx_s6_3 hw, wx_N10 hw, wx_a10 hw, wx_g6_4 hw, wx_s6_4 hw, wx_N11 hw, wx_a11 hw, wx_g6_5 hw, wx_s6_5 hw, wx_N12 hw, wx_a12 hw, wx_g6_6 hw, wx_s6_6 hw, wx_N13 hw, wx_a13 hw, wx_g6_7 hw, wx_s6_7 hw, wx_N14 hw, wx_a14 hw, List.not_mem_nil, false_implies, implies_true, nI_clamp, nI_add, Nat.reducePow, hp_bd, hp_bdi, hp_ts, hp_tn, hp_tsc, hp_tnc, Nat.reduceAdd, Nat.reduceSub, Nat.reduceMul, Nat.reduceLT, Nat.reduceLeDiff, Nat.reduceEqDiff, reduceIte, not_true_eq_false, not_false_eq_true, and_true, true_and, and_self, and_false, false_and, or_true, true_or, or_false, false_or, decide_true, decide_false, Bool.and_true, Bool.true_and, Bool.not_false, Bool.or_false, Bool.false_or, Bool.or_true, Bool.true_or, hx, h1, a4]
    · by_cases h0 : n = 0
      · subst h0
        have eo : op_22 G (nI 0) = (-1, G) := by unfold op_22; rw [if_neg hx, ep]; rfl
        have h1 : (nI 0 < nI 1) = True := eq_true (by decide)
        rw [eo]
        refine oC_id hR ?_
        simp only [b95_0, b95_5, b95_10, b95_15, b95_17, b95_22, b95_32, b95_44, b95_47, b95_68, b95_80, e95, wx_o0 hw, wx_k0 hw, wx_q0 hw, wx_g0_0 hw, wx_s0_0 hw, wx_g0_1 hw, wx_s0_1 hw, wx_g0_2 hw, wx_s0_2 hw, wx_g0_3 hw, wx_s0_3 hw, wx_g0_4 hw, wx_s0_4 hw, wx_N42 hw, wx_a42 hw, wx_K42 hw, wx_g0_5 hw, wx_s0_5 hw, wx_g0_6 hw, wx_s0_6 hw, wx_N75 hw, wx_a75 hw, wx_K75 hw, wx_g0_7 hw, wx_s0_7 hw, wx_N88 hw, wx_a88 hw, wx_g0_8 hw, wx_s0_8 hw, wx_N89 hw, wx_a89 hw, wx_g0_9 hw, wx_s0_9 hw, wx_N90 hw, wx_a90 hw, wx_g0_10 hw, wx_s0_10 hw, wx_N91 hw, wx_a91 hw, wx_o6 hw, wx_k6 hw, wx_q6 hw, wx_g6_0 hw, wx_s6_0 hw, wx_N7 hw, wx_a7 hw, wx_K7 hw, wx_g6_1 hw, wx_s6_1 hw, wx_N8 hw, wx_a8 hw, wx_g6_2 hw, wx_s6_2 hw, wx_N9 hw, wx_a9 hw, wx_g6_3 hw, wx_s6_3 hw, wx_N10 hw, wx_a10 hw, wx_g6_4 hw, wx_s6_4 hw, wx_N11 hw, wx_a11 hw, wx_g6_5 hw, wx_s6_5 hw, wx_N12 hw, wx_a12 hw, wx_g6_6 hw, wx_s6_6 hw, wx_N13 hw, wx_a13 hw, wx_g6_7 hw, wx_s6_7 hw, wx_N14 hw, wx_a14 hw, List.not_mem_nil, false_implies, implies_true, nI_clamp, nI_add, Nat.reducePow, hp_bd, hp_bdi, hp_ts, hp_tn, hp_tsc, hp_tnc, Nat.reduceAdd, Nat.reduceSub, Nat.reduceMul, Nat.reduceLT, Nat.reduceLeDiff, Nat.reduceEqDiff, reduceIte, not_true_eq_false, not_false_eq_true, and_true, true_and, and_self, and_false, false_and, or_true, true_or, or_false, false_or, decide_true, decide_false, Bool.and_true, Bool.true_and, Bool.not_false, Bool.or_false, Bool.false_or, Bool.or_true, Bool.true_or, hx, h1]
      · have h1 : (nI n < nI 1) = False := eq_false (nI_nlt (by omega) (by omega))
        by_cases hf : (gx_f G.1).length = 12
        · have eo : op_22 G (nI n) = (-4, G) := by unfold op_22; rw [if_neg hx, ep]; simp only [h0, hf, if_true, if_false]
          have h2 : (nI (gx_f G.1).length < nI 12) = False := eq_false (nI_nlt (by omega) (by omega))
          rw [eo]
          refine oC_id hR ?_
          simp only [b95_0, b95_5, b95_10, b95_15, b95_17, b95_22, b95_32, b95_44, b95_47, b95_68, b95_80, e95, wx_o0 hw, wx_k0 hw, wx_q0 hw, wx_g0_0 hw, wx_s0_0 hw, wx_g0_1 hw, wx_s0_1 hw, wx_g0_2 hw, wx_s0_2 hw, wx_g0_3 hw, wx_s0_3 hw, wx_g0_4 hw, wx_s0_4 hw, wx_N42 hw, wx_a42 hw, wx_K42 hw, wx_g0_5 hw, wx_s0_5 hw, wx_g0_6 hw, wx_s0_6 hw, wx_N75 hw, wx_a75 hw, wx_K75 hw, wx_g0_7 hw, wx_s0_7 hw, wx_N88 hw, wx_a88 hw, wx_g0_8 hw, wx_s0_8 hw, wx_N89 hw, wx_a89 hw, wx_g0_9 hw, wx_s0_9 hw, wx_N90 hw, wx_a90 hw, wx_g0_10 hw, wx_s0_10 hw, wx_N91 hw, wx_a91 hw, wx_o6 hw, wx_k6 hw, wx_q6 hw, wx_g6_0 hw, wx_s6_0 hw, wx_N7 hw, wx_a7 hw, wx_K7 hw, wx_g6_1 hw, wx_s6_1 hw, wx_N8 hw, wx_a8 hw, wx_g6_2 hw, wx_s6_2 hw, wx_N9 hw, wx_a9 hw, wx_g6_3 hw, wx_s6_3 hw, wx_N10 hw, wx_a10 hw, wx_g6_4 hw, wx_s6_4 hw, wx_N11 hw, wx_a11 hw, wx_g6_5 hw, wx_s6_5 hw, wx_N12 hw, wx_a12 hw, wx_g6_6 hw, wx_s6_6 hw, wx_N13 hw, wx_a13 hw, wx_g6_7 hw, wx_s6_7 hw, wx_N14 hw, wx_a14 hw, List.not_mem_nil, false_implies, implies_true, nI_clamp, nI_add, Nat.reducePow, hp_bd, hp_bdi, hp_ts, hp_tn, hp_tsc, hp_tnc, Nat.reduceAdd, Nat.reduceSub, Nat.reduceMul, Nat.reduceLT, Nat.reduceLeDiff, Nat.reduceEqDiff, reduceIte, not_true_eq_false, not_false_eq_true, and_true, true_and, and_self, and_false, false_and, or_true, true_or, or_false, false_or, decide_true, decide_false, Bool.and_true, Bool.true_and, Bool.not_false, Bool.or_false, Bool.false_or, Bool.or_true, Bool.true_or, hx, h1, a4, h17, h2]
        · have eo : op_22 G (nI n) = (nI ((gx_f G.1).length + 1), gX_f G.1 (gx_f G.1 ++ [n]), G.2) := by unfold op_22; rw [if_neg hx, ep]; simp only [h0, hf, if_false]
          have h2 : (nI (gx_f G.1).length < nI 12) = True := eq_true (nI_lt (by omega) (by omega))
          have cl : (nI (gx_f G.1).length).toNatClampNeg = (gx_f G.1).length := nI_clamp (by omega)
          have hbi : mm_inb (nI (gx_f G.1).length) 12 = true := hp_inb (by omega) (by omega)
          have f : sf_f gc_6m S (mm_uM (mm_uM S 13 (gx_f G.1).length (nI n)) 6 17 (nI ((gx_f G.1).length + 1))) := sf_tr (sf_uM (Or.inl rfl)) (sf_uM (Or.inr ⟨rfl, Or.inr rfl⟩))
          obtain ⟨g1, g2, g3⟩ := X_m f hR.2.1
          have r1 : mm_M (mm_uM S 13 (gx_f G.1).length (nI n)) 6 17 = nI (gx_f G.1).length := (rdn (by omega)).trans h17
          have r2 : mm_M (mm_uM (mm_uM S 13 (gx_f G.1).length (nI n)) 6 17 (nI ((gx_f G.1).length + 1))) 6 17 = nI ((gx_f G.1).length + 1) := rds
          rw [eo]
          refine oC_6 ok hR (T := mm_uM (mm_uM S 13 (gx_f G.1).length (nI n)) 6 17 (nI ((gx_f G.1).length + 1))) ?_ (m6_6 f) hw ⟨g1, g2, (rdn (by omega)).trans ((rdn (by omega)).trans hR.2.1.2.2.1), ?_, fun i hi => ?_, g3⟩ hR.2.2.1 (sz_s rfl rfl)
          · simp only [b95_0, b95_5, b95_10, b95_15, b95_17, b95_22, b95_32, b95_44, b95_47, b95_68, b95_80, e95, wx_o0 hw, wx_k0 hw, wx_q0 hw, wx_g0_0 hw, wx_s0_0 hw, wx_g0_1 hw, wx_s0_1 hw, wx_g0_2 hw, wx_s0_2 hw, wx_g0_3 hw, wx_s0_3 hw, wx_g0_4 hw, wx_s0_4 hw, wx_N42 hw, wx_a42 hw, wx_K42 hw, wx_g0_5 hw, wx_s0_5 hw, wx_g0_6 hw, wx_s0_6 hw, wx_N75 hw, wx_a75 hw, wx_K75 hw, wx_g0_7 hw, wx_s0_7 hw, wx_N88 hw, wx_a88 hw, wx_g0_8 hw, wx_s0_8 hw, wx_N89 hw, wx_a89 hw, wx_g0_9 hw, wx_s0_9 hw, wx_N90 hw, wx_a90 hw, wx_g0_10 hw, wx_s0_10 hw, wx_N91 hw, wx_a91 hw, wx_o6 hw, wx_k6 hw, wx_q6 hw, wx_g6_0 hw, wx_s6_0 hw, wx_N7 hw, wx_a7 hw, wx_K7 hw, wx_g6_1 hw, wx_s6_1 hw, wx_N8 hw, wx_a8 hw, wx_g6_2 hw, wx_s6_2 hw, wx_N9 hw, wx_a9 hw, wx_g6_3 hw, wx_s6_3 hw, wx_N10 hw, wx_a10 hw, wx_g6_4 hw, wx_s6_4 hw, wx_N11 hw, wx_a11 hw, wx_g6_5 hw, wx_s6_5 hw, wx_N12 hw, wx_a12 hw, wx_g6_6 hw, wx_s6_6 hw, wx_N13 hw, wx_a13 hw, wx_g6_7 hw, wx_s6_7 hw, wx_N14 hw, wx_a14 hw, List.not_mem_nil, false_implies, implies_true, nI_clamp, nI_add, Nat.reducePow, hp_bd, hp_bdi, hp_ts, hp_tn, hp_tsc, hp_tnc, Nat.reduceAdd, Nat.reduceSub, Nat.reduceMul, Nat.reduceLT, Nat.reduceLeDiff, Nat.reduceEqDiff, reduceIte, not_true_eq_false, not_false_eq_true, and_true, true_and, and_self, and_false, false_and, or_true, true_or, or_false, false_or, decide_true, decide_false, Bool.and_true, Bool.true_and, Bool.not_false, Bool.or_false, Bool.false_or, Bool.or_true, Bool.true_or, hp_MuM, hp_LuL, hp_RuR, hp_McpM, hp_LcpL, hp_LuM, hp_RuM, hp_KuM, hp_NuM, hp_nuM, hp_zuM, hp_ouM, hp_auM, hp_kuM, hp_guM, hp_MuL, hp_RuL, hp_KuL, hp_NuL, hp_nuL, hp_zuL, hp_ouL, hp_auL, hp_kuL, hp_guL, hp_MuR, hp_LuR, hp_KuR, hp_NuR, hp_nuR, hp_zuR, hp_ouR, hp_auR, hp_kuR, hp_LcpM, hp_RcpM, hp_KcpM, hp_NcpM, hp_ncpM, hp_zcpM, hp_ocpM, hp_acpM, hp_kcpM, hp_gcpM, hp_McpL, hp_RcpL, hp_KcpL, hp_NcpL, hp_ncpL, hp_zcpL, hp_ocpL, hp_acpL, hp_kcpL, hp_gcpL, hp_MwM, hp_LwM, hp_RwM, hp_KwM, hp_NwM, hp_nwM, hp_zwM, hp_owM, hp_awM, hp_kwM, hp_gwM, hp_MwR, hp_LwR, hp_RwR, hp_KwR, hp_NwR, hp_nwR, hp_zwR, hp_owR, hp_awR, hp_kwR, hp_MwL, hp_LwL, hp_RwL, hp_KwL, hp_NwL, hp_nwL, hp_zwL, hp_owL, hp_awL, hp_kwL, hp_gwL, hp_w2M, hp_w2R, hp_w2L, hx, h1, a4, h17, h2, cl, hbi, r1, r2]
          · rw [rds]
            show _ = nI (gx_f G.1 ++ [n]).length
            rw [List.length_append]; rfl
          · have hi : i < (gx_f G.1 ++ [n]).length := hi
            rw [List.length_append] at hi
            show mm_M _ 13 i = nI ((gx_f G.1 ++ [n]).getD i 0)
            rw [rdn (by omega), rdk]
            by_cases e : i = (gx_f G.1).length
            · rw [if_pos e, e, List.getD_eq_getElem?_getD, List.getElem?_append_right (Nat.le_refl _), Nat.sub_self]; rfl
            · have hi2 : i < (gx_f G.1).length := by
                have : [n].length = 1 := rfl
                omega
              rw [if_neg e, List.getD_eq_getElem?_getD, List.getElem?_append_left hi2, ← List.getD_eq_getElem?_getD]
              exact hi6 i hi2
theorem c_25 (ok : gb_ok G) (hR : RC S G) : oC S (d + 2) 98 [.ref 0] (.int (op_25 G).1) (op_25 G).2 := by
  have hw := hR.1
  have k7 := s7 (d := d) hw dy15 dy6 (by decide) hR.2.2.1
  have w1 := w_cD (S := S) (b := 6) dy15 hw
  have f1 := cD_sf (S := S) (a := 15) (b := 6)
  have X1 := cD_X hw dy15 ok.1.1 (row_le ok.1.1 ok.1.2.1) ok.1.2.2.2.1 hR.2.1
  have f2 : sf_f (fun c j => c = 0 ∧ j = 12) (mm_cD S 15 6) (mm_uM (mm_cD S 15 6) 0 12 (nI 1)) := sf_uM ⟨rfl, rfl⟩
  have f : sf_f (fun c j => gc_dy 15 c j ∨ (c = 0 ∧ j = 12)) S (mm_uM (mm_cD S 15 6) 0 12 (nI 1)) := sf_tr (sf_mo f1 fun c j h => Or.inl h) (sf_mo f2 fun c j h => Or.inr h)
  have o1 : sf_o (fun c j => gc_dy 15 c j ∨ (c = 0 ∧ j = 12)) S := by
    refine ⟨fun c j hc _ (h : (15 ≤ c ∧ c ≤ 15 + 7) ∨ (c = 0 ∧ j = 12)) => by omega, fun s m j hs hm (h : (15 ≤ s + m ∧ s + m ≤ 15 + 7) ∨ (s + m = 0 ∧ j = 12)) => ?_⟩
    unfold mm_sh at hs
    omega
  have o2 : sf_o (fun c j => c = 0 ∧ j = 12) (mm_cD S 15 6) := by
    refine ⟨fun c j hc _ (h : c = 0 ∧ j = 12) => by omega, fun s m j hs hm (h : s + m = 0 ∧ j = 12) => ?_⟩
    unfold mm_sh at hs
    omega
  have k10 : mm_M (mm_uM (mm_cD S 15 6) 0 12 (nI 1)) 6 10 = nI (gK G) := (f.1 6 10 (fun (h : (15 ≤ 6 ∧ 6 ≤ 15 + 7) ∨ (6 = 0 ∧ 10 = 12)) => by omega)).1.trans hR.2.1.1.1
  refine ⟨mm_uM (mm_cD S 15 6) 0 12 (nI 1), ?_, ?_, sf_mo f (fun c j (h : (15 ≤ c ∧ c ≤ 15 + 7) ∨ (c = 0 ∧ j = 12)) => by unfold gc_0; omega), sz_s rfl rfl⟩
  · have w2 : mm_W (mm_uM (mm_cD S 15 6) 0 12 (nI 1)) := w1
    rw [e98, b98_0 (wx_o0 hw) (wx_s0_1 hw) (wx_s0_0 hw) (by rw [wx_g0_1 hw]; exact wx_k15 hw), wx_g0_1 hw, wx_g0_0 hw, k7, hp_bd, hp_tn, b98_11 (wx_o0 w1) (wx_s0_0 w1), wx_g0_0 w1, b98_20 (wx_o6 w2), k10]
    rfl
  · obtain ⟨-, h1, h2, h3, h4, h5, h6, h7, h8⟩ := hR
    refine ⟨w1, tr_X f o1 (fun m j hm (h : (15 ≤ 6 + m ∧ 6 + m ≤ 15 + 7) ∨ (6 + m = 0 ∧ j = 12)) => by omega) h1, tr_q f (fun j (h : (15 ≤ 6 + 1 ∧ 6 + 1 ≤ 15 + 7) ∨ (6 + 1 = 0 ∧ j = 12)) => by omega) (fun (h : (15 ≤ 6 ∧ 6 ≤ 15 + 7) ∨ (6 = 0 ∧ 8 = 12)) => by omega) h2, tr_q f2 (fun j (h : 15 + 1 = 0 ∧ j = 12) => by omega) (fun (h : 15 = 0 ∧ 8 = 12) => by omega) (cD_q h2), ⟨rds, tr_X f2 o2 (fun m j hm (h : 15 + m = 0 ∧ j = 12) => by omega) X1⟩, tr_s ok.2.2.1 f o1 (fun (h : (15 ≤ 0 ∧ 0 ≤ 15 + 7) ∨ (0 = 0 ∧ 11 = 12)) => by omega) h5, tr_t f (fun (h : (15 ≤ 73 ∧ 73 ≤ 15 + 7) ∨ (73 = 0 ∧ 0 = 12)) => by omega) (fun j (h : (15 ≤ 74 ∧ 74 ≤ 15 + 7) ∨ (74 = 0 ∧ j = 12)) => by omega) h6, tr_p f (fun c j a b (h : (15 ≤ c ∧ c ≤ 15 + 7) ∨ (c = 0 ∧ j = 12)) => by omega) h7, tr_r f (fun j (h : (15 ≤ 88 ∧ 88 ≤ 15 + 7) ∨ (88 = 0 ∧ j = 12)) => by omega) h8⟩
theorem c_26 (ok : gb_ok G) (hR : RC S G) : oC S (d + 2) 99 [.ref 0] (.int (op_26 G).1) (op_26 G).2 := by
  have hw := hR.1
  have hi := hR.2.2.2.2.1
  cases e : gb_i G with
  | none =>
    have eo : op_26 G = (-3, G) := by unfold op_26; rw [e]
    rw [e] at hi
    have hi : mm_M S 0 12 = nI 0 := hi
    rw [eo]
    refine oC_id hR ?_
    rw [e99, b99_0 (wx_o0 hw), hi, if_pos rfl, b99_7]
  | some Y =>
    have eo : op_26 G = (nI (ab_kn (gx_P Y)), Y, G.2) := by unfold op_26; rw [e]
    have okY := ok.2.1 Y e
    rw [e] at hi
    obtain ⟨hi1, hi2⟩ := hi
    have k7 := s7 (d := d) hw dy6 dy15 (by decide) hR.2.2.2.1
    have w1 := w_cD (S := S) (b := 15) dy6 hw
    have f1 := cD_sf (S := S) (a := 6) (b := 15)
    have X1 := cD_X hw dy6 okY.1 (row_le okY.1 okY.2.1) okY.2.2.2.1 hi2
    rw [eo]
    refine oC_6 ok hR (T := mm_cD S 6 15) ?_ (sf_mo f1 (fun c j h => by unfold gc_dy at h; unfold gc_6; omega)) w1 X1 (cD_q hR.2.2.2.1) (sz_s rfl rfl)
    rw [e99, b99_0 (wx_o0 hw), hi1, if_neg i01, b99_10 (wx_o0 hw) (wx_s0_0 hw) (wx_s0_1 hw) (by rw [wx_g0_0 hw]; exact wx_k6 hw), wx_g0_1 hw, wx_g0_0 hw, k7, hp_bd, hp_tn, b99_21 (wx_o0 w1) (wx_s0_0 w1) (by rw [wx_g0_0 w1]; exact wx_o6 w1), wx_g0_0 w1, X1.1.1]
theorem c_28 (ok : gb_ok G) (hR : RC S G) : oC S (d + 1) 101 [.ref 0, .int x] (.int (an_28 G x)) G := by
  have hw := hR.1
  have hl : (gb_r G).length ≤ 20 := ok.2.2.2.2.2.2.2.1
  obtain ⟨h0, h1⟩ := hR.2.2.2.2.2.2.2.2
  refine oC_id hR ?_
  unfold an_28
  have hmin : (if nI 20 < nI (gb_r G).length then nI 20 else nI (gb_r G).length) = nI (gb_r G).length := if_neg (nI_nlt hl (by omega))
  have c0 : (nI 0).toNatClampNeg = 0 := nI_clamp (by decide)
  have i0 : mm_inb (nI 0) 21 = true := by decide
  unfold ab_kw
  by_cases a1 : x < nI 0
  · rw [if_pos (Or.inl a1)]
    simp only [b101_0, b101_4, b101_19, b101_30, e101, wx_o0 hw, wx_k0 hw, wx_q0 hw, wx_g0_0 hw, wx_s0_0 hw, wx_g0_1 hw, wx_s0_1 hw, wx_g0_2 hw, wx_s0_2 hw, wx_g0_3 hw, wx_s0_3 hw, wx_g0_4 hw, wx_s0_4 hw, wx_N42 hw, wx_a42 hw, wx_K42 hw, wx_g0_5 hw, wx_s0_5 hw, wx_g0_6 hw, wx_s0_6 hw, wx_N75 hw, wx_a75 hw, wx_K75 hw, wx_g0_7 hw, wx_s0_7 hw, wx_N88 hw, wx_a88 hw, wx_g0_8 hw, wx_s0_8 hw, wx_N89 hw, wx_a89 hw, wx_g0_9 hw, wx_s0_9 hw, wx_N90 hw, wx_a90 hw, wx_g0_10 hw, wx_s0_10 hw, wx_N91 hw, wx_a91 hw, List.not_mem_nil, false_implies, implies_true, nI_clamp, nI_add, Nat.reducePow, hp_bd, hp_bdi, hp_ts, hp_tn, hp_tsc, hp_tnc, Nat.reduceAdd, Nat.reduceSub, Nat.reduceMul, Nat.reduceLT, Nat.reduceLeDiff, Nat.reduceEqDiff, reduceIte, not_true_eq_false, not_false_eq_true, and_true, true_and, and_self, and_false, false_and, or_true, true_or, or_false, false_or, decide_true, decide_false, Bool.and_true, Bool.true_and, Bool.not_false, Bool.or_false, Bool.false_or, Bool.or_true, Bool.true_or, a1]
  · by_cases a2 : nI (gb_r G).length ≤ x
    · rw [if_pos (Or.inr a2)]
      simp only [b101_0, b101_4, b101_19, b101_30, e101, wx_o0 hw, wx_k0 hw, wx_q0 hw, wx_g0_0 hw, wx_s0_0 hw, wx_g0_1 hw, wx_s0_1 hw, wx_g0_2 hw, wx_s0_2 hw, wx_g0_3 hw, wx_s0_3 hw, wx_g0_4 hw, wx_s0_4 hw, wx_N42 hw, wx_a42 hw, wx_K42 hw, wx_g0_5 hw, wx_s0_5 hw, wx_g0_6 hw, wx_s0_6 hw, wx_N75 hw, wx_a75 hw, wx_K75 hw, wx_g0_7 hw, wx_s0_7 hw, wx_N88 hw, wx_a88 hw, wx_g0_8 hw, wx_s0_8 hw, wx_N89 hw, wx_a89 hw, wx_g0_9 hw, wx_s0_9 hw, wx_N90 hw, wx_a90 hw, wx_g0_10 hw, wx_s0_10 hw, wx_N91 hw, wx_a91 hw, List.not_mem_nil, false_implies, implies_true, nI_clamp, nI_add, Nat.reducePow, hp_bd, hp_bdi, hp_ts, hp_tn, hp_tsc, hp_tnc, Nat.reduceAdd, Nat.reduceSub, Nat.reduceMul, Nat.reduceLT, Nat.reduceLeDiff, Nat.reduceEqDiff, reduceIte, not_true_eq_false, not_false_eq_true, and_true, true_and, and_self, and_false, false_and, or_true, true_or, or_false, false_or, decide_true, decide_false, Bool.and_true, Bool.true_and, Bool.not_false, Bool.or_false, Bool.false_or, Bool.or_true, Bool.true_or, a1, a2, c0, i0, h0, hmin]
    · rw [if_neg (fun e => e.elim a1 a2)]
      rcases kw_d (n := 20) (m := 21) rfl (by decide) x with ⟨-, b1, -⟩ | ⟨-, -, -, b3, -⟩ | ⟨n, hp, -, rfl, -⟩
      · exact absurd (of_eq_true b1) a1
      · exfalso
        have := of_eq_true b3
        rw [Int32.lt_iff_toInt_lt] at this
        rw [Int32.le_iff_toInt_le, nI_toInt (by omega)] at a2
        have e0 : (nI 20).toInt = 20 := rfl
        omega
      · have hn : n < (gb_r G).length := by
          rw [nI_leI (by omega) (by omega)] at a2
          omega
        have cl : (nI n).toNatClampNeg = n := nI_clamp (by omega)
        have cl2 : (nI (1 + n)).toNatClampNeg = 1 + n := nI_clamp (by omega)
        have i2 : mm_inb (nI (1 + n)) 21 = true := hp_inb (by omega) (by omega)
        have g := h1 n hn
        simp only [b101_0, b101_4, b101_19, b101_30, e101, wx_o0 hw, wx_k0 hw, wx_q0 hw, wx_g0_0 hw, wx_s0_0 hw, wx_g0_1 hw, wx_s0_1 hw, wx_g0_2 hw, wx_s0_2 hw, wx_g0_3 hw, wx_s0_3 hw, wx_g0_4 hw, wx_s0_4 hw, wx_N42 hw, wx_a42 hw, wx_K42 hw, wx_g0_5 hw, wx_s0_5 hw, wx_g0_6 hw, wx_s0_6 hw, wx_N75 hw, wx_a75 hw, wx_K75 hw, wx_g0_7 hw, wx_s0_7 hw, wx_N88 hw, wx_a88 hw, wx_g0_8 hw, wx_s0_8 hw, wx_N89 hw, wx_a89 hw, wx_g0_9 hw, wx_s0_9 hw, wx_N90 hw, wx_a90 hw, wx_g0_10 hw, wx_s0_10 hw, wx_N91 hw, wx_a91 hw, List.not_mem_nil, false_implies, implies_true, nI_clamp, nI_add, Nat.reducePow, hp_bd, hp_bdi, hp_ts, hp_tn, hp_tsc, hp_tnc, Nat.reduceAdd, Nat.reduceSub, Nat.reduceMul, Nat.reduceLT, Nat.reduceLeDiff, Nat.reduceEqDiff, reduceIte, not_true_eq_false, not_false_eq_true, and_true, true_and, and_self, and_false, false_and, or_true, true_or, or_false, false_or, decide_true, decide_false, Bool.and_true, Bool.true_and, Bool.not_false, Bool.or_false, Bool.false_or, Bool.or_true, Bool.true_or, a1, a2, c0, i0, h0, hmin, cl, cl2, i2, g]
theorem s112 {e b k v q : Nat} (hk : k < 7) (hy : cd_by S e b k v q) {n : Nat} (hn : n < 7) : mm_cl d 112 [.ref e, .int (nI n)] S = some (some (.int (if n ∈ ab_above k then nI 1 else nI 0)), S) := by
  have ho := by_o hk hy
  have hK := hy.2.2.1
  have q1 : narrow .boolean (.int (1 : Int32)) = .int 1 := rfl
  have q0 : narrow .boolean (.int (0 : Int32)) = .int 0 := rfl
  have q : ∀ p : Prop, [Decidable p] → narrow .boolean (.int (if p then (1 : Int32) else 0)) = .int (if p then 1 else 0) := by intro p _; split <;> rfl
  rw [e112, b112_0, b112_1]
  rcases (by omega : n = 0 ∨ n = 1 ∨ n = 2 ∨ n = 3 ∨ n = 4 ∨ n = 5 ∨ n = 6) with rfl | rfl | rfl | rfl | rfl | rfl | rfl
  · rw [if_pos rfl, b112_44]
    rcases (by omega : k = 0 ∨ k = 1 ∨ k = 2 ∨ k = 3 ∨ k = 4 ∨ k = 5 ∨ k = 6) with rfl | rfl | rfl | rfl | rfl | rfl | rfl <;> rfl
  · rw [if_neg (by decide), if_pos rfl, b112_46 ho (q _), hK]
    rcases (by omega : k = 0 ∨ k = 1 ∨ k = 2 ∨ k = 3 ∨ k = 4 ∨ k = 5 ∨ k = 6) with rfl | rfl | rfl | rfl | rfl | rfl | rfl <;> rfl
  · rw [if_neg (by decide), if_neg (by decide), if_pos rfl, b112_51 ho (q _), hK]
    rcases (by omega : k = 0 ∨ k = 1 ∨ k = 2 ∨ k = 3 ∨ k = 4 ∨ k = 5 ∨ k = 6) with rfl | rfl | rfl | rfl | rfl | rfl | rfl <;> rfl
  · rw [if_neg (by decide), if_neg (by decide), if_neg (by decide), if_pos rfl, b112_56 ho (q _), hK]
    rcases (by omega : k = 0 ∨ k = 1 ∨ k = 2 ∨ k = 3 ∨ k = 4 ∨ k = 5 ∨ k = 6) with rfl | rfl | rfl | rfl | rfl | rfl | rfl <;> rfl
  · rw [if_neg (by decide), if_neg (by decide), if_neg (by decide), if_neg (by decide), if_pos rfl, b112_61 ho (q _), hK]
    rcases (by omega : k = 0 ∨ k = 1 ∨ k = 2 ∨ k = 3 ∨ k = 4 ∨ k = 5 ∨ k = 6) with rfl | rfl | rfl | rfl | rfl | rfl | rfl <;> rfl
  · rw [if_neg (by decide), if_neg (by decide), if_neg (by decide), if_neg (by decide), if_neg (by decide), if_pos rfl, b112_66 ho (q _), hK]
    rcases (by omega : k = 0 ∨ k = 1 ∨ k = 2 ∨ k = 3 ∨ k = 4 ∨ k = 5 ∨ k = 6) with rfl | rfl | rfl | rfl | rfl | rfl | rfl <;> rfl
  · rw [if_neg (by decide), if_neg (by decide), if_neg (by decide), if_neg (by decide), if_neg (by decide), if_neg (by decide), if_pos rfl, b112_71 ho (q _), hK]
    rcases (by omega : k = 0 ∨ k = 1 ∨ k = 2 ∨ k = 3 ∨ k = 4 ∨ k = 5 ∨ k = 6) with rfl | rfl | rfl | rfl | rfl | rfl | rfl <;> rfl
theorem c_29 (ok : gb_ok G) (hR : RC S G) : oC S (d + 1) 102 [.ref 0, .int x, .int y] (.int (an_29 G x y)) G := by
  have hw := hR.1
  have hk : gK G ≤ 6 := ok.1.1.1
  refine oC_id hR ?_
  rcases kw_d (n := 6) (m := 7) rfl (by decide) y with ⟨ep, a1, a2, a3, a4, a5, a6⟩ | ⟨ep, a1, a2, a3, a4, a5, a6⟩ | ⟨n, hp, ep, rfl, a1, a2, a3, a4, a5, a6⟩
  · have eo : an_29 G x y = -2 := by unfold an_29; simp only [ep]
    simp only [eo, b102_0, b102_4, b102_10, b102_13, b102_21, b102_24, b102_27, b102_42, b102_45, b102_52, e102, wx_o0 hw, wx_k0 hw, wx_q0 hw, wx_g0_0 hw, wx_s0_0 hw, wx_g0_1 hw, wx_s0_1 hw, wx_g0_2 hw, wx_s0_2 hw, wx_g0_3 hw, wx_s0_3 hw, wx_g0_4 hw, wx_s0_4 hw, wx_N42 hw, wx_a42 hw, wx_K42 hw, wx_g0_5 hw, wx_s0_5 hw, wx_g0_6 hw, wx_s0_6 hw, wx_N75 hw, wx_a75 hw, wx_K75 hw, wx_g0_7 hw, wx_s0_7 hw, wx_N88 hw, wx_a88 hw, wx_g0_8 hw, wx_s0_8 hw, wx_N89 hw, wx_a89 hw, wx_g0_9 hw, wx_s0_9 hw, wx_N90 hw, wx_a90 hw, wx_g0_10 hw, wx_s0_10 hw, wx_N91 hw, wx_a91 hw, wx_o6 hw, wx_k6 hw, wx_q6 hw, wx_g6_0 hw, wx_s6_0 hw, wx_N7 hw, wx_a7 hw, wx_K7 hw, wx_g6_1 hw, wx_s6_1 hw, wx_N8 hw, wx_a8 hw, wx_g6_2 hw, wx_s6_2 hw, wx_N9 hw, wx_a9 hw, wx_g6_3 hw, wx_s6_3 hw, wx_N10 hw, wx_a10 hw, wx_g6_4 hw, wx_s6_4 hw, wx_N11 hw, wx_a11 hw, wx_g6_5 hw, wx_s6_5 hw, wx_N12 hw, wx_a12 hw, wx_g6_6 hw, wx_s6_6 hw, wx_N13 hw, wx_a13 hw, wx_g6_7 hw, wx_s6_7 hw, wx_N14 hw, wx_a14 hw, List.not_mem_nil, false_implies, implies_true, nI_clamp, nI_add, Nat.reducePow, hp_bd, hp_bdi, hp_ts, hp_tn, hp_tsc, hp_tnc, Nat.reduceAdd, Nat.reduceSub, Nat.reduceMul, Nat.reduceLT, Nat.reduceLeDiff, Nat.reduceEqDiff, reduceIte, not_true_eq_false, not_false_eq_true, and_true, true_and, and_self, and_false, false_and, or_true, true_or, or_false, false_or, decide_true, decide_false, Bool.and_true, Bool.true_and, Bool.not_false, Bool.or_false, Bool.false_or, Bool.or_true, Bool.true_or, a1, a4]
  · have eo : an_29 G x y = -2 := by unfold an_29; simp only [ep]
    simp only [eo, b102_0, b102_4, b102_10, b102_13, b102_21, b102_24, b102_27, b102_42, b102_45, b102_52, e102, wx_o0 hw, wx_k0 hw, wx_q0 hw, wx_g0_0 hw, wx_s0_0 hw, wx_g0_1 hw, wx_s0_1 hw, wx_g0_2 hw, wx_s0_2 hw, wx_g0_3 hw, wx_s0_3 hw, wx_g0_4 hw, wx_s0_4 hw, wx_N42 hw, wx_a42 hw, wx_K42 hw, wx_g0_5 hw, wx_s0_5 hw, wx_g0_6 hw, wx_s0_6 hw, wx_N75 hw, wx_a75 hw, wx_K75 hw, wx_g0_7 hw, wx_s0_7 hw, wx_N88 hw, wx_a88 hw, wx_g0_8 hw, wx_s0_8 hw, wx_N89 hw, wx_a89 hw, wx_g0_9 hw, wx_s0_9 hw, wx_N90 hw, wx_a90 hw, wx_g0_10 hw, wx_s0_10 hw, wx_N91 hw, wx_a91 hw, wx_o6 hw, wx_k6 hw, wx_q6 hw, wx_g6_0 hw, wx_s6_0 hw, wx_N7 hw, wx_a7 hw, wx_K7 hw, wx_g6_1 hw, wx_s6_1 hw, wx_N8 hw, wx_a8 hw, wx_g6_2 hw, wx_s6_2 hw, wx_N9 hw, wx_a9 hw, wx_g6_3 hw, wx_s6_3 hw, wx_N10 hw, wx_a10 hw, wx_g6_4 hw, wx_s6_4 hw, wx_N11 hw, wx_a11 hw, wx_g6_5 hw, wx_s6_5 hw, wx_N12 hw, wx_a12 hw, wx_g6_6 hw, wx_s6_6 hw, wx_N13 hw, wx_a13 hw, wx_g6_7 hw, wx_s6_7 hw, wx_N14 hw, wx_a14 hw, List.not_mem_nil, false_implies, implies_true, nI_clamp, nI_add, Nat.reducePow, hp_bd, hp_bdi, hp_ts, hp_tn, hp_tsc, hp_tnc, Nat.reduceAdd, Nat.reduceSub, Nat.reduceMul, Nat.reduceLT, Nat.reduceLeDiff, Nat.reduceEqDiff, reduceIte, not_true_eq_false, not_false_eq_true, and_true, true_and, and_self, and_false, false_and, or_true, true_or, or_false, false_or, decide_true, decide_false, Bool.and_true, Bool.true_and, Bool.not_false, Bool.or_false, Bool.false_or, Bool.or_true, Bool.true_or, a1, a4]
  · rcases kw_c hk x with ⟨e, h⟩ | ⟨b, hb, e, rfl⟩
    · have k := s8n (d := d) ok hR e
      have eo : an_29 G x (nI n) = -11 := by unfold an_29; simp only [ep, e]
      simp only [eo, b102_0, b102_4, b102_10, b102_13, b102_21, b102_24, b102_27, b102_42, b102_45, b102_52, e102, wx_o0 hw, wx_k0 hw, wx_q0 hw, wx_g0_0 hw, wx_s0_0 hw, wx_g0_1 hw, wx_s0_1 hw, wx_g0_2 hw, wx_s0_2 hw, wx_g0_3 hw, wx_s0_3 hw, wx_g0_4 hw, wx_s0_4 hw, wx_N42 hw, wx_a42 hw, wx_K42 hw, wx_g0_5 hw, wx_s0_5 hw, wx_g0_6 hw, wx_s0_6 hw, wx_N75 hw, wx_a75 hw, wx_K75 hw, wx_g0_7 hw, wx_s0_7 hw, wx_N88 hw, wx_a88 hw, wx_g0_8 hw, wx_s0_8 hw, wx_N89 hw, wx_a89 hw, wx_g0_9 hw, wx_s0_9 hw, wx_N90 hw, wx_a90 hw, wx_g0_10 hw, wx_s0_10 hw, wx_N91 hw, wx_a91 hw, wx_o6 hw, wx_k6 hw, wx_q6 hw, wx_g6_0 hw, wx_s6_0 hw, wx_N7 hw, wx_a7 hw, wx_K7 hw, wx_g6_1 hw, wx_s6_1 hw, wx_N8 hw, wx_a8 hw, wx_g6_2 hw, wx_s6_2 hw, wx_N9 hw, wx_a9 hw, wx_g6_3 hw, wx_s6_3 hw, wx_N10 hw, wx_a10 hw, wx_g6_4 hw, wx_s6_4 hw, wx_N11 hw, wx_a11 hw, wx_g6_5 hw, wx_s6_5 hw, wx_N12 hw, wx_a12 hw, wx_g6_6 hw, wx_s6_6 hw, wx_N13 hw, wx_a13 hw, wx_g6_7 hw, wx_s6_7 hw, wx_N14 hw, wx_a14 hw, List.not_mem_nil, false_implies, implies_true, nI_clamp, nI_add, Nat.reducePow, hp_bd, hp_bdi, hp_ts, hp_tn, hp_tsc, hp_tnc, Nat.reduceAdd, Nat.reduceSub, Nat.reduceMul, Nat.reduceLT, Nat.reduceLeDiff, Nat.reduceEqDiff, reduceIte, not_true_eq_false, not_false_eq_true, and_true, true_and, and_self, and_false, false_and, or_true, true_or, or_false, false_or, decide_true, decide_false, Bool.and_true, Bool.true_and, Bool.not_false, Bool.or_false, Bool.false_or, Bool.or_true, Bool.true_or, a1, a4, i01, k]
    · have k := s8s (d := d) ok hR hb
      have cl : (nI b).toNatClampNeg = b := nI_clamp (by omega)
      have hbi : mm_inb (nI b) 6 = true := hp_inb (by omega) (by omega)
      obtain ⟨q, hq, rgq, rsq, oq, kq, hy⟩ := RC_by ok hR hb
      have hk7 := (ok.1.1.2.2.2.1 b hb).1
      have k112 := s112 (d := d) (k := ab_ki (gP G) b) hk7 hy hp
      have m0 : mm_M S q 0 = nI (ab_ki (gP G) b) := hy.2.2.2.1
      have eo : an_29 G (nI b) (nI n) = if n ∈ ab_above (ab_ki (gP G) b) then nI (ab_ki (gP G) b) else -12 := by unfold an_29; simp only [ep, e]
      rw [eo]
      by_cases hm : n ∈ ab_above (ab_ki (gP G) b)
      · rw [if_pos hm] at k112 ⊢
        simp only [b102_0, b102_4, b102_10, b102_13, b102_21, b102_24, b102_27, b102_42, b102_45, b102_52, e102, wx_o0 hw, wx_k0 hw, wx_q0 hw, wx_g0_0 hw, wx_s0_0 hw, wx_g0_1 hw, wx_s0_1 hw, wx_g0_2 hw, wx_s0_2 hw, wx_g0_3 hw, wx_s0_3 hw, wx_g0_4 hw, wx_s0_4 hw, wx_N42 hw, wx_a42 hw, wx_K42 hw, wx_g0_5 hw, wx_s0_5 hw, wx_g0_6 hw, wx_s0_6 hw, wx_N75 hw, wx_a75 hw, wx_K75 hw, wx_g0_7 hw, wx_s0_7 hw, wx_N88 hw, wx_a88 hw, wx_g0_8 hw, wx_s0_8 hw, wx_N89 hw, wx_a89 hw, wx_g0_9 hw, wx_s0_9 hw, wx_N90 hw, wx_a90 hw, wx_g0_10 hw, wx_s0_10 hw, wx_N91 hw, wx_a91 hw, wx_o6 hw, wx_k6 hw, wx_q6 hw, wx_g6_0 hw, wx_s6_0 hw, wx_N7 hw, wx_a7 hw, wx_K7 hw, wx_g6_1 hw, wx_s6_1 hw, wx_N8 hw, wx_a8 hw, wx_g6_2 hw, wx_s6_2 hw, wx_N9 hw, wx_a9 hw, wx_g6_3 hw, wx_s6_3 hw, wx_N10 hw, wx_a10 hw, wx_g6_4 hw, wx_s6_4 hw, wx_N11 hw, wx_a11 hw, wx_g6_5 hw, wx_s6_5 hw, wx_N12 hw, wx_a12 hw, wx_g6_6 hw, wx_s6_6 hw, wx_N13 hw, wx_a13 hw, wx_g6_7 hw, wx_s6_7 hw, wx_N14 hw, wx_a14 hw, List.not_mem_nil, false_implies, implies_true, nI_clamp, nI_add, Nat.reducePow, hp_bd, hp_bdi, hp_ts, hp_tn, hp_tsc, hp_tnc, Nat.reduceAdd, Nat.reduceSub, Nat.reduceMul, Nat.reduceLT, Nat.reduceLeDiff, Nat.reduceEqDiff, reduceIte, not_true_eq_false, not_false_eq_true, and_true, true_and, and_self, and_false, false_and, or_true, true_or, or_false, false_or, decide_true, decide_false, Bool.and_true, Bool.true_and, Bool.not_false, Bool.or_false, Bool.false_or, Bool.or_true, Bool.true_or, a1, a4, i01, k, cl, hbi, rgq, rsq, k112, oq, m0]
      · rw [if_neg hm] at k112 ⊢
        simp only [b102_0, b102_4, b102_10, b102_13, b102_21, b102_24, b102_27, b102_42, b102_45, b102_52, e102, wx_o0 hw, wx_k0 hw, wx_q0 hw, wx_g0_0 hw, wx_s0_0 hw, wx_g0_1 hw, wx_s0_1 hw, wx_g0_2 hw, wx_s0_2 hw, wx_g0_3 hw, wx_s0_3 hw, wx_g0_4 hw, wx_s0_4 hw, wx_N42 hw, wx_a42 hw, wx_K42 hw, wx_g0_5 hw, wx_s0_5 hw, wx_g0_6 hw, wx_s0_6 hw, wx_N75 hw, wx_a75 hw, wx_K75 hw, wx_g0_7 hw, wx_s0_7 hw, wx_N88 hw, wx_a88 hw, wx_g0_8 hw, wx_s0_8 hw, wx_N89 hw, wx_a89 hw, wx_g0_9 hw, wx_s0_9 hw, wx_N90 hw, wx_a90 hw, wx_g0_10 hw, wx_s0_10 hw, wx_N91 hw, wx_a91 hw, wx_o6 hw, wx_k6 hw, wx_q6 hw, wx_g6_0 hw, wx_s6_0 hw, wx_N7 hw, wx_a7 hw, wx_K7 hw, wx_g6_1 hw, wx_s6_1 hw, wx_N8 hw, wx_a8 hw, wx_g6_2 hw, wx_s6_2 hw, wx_N9 hw, wx_a9 hw, wx_g6_3 hw, wx_s6_3 hw, wx_N10 hw, wx_a10 hw, wx_g6_4 hw, wx_s6_4 hw, wx_N11 hw, wx_a11 hw, wx_g6_5 hw, wx_s6_5 hw, wx_N12 hw, wx_a12 hw, wx_g6_6 hw, wx_s6_6 hw, wx_N13 hw, wx_a13 hw, wx_g6_7 hw, wx_s6_7 hw, wx_N14 hw, wx_a14 hw, List.not_mem_nil, false_implies, implies_true, nI_clamp, nI_add, Nat.reducePow, hp_bd, hp_bdi, hp_ts, hp_tn, hp_tsc, hp_tnc, Nat.reduceAdd, Nat.reduceSub, Nat.reduceMul, Nat.reduceLT, Nat.reduceLeDiff, Nat.reduceEqDiff, reduceIte, not_true_eq_false, not_false_eq_true, and_true, true_and, and_self, and_false, false_and, or_true, true_or, or_false, false_or, decide_true, decide_false, Bool.and_true, Bool.true_and, Bool.not_false, Bool.or_false, Bool.false_or, Bool.or_true, Bool.true_or, a1, a4, i01, k, cl, hbi, rgq, rsq, k112, oq, m0]
theorem c_30 (ok : gb_ok G) (hR : RC S G) : oC S d 103 [.ref 0, .int w] (.int (an_30 G w)) G := by
  have hw := hR.1
  refine oC_id hR ?_
  have h1 : mm_M S 6 10 = nI (gK G) := hR.2.1.1.1
  have h2 : mm_M S 0 11 = nI (gb_s G).length := hR.2.2.2.2.2.1.1
  have h3 : mm_M S 6 17 = nI (gx_f G.1).length := hR.2.1.2.2.2.1
  have h4 : mm_M S 73 0 = nI (gb_t G).length := hR.2.2.2.2.2.2.1.1
  have h5 : mm_M S 88 0 = nI (gb_r G).length := hR.2.2.2.2.2.2.2.2.1
  have c0 : (nI 0).toNatClampNeg = 0 := nI_clamp (by decide)
  have i0 : mm_inb (nI 0) 21 = true := by decide
  unfold an_30
  simp only [b103_0, b103_1, b103_36, b103_44, b103_49, b103_57, b103_65, b103_72, e103, wx_o0 hw, wx_k0 hw, wx_q0 hw, wx_g0_0 hw, wx_s0_0 hw, wx_g0_1 hw, wx_s0_1 hw, wx_g0_2 hw, wx_s0_2 hw, wx_g0_3 hw, wx_s0_3 hw, wx_g0_4 hw, wx_s0_4 hw, wx_N42 hw, wx_a42 hw, wx_K42 hw, wx_g0_5 hw, wx_s0_5 hw, wx_g0_6 hw, wx_s0_6 hw, wx_N75 hw, wx_a75 hw, wx_K75 hw, wx_g0_7 hw, wx_s0_7 hw, wx_N88 hw, wx_a88 hw, wx_g0_8 hw, wx_s0_8 hw, wx_N89 hw, wx_a89 hw, wx_g0_9 hw, wx_s0_9 hw, wx_N90 hw, wx_a90 hw, wx_g0_10 hw, wx_s0_10 hw, wx_N91 hw, wx_a91 hw, wx_o6 hw, wx_k6 hw, wx_q6 hw, wx_g6_0 hw, wx_s6_0 hw, wx_N7 hw, wx_a7 hw, wx_K7 hw, wx_g6_1 hw, wx_s6_1 hw, wx_N8 hw, wx_a8 hw, wx_g6_2 hw, wx_s6_2 hw, wx_N9 hw, wx_a9 hw, wx_g6_3 hw, wx_s6_3 hw, wx_N10 hw, wx_a10 hw, wx_g6_4 hw, wx_s6_4 hw, wx_N11 hw, wx_a11 hw, wx_g6_5 hw, wx_s6_5 hw, wx_N12 hw, wx_a12 hw, wx_g6_6 hw, wx_s6_6 hw, wx_N13 hw, wx_a13 hw, wx_g6_7 hw, wx_s6_7 hw, wx_N14 hw, wx_a14 hw, wx_o73 hw, wx_k73 hw, wx_q73 hw, wx_g73_1 hw, wx_s73_1 hw, wx_N74 hw, wx_a74 hw, List.not_mem_nil, false_implies, implies_true, nI_clamp, nI_add, Nat.reducePow, hp_bd, hp_bdi, hp_ts, hp_tn, hp_tsc, hp_tnc, Nat.reduceAdd, Nat.reduceSub, Nat.reduceMul, Nat.reduceLT, Nat.reduceLeDiff, Nat.reduceEqDiff, reduceIte, not_true_eq_false, not_false_eq_true, and_true, true_and, and_self, and_false, false_and, or_true, true_or, or_false, false_or, decide_true, decide_false, Bool.and_true, Bool.true_and, Bool.not_false, Bool.or_false, Bool.false_or, Bool.or_true, Bool.true_or, h1, h2, h3, h4, h5, c0, i0]
  by_cases w0 : w = nI 0
  · rw [if_pos w0, if_pos w0]
  rw [if_neg w0, if_neg w0]
  by_cases w1 : w = nI 1
  · rw [if_pos w1, if_pos w1]
  rw [if_neg w1, if_neg w1]
  by_cases w2 : w = nI 2
  · rw [if_pos w2, if_pos w2]
  rw [if_neg w2, if_neg w2]
  by_cases w3 : w = nI 3
  · rw [if_pos w3, if_pos w3]
  rw [if_neg w3, if_neg w3]
  by_cases w4 : w = nI 4
  · rw [if_pos w4, if_pos w4]
  rw [if_neg w4, if_neg w4]
end C2
end
section
/-! ===== calls of the class: tapes ===== -/
section TPX
variable {F : Nat → Nat → Prop} {S T : mm_S} {G : gb_G} {d t a b n i j : Nat} {x y : Int32} {v : Int64}
theorem t109n (e : ab_kw 6 x = none) : mm_cl d 109 [.int x] S = some (some (.int (nI 0)), S) := by
  rw [s109]
  unfold ab_kw at e
  by_cases q : x < nI 0 ∨ nI 6 ≤ x
  · rw [if_pos q]
  · rw [if_neg q] at e; cases e
theorem t109s (ht : t < 6) : mm_cl d 109 [.int (nI t)] S = some (some (.int (nI 1)), S) := by
  rw [s109, if_neg (fun e => e.elim (nI_n0 (by omega)) (nI_ge ht (by omega)))]
theorem sf_zL (h : ∀ j, F a j) : sf_f F S (mm_zL S a b n) := by
  refine ⟨fun c j hc => ⟨rfl, ?_, rfl⟩, fun _ _ => ⟨rfl, rfl⟩, Nat.le_refl _⟩
  rw [hz_L, if_neg (fun e => hc (by rw [e.1]; exact h j))]
theorem sf_cpL {c k : Nat} (h : ∀ j, F b j) : sf_f F S (mm_cpL S a b c k n) := by
  refine ⟨fun e j hc => ⟨rfl, ?_, rfl⟩, fun _ _ => ⟨rfl, rfl⟩, Nat.le_refl _⟩
  rw [hp_LcpL, if_neg (fun q => hc (by rw [q.1]; exact h j))]
theorem s64 (ho : mm_obj S t 8 = true) : mm_cl d 64 [.ref t, .long v] S = some (some (.long (ab_cut (mm_M S t 1) v)), S) := by
  unfold ab_cut
  rw [e64, b64_0 ho, b64_4]
  by_cases h0 : mm_M S t 1 = nI 0
  · rw [if_pos h0, if_pos h0, b64_40]
  rw [if_neg h0, if_neg h0]
  by_cases h1 : mm_M S t 1 = nI 1
  · rw [if_pos h1, if_pos h1, b64_45]
  rw [if_neg h1, if_neg h1]
  by_cases h2 : mm_M S t 1 = nI 2
  · rw [if_pos h2, if_pos h2, b64_50]
  rw [if_neg h2, if_neg h2]
  by_cases h4 : mm_M S t 1 = nI 4
  · rw [if_pos h4, if_pos h4, b64_54]
    by_cases h5 : lg_cmp v 0 = nI 0
    · rw [if_pos h5, if_pos h5, b64_64]
    · rw [if_neg h5, if_neg h5, b64_60]
  rw [if_neg h4, if_neg h4, b64_66]
theorem s63 (ho : mm_obj S t 8 = true) : mm_cl d 63 [.ref t, .int x, .int y] S = some (some (.int (if y < nI 0 ∨ x < nI 0 ∨ mm_M S t 2 < y ∨ mm_M S t 2 - y < x then nI 0 else nI 1)), S) := by
  simp only [b63_0, b63_4, b63_8, b63_16, b63_26, b63_30, e63, ho, if_or3, if_res]
theorem s63n (ho : mm_obj S t 8 = true) (h2 : mm_M S t 2 = nI n) (hn : n ≤ 60) (e : ab_kw 61 y = none ∨ ab_kw 61 x = none) : mm_cl d 63 [.ref t, .int x, .int y] S = some (some (.int (nI 0)), S) := by
  rw [s63 ho, h2, if_pos ?_]
  have t0 : (nI 0).toInt = 0 := rfl
  have tn : (nI n).toInt = (n : Int) := nI_toInt (by omega)
  have t60 : (nI 60).toInt = 60 := rfl
  rcases kw_d (n := 60) (m := 61) rfl (by decide) y with ⟨-, a1, -⟩ | ⟨-, -, -, a3, -⟩ | ⟨j, hj, ej, rfl, -⟩
  · exact Or.inl (of_eq_true a1)
  · refine Or.inr (Or.inr (Or.inl ?_))
    have := of_eq_true a3
    rw [Int32.lt_iff_toInt_lt] at this ⊢
    omega
  · rcases e with e | e
    · rw [e] at ej; cases ej
    · rcases kw_d (n := 60) (m := 61) rfl (by decide) x with ⟨-, a1, -⟩ | ⟨-, -, -, a3, -⟩ | ⟨k, hk, ek, rfl, -⟩
      · exact Or.inr (Or.inl (of_eq_true a1))
      · by_cases h : n < j
        · exact Or.inr (Or.inr (Or.inl (nI_lt h (by omega))))
        · refine Or.inr (Or.inr (Or.inr ?_))
          have := of_eq_true a3
          rw [pk_sub (by omega)]
          rw [Int32.lt_iff_toInt_lt] at this ⊢
          rw [nI_toInt (by omega)]
          omega
      · rw [e] at ek; cases ek
theorem s63s (ho : mm_obj S t 8 = true) (h2 : mm_M S t 2 = nI n) (hn : n ≤ 60) (hi : i < 61) (hj : j < 61) : mm_cl d 63 [.ref t, .int (nI i), .int (nI j)] S = some (some (.int (if i + j ≤ n then nI 1 else nI 0)), S) := by
  rw [s63 ho, h2]
  by_cases h : i + j ≤ n
  · rw [if_pos h, if_neg]
    intro q
    rcases q with q | q | q | q
    · exact nI_n0 (by omega) q
    · exact nI_n0 (by omega) q
    · exact nI_nlt (by omega) (by omega) q
    · rw [pk_sub (by omega)] at q
      exact nI_nlt (by omega) (by omega) q
  · rw [if_neg h, if_pos]
    by_cases h3 : n < j
    · exact Or.inr (Or.inr (Or.inl (nI_lt h3 (by omega))))
    · refine Or.inr (Or.inr (Or.inr ?_))
      rw [pk_sub (by omega)]
      exact nI_lt (by omega) (by omega)
theorem cp_ok {n0 n1 : Nat} (hi : i < 61) (hj : j < 61) (hn : n < 61) (h1 : i + n ≤ n0) (h2 : j + n ≤ n1) : mm_cpOk (nI i) (nI j) (nI n) n0 n1 = true := by
  unfold mm_cpOk
  rw [nI_clamp (by omega), nI_clamp (by omega), nI_clamp (by omega), decide_eq_true h1, decide_eq_true h2, decide_eq_false (nI_pos (n := i) (by omega)), decide_eq_false (nI_pos (n := j) (by omega)), decide_eq_false (nI_pos (n := n) (by omega))]
  rfl
theorem gp_up {f : Nat → Int32 × Nat × (Nat → Int64)} {g : Int32 × Nat × (Nat → Int64)} (h : gc_p S f) (ht : t < 6) (h1 : mm_M T (76 + 2 * t) 1 = g.1) (h2 : mm_M T (76 + 2 * t) 2 = nI g.2.1) (h3 : ∀ i, i < g.2.1 → mm_L T (77 + 2 * t) i = g.2.2 i) (h4 : ∀ u, u ≠ t → ∀ j, mm_M T (76 + 2 * u) j = mm_M S (76 + 2 * u) j ∧ mm_L T (77 + 2 * u) j = mm_L S (77 + 2 * u) j) : gc_p T (ab_up1 f t g) := by
  intro u hu
  unfold ab_up1
  by_cases e : u = t
  · subst e
    rw [if_pos rfl]
    exact ⟨h1, h2, h3⟩
  · rw [if_neg e]
    obtain ⟨q1, q2, q3⟩ := h u hu
    exact ⟨(h4 u e 1).1.trans q1, (h4 u e 2).1.trans q2, fun i hi => (h4 u e i).2.trans (q3 i hi)⟩
theorem be_sf (ht : t < 6) : sf_f gc_pp S (mm_be S t x y) := by
  unfold mm_be
  exact sf_tr (sf_tr (sf_uM (by unfold gc_pp; omega)) (sf_uM (by unfold gc_pp; omega))) (sf_zL (fun j => by unfold gc_pp; omega))
theorem be_p {f : Nat → Int32 × Nat × (Nat → Int64)} (h : gc_p S f) (ht : t < 6) (hn : n ≤ 60) (hy : y = nI n) : gc_p (mm_be S t x y) (ab_up1 f t (x, n, fun _ => 0)) := by
  unfold mm_be
  refine gp_up h ht ?_ ?_ (fun i hi => ?_) (fun u hu j => ⟨?_, ?_⟩)
  · rw [hz_M, rdn (by omega), rds]
  · rw [hz_M, rds, hy]
  · have hi2 : i < n := hi
    rw [hz_L, if_pos ⟨rfl, by omega, by omega⟩]
  · rw [hz_M, rdn (by omega), rdn (by omega)]
  · rw [hz_L, if_neg (by omega)]; rfl
end TPX
section C3
variable {S T : mm_S} {G : gb_G} {d b n : Nat} {x y w t s i o j : Int32} {v : Int64}
theorem tsz (ok : gb_ok G) {t : Nat} (ht : t < 6) : (gb_p G t).2.1 ≤ 60 := by
  rcases ok.2.2.2.2.2.2.1 t ht with ⟨-, h⟩ | ⟨-, h⟩ <;> omega
theorem tso (ok : gb_ok G) {t : Nat} (ht : t < 6) : (gb_p G t).1 = -1 → (gb_p G t).2.1 = 0 := by
  intro e
  rcases ok.2.2.2.2.2.2.1 t ht with ⟨-, h⟩ | ⟨⟨k, hk, h⟩, -⟩
  · exact h
  · rw [h] at e
    have h1 := congrArg Int32.toInt e
    rw [nI_toInt (by omega)] at h1
    have h2 : (-1 : Int32).toInt = -1 := rfl
    omega
theorem c_31 (ok : gb_ok G) (hR : RC S G) : oC S (d + 1) 104 [.ref 0, .int t, .int s, .int y] (.int (op_31 G t s y).1) (op_31 G t s y).2 := by
  have hw := hR.1
  have hp := hR.2.2.2.2.2.2.2.1
  rcases kw_c (n := 6) (by decide) t with ⟨e, h⟩ | ⟨t, ht, e, rfl⟩
  · have k := t109n (d := d) (S := S) e
    have eo : op_31 G t s y = (-1, G) := by unfold op_31; simp only [e]
    rw [eo]
    refine oC_id hR ?_
    simp only [b104_0, b104_4, b104_7, b104_9, b104_14, b104_25, b104_27, b104_31, b104_36, b104_42, b104_45, b104_49, b104_52, b104_63, e104, wx_o0 hw, wx_k0 hw, wx_q0 hw, wx_g0_0 hw, wx_s0_0 hw, wx_g0_1 hw, wx_s0_1 hw, wx_g0_2 hw, wx_s0_2 hw, wx_g0_3 hw, wx_s0_3 hw, wx_g0_4 hw, wx_s0_4 hw, wx_N42 hw, wx_a42 hw, wx_K42 hw, wx_g0_5 hw, wx_s0_5 hw, wx_g0_6 hw, wx_s0_6 hw, wx_N75 hw, wx_a75 hw, wx_K75 hw, wx_g0_7 hw, wx_s0_7 hw, wx_N88 hw, wx_a88 hw, wx_g0_8 hw, wx_s0_8 hw, wx_N89 hw, wx_a89 hw, wx_g0_9 hw, wx_s0_9 hw, wx_N90 hw, wx_a90 hw, wx_g0_10 hw, wx_s0_10 hw, wx_N91 hw, wx_a91 hw, wx_g75_0 hw, wx_s75_0 hw, wx_g75_1 hw, wx_s75_1 hw, wx_g75_2 hw, wx_s75_2 hw, wx_g75_3 hw, wx_s75_3 hw, wx_g75_4 hw, wx_s75_4 hw, wx_g75_5 hw, wx_s75_5 hw, List.not_mem_nil, false_implies, implies_true, nI_clamp, nI_add, Nat.reducePow, hp_bd, hp_bdi, hp_ts, hp_tn, hp_tsc, hp_tnc, Nat.reduceAdd, Nat.reduceSub, Nat.reduceMul, Nat.reduceLT, Nat.reduceLeDiff, Nat.reduceEqDiff, reduceIte, not_true_eq_false, not_false_eq_true, and_true, true_and, and_self, and_false, false_and, or_true, true_or, or_false, false_or, decide_true, decide_false, Bool.and_true, Bool.true_and, Bool.not_false, Bool.or_false, Bool.false_or, Bool.or_true, Bool.true_or, i01, k]
  · have k := t109s (d := d) (S := S) ht
    have cl : (nI t).toNatClampNeg = t := nI_clamp (by omega)
    have hbi : mm_inb (nI t) 6 = true := hp_inb (by omega) (by omega)
    have q1 := tp_g hw ht
    have q2 := tp_s hw ht
    have q3 := tp_o hw ht
    have q4 := tp_k hw ht
    by_cases hs : s = -1
    · subst hs
      have eo : op_31 G (nI t) (-1) y = (nI 1, gS_p G (ab_up1 (gb_p G) t (-1, 0, fun _ => 0))) := by unfold op_31; simp only [e, if_true]
      rw [eo]
      have k60 := s60t (d := d) (s := -1) (n := nI 0) hw ht
      refine ⟨mm_be S t (-1) (nI 0), ?_, RC_p ok (be_sf ht) hw hR (be_p hp ht (by decide) rfl), pp_0 (be_sf ht), sz_s rfl rfl⟩
      simp only [b104_0, b104_4, b104_7, b104_9, b104_14, b104_25, b104_27, b104_31, b104_36, b104_42, b104_45, b104_49, b104_52, b104_63, e104, wx_o0 hw, wx_k0 hw, wx_q0 hw, wx_g0_0 hw, wx_s0_0 hw, wx_g0_1 hw, wx_s0_1 hw, wx_g0_2 hw, wx_s0_2 hw, wx_g0_3 hw, wx_s0_3 hw, wx_g0_4 hw, wx_s0_4 hw, wx_N42 hw, wx_a42 hw, wx_K42 hw, wx_g0_5 hw, wx_s0_5 hw, wx_g0_6 hw, wx_s0_6 hw, wx_N75 hw, wx_a75 hw, wx_K75 hw, wx_g0_7 hw, wx_s0_7 hw, wx_N88 hw, wx_a88 hw, wx_g0_8 hw, wx_s0_8 hw, wx_N89 hw, wx_a89 hw, wx_g0_9 hw, wx_s0_9 hw, wx_N90 hw, wx_a90 hw, wx_g0_10 hw, wx_s0_10 hw, wx_N91 hw, wx_a91 hw, wx_g75_0 hw, wx_s75_0 hw, wx_g75_1 hw, wx_s75_1 hw, wx_g75_2 hw, wx_s75_2 hw, wx_g75_3 hw, wx_s75_3 hw, wx_g75_4 hw, wx_s75_4 hw, wx_g75_5 hw, wx_s75_5 hw, List.not_mem_nil, false_implies, implies_true, nI_clamp, nI_add, Nat.reducePow, hp_bd, hp_bdi, hp_ts, hp_tn, hp_tsc, hp_tnc, Nat.reduceAdd, Nat.reduceSub, Nat.reduceMul, Nat.reduceLT, Nat.reduceLeDiff, Nat.reduceEqDiff, reduceIte, not_true_eq_false, not_false_eq_true, and_true, true_and, and_self, and_false, false_and, or_true, true_or, or_false, false_or, decide_true, decide_false, Bool.and_true, Bool.true_and, Bool.not_false, Bool.or_false, Bool.false_or, Bool.or_true, Bool.true_or, i01, k, cl, hbi, q1, q2, q3, q4, k60]
    · rcases kw_d (n := 4) (m := 5) rfl (by decide) s with ⟨ep, a1, a2, a3, a4, a5, a6⟩ | ⟨ep, a1, a2, a3, a4, a5, a6⟩ | ⟨s, hs5, ep, rfl, a1, a2, a3, a4, a5, a6⟩
      · have eo : op_31 G (nI t) s y = (-2, G) := by unfold op_31; simp only [e, hs, if_false, ep]
        rw [eo]
        refine oC_id hR ?_
        simp only [b104_0, b104_4, b104_7, b104_9, b104_14, b104_25, b104_27, b104_31, b104_36, b104_42, b104_45, b104_49, b104_52, b104_63, e104, wx_o0 hw, wx_k0 hw, wx_q0 hw, wx_g0_0 hw, wx_s0_0 hw, wx_g0_1 hw, wx_s0_1 hw, wx_g0_2 hw, wx_s0_2 hw, wx_g0_3 hw, wx_s0_3 hw, wx_g0_4 hw, wx_s0_4 hw, wx_N42 hw, wx_a42 hw, wx_K42 hw, wx_g0_5 hw, wx_s0_5 hw, wx_g0_6 hw, wx_s0_6 hw, wx_N75 hw, wx_a75 hw, wx_K75 hw, wx_g0_7 hw, wx_s0_7 hw, wx_N88 hw, wx_a88 hw, wx_g0_8 hw, wx_s0_8 hw, wx_N89 hw, wx_a89 hw, wx_g0_9 hw, wx_s0_9 hw, wx_N90 hw, wx_a90 hw, wx_g0_10 hw, wx_s0_10 hw, wx_N91 hw, wx_a91 hw, wx_g75_0 hw, wx_s75_0 hw, wx_g75_1 hw, wx_s75_1 hw, wx_g75_2 hw, wx_s75_2 hw, wx_g75_3 hw, wx_s75_3 hw, wx_g75_4 hw, wx_s75_4 hw, wx_g75_5 hw, wx_s75_5 hw, List.not_mem_nil, false_implies, implies_true, nI_clamp, nI_add, Nat.reducePow, hp_bd, hp_bdi, hp_ts, hp_tn, hp_tsc, hp_tnc, Nat.reduceAdd, Nat.reduceSub, Nat.reduceMul, Nat.reduceLT, Nat.reduceLeDiff, Nat.reduceEqDiff, reduceIte, not_true_eq_false, not_false_eq_true, and_true, true_and, and_self, and_false, false_and, or_true, true_or, or_false, false_or, decide_true, decide_false, Bool.and_true, Bool.true_and, Bool.not_false, Bool.or_false, Bool.false_or, Bool.or_true, Bool.true_or, i01, k, hs, a1]
      · have eo : op_31 G (nI t) s y = (-2, G) := by unfold op_31; simp only [e, hs, if_false, ep]
        rw [eo]
        refine oC_id hR ?_
        simp only [b104_0, b104_4, b104_7, b104_9, b104_14, b104_25, b104_27, b104_31, b104_36, b104_42, b104_45, b104_49, b104_52, b104_63, e104, wx_o0 hw, wx_k0 hw, wx_q0 hw, wx_g0_0 hw, wx_s0_0 hw, wx_g0_1 hw, wx_s0_1 hw, wx_g0_2 hw, wx_s0_2 hw, wx_g0_3 hw, wx_s0_3 hw, wx_g0_4 hw, wx_s0_4 hw, wx_N42 hw, wx_a42 hw, wx_K42 hw, wx_g0_5 hw, wx_s0_5 hw, wx_g0_6 hw, wx_s0_6 hw, wx_N75 hw, wx_a75 hw, wx_K75 hw, wx_g0_7 hw, wx_s0_7 hw, wx_N88 hw, wx_a88 hw, wx_g0_8 hw, wx_s0_8 hw, wx_N89 hw, wx_a89 hw, wx_g0_9 hw, wx_s0_9 hw, wx_N90 hw, wx_a90 hw, wx_g0_10 hw, wx_s0_10 hw, wx_N91 hw, wx_a91 hw, wx_g75_0 hw, wx_s75_0 hw, wx_g75_1 hw, wx_s75_1 hw, wx_g75_2 hw, wx_s75_2 hw, wx_g75_3 hw, wx_s75_3 hw, wx_g75_4 hw, wx_s75_4 hw, wx_g75_5 hw, wx_s75_5 hw, List.not_mem_nil, false_implies, implies_true, nI_clamp, nI_add, Nat.reducePow, hp_bd, hp_bdi, hp_ts, hp_tn, hp_tsc, hp_tnc, Nat.reduceAdd, Nat.reduceSub, Nat.reduceMul, Nat.reduceLT, Nat.reduceLeDiff, Nat.reduceEqDiff, reduceIte, not_true_eq_false, not_false_eq_true, and_true, true_and, and_self, and_false, false_and, or_true, true_or, or_false, false_or, decide_true, decide_false, Bool.and_true, Bool.true_and, Bool.not_false, Bool.or_false, Bool.false_or, Bool.or_true, Bool.true_or, i01, k, hs, a1, a3]
      · rcases kw_d (n := 60) (m := 61) rfl (by decide) y with ⟨ey, c1, c2, c3, c4, c5, c6⟩ | ⟨ey, c1, c2, c3, c4, c5, c6⟩ | ⟨y, hy, ey, rfl, c1, c2, c3, c4, c5, c6⟩
        · have eo : op_31 G (nI t) (nI s) y = (-14, G) := by unfold op_31; simp only [e, hs, if_false, ep, c1, c3, if_true]
          rw [eo]
          refine oC_id hR ?_
          simp only [b104_0, b104_4, b104_7, b104_9, b104_14, b104_25, b104_27, b104_31, b104_36, b104_42, b104_45, b104_49, b104_52, b104_63, e104, wx_o0 hw, wx_k0 hw, wx_q0 hw, wx_g0_0 hw, wx_s0_0 hw, wx_g0_1 hw, wx_s0_1 hw, wx_g0_2 hw, wx_s0_2 hw, wx_g0_3 hw, wx_s0_3 hw, wx_g0_4 hw, wx_s0_4 hw, wx_N42 hw, wx_a42 hw, wx_K42 hw, wx_g0_5 hw, wx_s0_5 hw, wx_g0_6 hw, wx_s0_6 hw, wx_N75 hw, wx_a75 hw, wx_K75 hw, wx_g0_7 hw, wx_s0_7 hw, wx_N88 hw, wx_a88 hw, wx_g0_8 hw, wx_s0_8 hw, wx_N89 hw, wx_a89 hw, wx_g0_9 hw, wx_s0_9 hw, wx_N90 hw, wx_a90 hw, wx_g0_10 hw, wx_s0_10 hw, wx_N91 hw, wx_a91 hw, wx_g75_0 hw, wx_s75_0 hw, wx_g75_1 hw, wx_s75_1 hw, wx_g75_2 hw, wx_s75_2 hw, wx_g75_3 hw, wx_s75_3 hw, wx_g75_4 hw, wx_s75_4 hw, wx_g75_5 hw, wx_s75_5 hw, List.not_mem_nil, false_implies, implies_true, nI_clamp, nI_add, Nat.reducePow, hp_bd, hp_bdi, hp_ts, hp_tn, hp_tsc, hp_tnc, Nat.reduceAdd, Nat.reduceSub, Nat.reduceMul, Nat.reduceLT, Nat.reduceLeDiff, Nat.reduceEqDiff, reduceIte, not_true_eq_false, not_false_eq_true, and_true, true_and, and_self, and_false, false_and, or_true, true_or, or_false, false_or, decide_true, decide_false, Bool.and_true, Bool.true_and, Bool.not_false, Bool.or_false, Bool.false_or, Bool.or_true, Bool.true_or, i01, k, hs, a1, a3, c2, c4]
        · have eo : op_31 G (nI t) (nI s) y = (-2, G) := by unfold op_31; simp only [e, hs, if_false, ep, c3, if_true]
          rw [eo]
          refine oC_id hR ?_
          simp only [b104_0, b104_4, b104_7, b104_9, b104_14, b104_25, b104_27, b104_31, b104_36, b104_42, b104_45, b104_49, b104_52, b104_63, e104, wx_o0 hw, wx_k0 hw, wx_q0 hw, wx_g0_0 hw, wx_s0_0 hw, wx_g0_1 hw, wx_s0_1 hw, wx_g0_2 hw, wx_s0_2 hw, wx_g0_3 hw, wx_s0_3 hw, wx_g0_4 hw, wx_s0_4 hw, wx_N42 hw, wx_a42 hw, wx_K42 hw, wx_g0_5 hw, wx_s0_5 hw, wx_g0_6 hw, wx_s0_6 hw, wx_N75 hw, wx_a75 hw, wx_K75 hw, wx_g0_7 hw, wx_s0_7 hw, wx_N88 hw, wx_a88 hw, wx_g0_8 hw, wx_s0_8 hw, wx_N89 hw, wx_a89 hw, wx_g0_9 hw, wx_s0_9 hw, wx_N90 hw, wx_a90 hw, wx_g0_10 hw, wx_s0_10 hw, wx_N91 hw, wx_a91 hw, wx_g75_0 hw, wx_s75_0 hw, wx_g75_1 hw, wx_s75_1 hw, wx_g75_2 hw, wx_s75_2 hw, wx_g75_3 hw, wx_s75_3 hw, wx_g75_4 hw, wx_s75_4 hw, wx_g75_5 hw, wx_s75_5 hw, List.not_mem_nil, false_implies, implies_true, nI_clamp, nI_add, Nat.reducePow, hp_bd, hp_bdi, hp_ts, hp_tn, hp_tsc, hp_tnc, Nat.reduceAdd, Nat.reduceSub, Nat.reduceMul, Nat.reduceLT, Nat.reduceLeDiff, Nat.reduceEqDiff, reduceIte, not_true_eq_false, not_false_eq_true, and_true, true_and, and_self, and_false, false_and, or_true, true_or, or_false, false_or, decide_true, decide_false, Bool.and_true, Bool.true_and, Bool.not_false, Bool.or_false, Bool.false_or, Bool.or_true, Bool.true_or, i01, k, hs, a1, a3, c4]
        · have cy : (nI y).toNatClampNeg = y := nI_clamp (by omega)
          have eo : op_31 G (nI t) (nI s) (nI y) = (nI 1, gS_p G (ab_up1 (gb_p G) t (nI s, y, fun _ => 0))) := by unfold op_31; simp only [e, hs, if_false, ep, c1, c3, cy]
          rw [eo]
          have k60 := s60t (d := d) (s := nI s) (n := nI y) hw ht
          refine ⟨mm_be S t (nI s) (nI y), ?_, RC_p ok (be_sf ht) hw hR (be_p hp ht (by omega) rfl), pp_0 (be_sf ht), sz_s rfl rfl⟩
          simp only [b104_0, b104_4, b104_7, b104_9, b104_14, b104_25, b104_27, b104_31, b104_36, b104_42, b104_45, b104_49, b104_52, b104_63, e104, wx_o0 hw, wx_k0 hw, wx_q0 hw, wx_g0_0 hw, wx_s0_0 hw, wx_g0_1 hw, wx_s0_1 hw, wx_g0_2 hw, wx_s0_2 hw, wx_g0_3 hw, wx_s0_3 hw, wx_g0_4 hw, wx_s0_4 hw, wx_N42 hw, wx_a42 hw, wx_K42 hw, wx_g0_5 hw, wx_s0_5 hw, wx_g0_6 hw, wx_s0_6 hw, wx_N75 hw, wx_a75 hw, wx_K75 hw, wx_g0_7 hw, wx_s0_7 hw, wx_N88 hw, wx_a88 hw, wx_g0_8 hw, wx_s0_8 hw, wx_N89 hw, wx_a89 hw, wx_g0_9 hw, wx_s0_9 hw, wx_N90 hw, wx_a90 hw, wx_g0_10 hw, wx_s0_10 hw, wx_N91 hw, wx_a91 hw, wx_g75_0 hw, wx_s75_0 hw, wx_g75_1 hw, wx_s75_1 hw, wx_g75_2 hw, wx_s75_2 hw, wx_g75_3 hw, wx_s75_3 hw, wx_g75_4 hw, wx_s75_4 hw, wx_g75_5 hw, wx_s75_5 hw, List.not_mem_nil, false_implies, implies_true, nI_clamp, nI_add, Nat.reducePow, hp_bd, hp_bdi, hp_ts, hp_tn, hp_tsc, hp_tnc, Nat.reduceAdd, Nat.reduceSub, Nat.reduceMul, Nat.reduceLT, Nat.reduceLeDiff, Nat.reduceEqDiff, reduceIte, not_true_eq_false, not_false_eq_true, and_true, true_and, and_self, and_false, false_and, or_true, true_or, or_false, false_or, decide_true, decide_false, Bool.and_true, Bool.true_and, Bool.not_false, Bool.or_false, Bool.false_or, Bool.or_true, Bool.true_or, i01, k, cl, hbi, q1, q2, q3, q4, k60, hs, a1, a3, c2, c4]
theorem s62n {t n : Nat} (ho : mm_obj S t 8 = true) (h2 : mm_M S t 2 = nI n) (e : ab_kw n x = none) : mm_cl d 62 [.ref t, .int x] S = some (some (.int (nI 0)), S) := by
  rw [s62 ho, h2]
  unfold ab_kw at e
  by_cases q : x < nI 0 ∨ nI n ≤ x
  · rw [if_pos q]
  · rw [if_neg q] at e; cases e
theorem s62s {t n i : Nat} (ho : mm_obj S t 8 = true) (h2 : mm_M S t 2 = nI n) (hn : n ≤ 60) (hi : i < n) : mm_cl d 62 [.ref t, .int (nI i)] S = some (some (.int (nI 1)), S) := by
  rw [s62 ho, h2, if_neg (fun e => e.elim (nI_n0 (by omega)) (nI_ge hi (by omega)))]
theorem kw_e {n : Nat} (hn : n ≤ 60) (x : Int32) : ab_kw n x = none ∨ ∃ b, b < n ∧ ab_kw n x = some b ∧ x = nI b := by
  cases n with
  | zero =>
    left
    unfold ab_kw
    by_cases h : x < nI 0
    · exact if_pos (Or.inl h)
    · refine if_pos (Or.inr ?_)
      rw [Int32.le_iff_toInt_le]
      rw [Int32.lt_iff_toInt_lt] at h
      omega
  | succ n =>
    rcases kw_d (n := n) rfl (by omega) x with ⟨e, -⟩ | ⟨e, -⟩ | ⟨j, hj, e, h, -⟩
    · exact Or.inl e
    · exact Or.inl e
    · exact Or.inr ⟨j, hj, e, h⟩
theorem c_32 (ok : gb_ok G) (hR : RC S G) : oC S (d + 1) 105 [.ref 0, .int t, .int i, .long v] (.int (op_32 G t i v).1) (op_32 G t i v).2 := by
  have hw := hR.1
  have hp := hR.2.2.2.2.2.2.2.1
  rcases kw_c (n := 6) (by decide) t with ⟨e, h⟩ | ⟨t, ht, e, rfl⟩
  · have k := t109n (d := d) (S := S) e
    have eo : op_32 G t i v = (-1, G) := by unfold op_32; simp only [e]
    rw [eo]
    refine oC_id hR ?_
    simp only [b105_0, b105_4, b105_7, b105_9, b105_22, b105_25, b105_28, b105_34, b105_37, b105_40, b105_52, e105, wx_o0 hw, wx_k0 hw, wx_q0 hw, wx_g0_0 hw, wx_s0_0 hw, wx_g0_1 hw, wx_s0_1 hw, wx_g0_2 hw, wx_s0_2 hw, wx_g0_3 hw, wx_s0_3 hw, wx_g0_4 hw, wx_s0_4 hw, wx_N42 hw, wx_a42 hw, wx_K42 hw, wx_g0_5 hw, wx_s0_5 hw, wx_g0_6 hw, wx_s0_6 hw, wx_N75 hw, wx_a75 hw, wx_K75 hw, wx_g0_7 hw, wx_s0_7 hw, wx_N88 hw, wx_a88 hw, wx_g0_8 hw, wx_s0_8 hw, wx_N89 hw, wx_a89 hw, wx_g0_9 hw, wx_s0_9 hw, wx_N90 hw, wx_a90 hw, wx_g0_10 hw, wx_s0_10 hw, wx_N91 hw, wx_a91 hw, wx_g75_0 hw, wx_s75_0 hw, wx_g75_1 hw, wx_s75_1 hw, wx_g75_2 hw, wx_s75_2 hw, wx_g75_3 hw, wx_s75_3 hw, wx_g75_4 hw, wx_s75_4 hw, wx_g75_5 hw, wx_s75_5 hw, List.not_mem_nil, false_implies, implies_true, nI_clamp, nI_add, Nat.reducePow, hp_bd, hp_bdi, hp_ts, hp_tn, hp_tsc, hp_tnc, Nat.reduceAdd, Nat.reduceSub, Nat.reduceMul, Nat.reduceLT, Nat.reduceLeDiff, Nat.reduceEqDiff, reduceIte, not_true_eq_false, not_false_eq_true, and_true, true_and, and_self, and_false, false_and, or_true, true_or, or_false, false_or, decide_true, decide_false, Bool.and_true, Bool.true_and, Bool.not_false, Bool.or_false, Bool.false_or, Bool.or_true, Bool.true_or, i01, k]
  · have k := t109s (d := d) (S := S) ht
    have cl : (nI t).toNatClampNeg = t := nI_clamp (by omega)
    have hbi : mm_inb (nI t) 6 = true := hp_inb (by omega) (by omega)
    have q1 := tp_g hw ht
    have q2 := tp_s hw ht
    have q3 := tp_o hw ht
    have q4 := tp_k hw ht
    have q5 := tp_g0 hw ht
    have q6 := tp_s0 hw ht
    have q7 := tp_a hw ht
    have q8 := tp_N hw ht
    obtain ⟨p1, p2, p3⟩ := hp t ht
    have k61 := s61 (d := d) hw q3
    rw [p1] at k61
    have sz := tsz ok ht
    by_cases hs : (gb_p G t).1 = -1
    · have eo : op_32 G (nI t) i v = (-11, G) := by unfold op_32; simp only [e, hs, if_true]
      rw [eo]
      rw [if_pos hs] at k61
      refine oC_id hR ?_
      simp only [b105_0, b105_4, b105_7, b105_9, b105_22, b105_25, b105_28, b105_34, b105_37, b105_40, b105_52, e105, wx_o0 hw, wx_k0 hw, wx_q0 hw, wx_g0_0 hw, wx_s0_0 hw, wx_g0_1 hw, wx_s0_1 hw, wx_g0_2 hw, wx_s0_2 hw, wx_g0_3 hw, wx_s0_3 hw, wx_g0_4 hw, wx_s0_4 hw, wx_N42 hw, wx_a42 hw, wx_K42 hw, wx_g0_5 hw, wx_s0_5 hw, wx_g0_6 hw, wx_s0_6 hw, wx_N75 hw, wx_a75 hw, wx_K75 hw, wx_g0_7 hw, wx_s0_7 hw, wx_N88 hw, wx_a88 hw, wx_g0_8 hw, wx_s0_8 hw, wx_N89 hw, wx_a89 hw, wx_g0_9 hw, wx_s0_9 hw, wx_N90 hw, wx_a90 hw, wx_g0_10 hw, wx_s0_10 hw, wx_N91 hw, wx_a91 hw, wx_g75_0 hw, wx_s75_0 hw, wx_g75_1 hw, wx_s75_1 hw, wx_g75_2 hw, wx_s75_2 hw, wx_g75_3 hw, wx_s75_3 hw, wx_g75_4 hw, wx_s75_4 hw, wx_g75_5 hw, wx_s75_5 hw, List.not_mem_nil, false_implies, implies_true, nI_clamp, nI_add, Nat.reducePow, hp_bd, hp_bdi, hp_ts, hp_tn, hp_tsc, hp_tnc, Nat.reduceAdd, Nat.reduceSub, Nat.reduceMul, Nat.reduceLT, Nat.reduceLeDiff, Nat.reduceEqDiff, reduceIte, not_true_eq_false, not_false_eq_true, and_true, true_and, and_self, and_false, false_and, or_true, true_or, or_false, false_or, decide_true, decide_false, Bool.and_true, Bool.true_and, Bool.not_false, Bool.or_false, Bool.false_or, Bool.or_true, Bool.true_or, i01, k, cl, hbi, q1, q2, q3, q4, k61]
    · rw [if_neg hs] at k61
      rcases kw_e sz i with ei | ⟨i, hi, ei, rfl⟩
      · have k62 := s62n (d := d) q3 p2 ei
        have eo : op_32 G (nI t) i v = (-13, G) := by unfold op_32; simp only [e, hs, if_false, ei]
        rw [eo]
        refine oC_id hR ?_
        simp only [b105_0, b105_4, b105_7, b105_9, b105_22, b105_25, b105_28, b105_34, b105_37, b105_40, b105_52, e105, wx_o0 hw, wx_k0 hw, wx_q0 hw, wx_g0_0 hw, wx_s0_0 hw, wx_g0_1 hw, wx_s0_1 hw, wx_g0_2 hw, wx_s0_2 hw, wx_g0_3 hw, wx_s0_3 hw, wx_g0_4 hw, wx_s0_4 hw, wx_N42 hw, wx_a42 hw, wx_K42 hw, wx_g0_5 hw, wx_s0_5 hw, wx_g0_6 hw, wx_s0_6 hw, wx_N75 hw, wx_a75 hw, wx_K75 hw, wx_g0_7 hw, wx_s0_7 hw, wx_N88 hw, wx_a88 hw, wx_g0_8 hw, wx_s0_8 hw, wx_N89 hw, wx_a89 hw, wx_g0_9 hw, wx_s0_9 hw, wx_N90 hw, wx_a90 hw, wx_g0_10 hw, wx_s0_10 hw, wx_N91 hw, wx_a91 hw, wx_g75_0 hw, wx_s75_0 hw, wx_g75_1 hw, wx_s75_1 hw, wx_g75_2 hw, wx_s75_2 hw, wx_g75_3 hw, wx_s75_3 hw, wx_g75_4 hw, wx_s75_4 hw, wx_g75_5 hw, wx_s75_5 hw, List.not_mem_nil, false_implies, implies_true, nI_clamp, nI_add, Nat.reducePow, hp_bd, hp_bdi, hp_ts, hp_tn, hp_tsc, hp_tnc, Nat.reduceAdd, Nat.reduceSub, Nat.reduceMul, Nat.reduceLT, Nat.reduceLeDiff, Nat.reduceEqDiff, reduceIte, not_true_eq_false, not_false_eq_true, and_true, true_and, and_self, and_false, false_and, or_true, true_or, or_false, false_or, decide_true, decide_false, Bool.and_true, Bool.true_and, Bool.not_false, Bool.or_false, Bool.false_or, Bool.or_true, Bool.true_or, i01, k, cl, hbi, q1, q2, q3, q4, k61, k62]
      · have k62 := s62s (d := d) q3 p2 sz hi
        have k64 := s64 (d := d) (v := v) q3
        rw [p1] at k64
        have ci : (nI i).toNatClampNeg = i := nI_clamp (by omega)
        have ii : mm_inb (nI i) 60 = true := hp_inb (by omega) (by omega)
        have eo : op_32 G (nI t) (nI i) v = (nI 1, gS_p G (ab_up1 (gb_p G) t ((gb_p G t).1, (gb_p G t).2.1, ab_up1 (gb_p G t).2.2 i (ab_cut (gb_p G t).1 v)))) := by unfold op_32; simp only [e, hs, if_false, ei]
        have f : sf_f gc_pp S (mm_uL S (77 + 2 * t) i (ab_cut (gb_p G t).1 v)) := sf_uL (by unfold gc_pp; omega)
        rw [eo]
        refine ⟨mm_uL S (77 + 2 * t) i (ab_cut (gb_p G t).1 v), ?_, RC_p ok f hw hR (gp_up hp ht p1 p2 (fun k hk => ?_) (fun u hu k => ⟨rfl, ?_⟩)), pp_0 f, sz_s rfl rfl⟩
        · simp only [b105_0, b105_4, b105_7, b105_9, b105_22, b105_25, b105_28, b105_34, b105_37, b105_40, b105_52, e105, wx_o0 hw, wx_k0 hw, wx_q0 hw, wx_g0_0 hw, wx_s0_0 hw, wx_g0_1 hw, wx_s0_1 hw, wx_g0_2 hw, wx_s0_2 hw, wx_g0_3 hw, wx_s0_3 hw, wx_g0_4 hw, wx_s0_4 hw, wx_N42 hw, wx_a42 hw, wx_K42 hw, wx_g0_5 hw, wx_s0_5 hw, wx_g0_6 hw, wx_s0_6 hw, wx_N75 hw, wx_a75 hw, wx_K75 hw, wx_g0_7 hw, wx_s0_7 hw, wx_N88 hw, wx_a88 hw, wx_g0_8 hw, wx_s0_8 hw, wx_N89 hw, wx_a89 hw, wx_g0_9 hw, wx_s0_9 hw, wx_N90 hw, wx_a90 hw, wx_g0_10 hw, wx_s0_10 hw, wx_N91 hw, wx_a91 hw, wx_g75_0 hw, wx_s75_0 hw, wx_g75_1 hw, wx_s75_1 hw, wx_g75_2 hw, wx_s75_2 hw, wx_g75_3 hw, wx_s75_3 hw, wx_g75_4 hw, wx_s75_4 hw, wx_g75_5 hw, wx_s75_5 hw, List.not_mem_nil, false_implies, implies_true, nI_clamp, nI_add, Nat.reducePow, hp_bd, hp_bdi, hp_ts, hp_tn, hp_tsc, hp_tnc, Nat.reduceAdd, Nat.reduceSub, Nat.reduceMul, Nat.reduceLT, Nat.reduceLeDiff, Nat.reduceEqDiff, reduceIte, not_true_eq_false, not_false_eq_true, and_true, true_and, and_self, and_false, false_and, or_true, true_or, or_false, false_or, decide_true, decide_false, Bool.and_true, Bool.true_and, Bool.not_false, Bool.or_false, Bool.false_or, Bool.or_true, Bool.true_or, i01, k, cl, hbi, q1, q2, q3, q4, q5, q6, q7, q8, k61, k62, k64, ci, ii]
        · rw [hp_LuL]
          show _ = (if k = i then ab_cut (gb_p G t).1 v else (gb_p G t).2.2 k)
          by_cases h : k = i
          · rw [if_pos ⟨rfl, h⟩, if_pos h]
          · rw [if_neg (fun e => h e.2), if_neg h]; exact p3 k hk
        · rw [hp_LuL, if_neg (by omega)]
theorem c_33 (ok : gb_ok G) (hR : RC S G) : oC S (d + 1) 106 [.ref 0, .int t, .int i] (.long (an_33 G t i)) G := by
  have hw := hR.1
  have hp := hR.2.2.2.2.2.2.2.1
  refine oC_id hR ?_
  rcases kw_c (n := 6) (by decide) t with ⟨e, h⟩ | ⟨t, ht, e, rfl⟩
  · have k := t109n (d := d) (S := S) e
    have eo : an_33 G t i = -9223372036854775808 := by unfold an_33; simp only [e]
    simp only [eo, b106_0, b106_4, b106_7, b106_17, b106_20, b106_34, e106, wx_o0 hw, wx_k0 hw, wx_q0 hw, wx_g0_0 hw, wx_s0_0 hw, wx_g0_1 hw, wx_s0_1 hw, wx_g0_2 hw, wx_s0_2 hw, wx_g0_3 hw, wx_s0_3 hw, wx_g0_4 hw, wx_s0_4 hw, wx_N42 hw, wx_a42 hw, wx_K42 hw, wx_g0_5 hw, wx_s0_5 hw, wx_g0_6 hw, wx_s0_6 hw, wx_N75 hw, wx_a75 hw, wx_K75 hw, wx_g0_7 hw, wx_s0_7 hw, wx_N88 hw, wx_a88 hw, wx_g0_8 hw, wx_s0_8 hw, wx_N89 hw, wx_a89 hw, wx_g0_9 hw, wx_s0_9 hw, wx_N90 hw, wx_a90 hw, wx_g0_10 hw, wx_s0_10 hw, wx_N91 hw, wx_a91 hw, wx_g75_0 hw, wx_s75_0 hw, wx_g75_1 hw, wx_s75_1 hw, wx_g75_2 hw, wx_s75_2 hw, wx_g75_3 hw, wx_s75_3 hw, wx_g75_4 hw, wx_s75_4 hw, wx_g75_5 hw, wx_s75_5 hw, List.not_mem_nil, false_implies, implies_true, nI_clamp, nI_add, Nat.reducePow, hp_bd, hp_bdi, hp_ts, hp_tn, hp_tsc, hp_tnc, Nat.reduceAdd, Nat.reduceSub, Nat.reduceMul, Nat.reduceLT, Nat.reduceLeDiff, Nat.reduceEqDiff, reduceIte, not_true_eq_false, not_false_eq_true, and_true, true_and, and_self, and_false, false_and, or_true, true_or, or_false, false_or, decide_true, decide_false, Bool.and_true, Bool.true_and, Bool.not_false, Bool.or_false, Bool.false_or, Bool.or_true, Bool.true_or, i01, k]
  · have k := t109s (d := d) (S := S) ht
    have cl : (nI t).toNatClampNeg = t := nI_clamp (by omega)
    have hbi : mm_inb (nI t) 6 = true := hp_inb (by omega) (by omega)
    have q1 := tp_g hw ht
    have q2 := tp_s hw ht
    have q3 := tp_o hw ht
    have q4 := tp_k hw ht
    have q5 := tp_g0 hw ht
    have q6 := tp_s0 hw ht
    have q7 := tp_a hw ht
    have q8 := tp_N hw ht
    obtain ⟨p1, p2, p3⟩ := hp t ht
    have sz := tsz ok ht
    rcases kw_e sz i with ei | ⟨i, hi, ei, rfl⟩
    · have k62 := s62n (d := d) q3 p2 ei
      have eo : an_33 G (nI t) i = -9223372036854775808 := by unfold an_33; simp only [e, ei]
      simp only [eo, b106_0, b106_4, b106_7, b106_17, b106_20, b106_34, e106, wx_o0 hw, wx_k0 hw, wx_q0 hw, wx_g0_0 hw, wx_s0_0 hw, wx_g0_1 hw, wx_s0_1 hw, wx_g0_2 hw, wx_s0_2 hw, wx_g0_3 hw, wx_s0_3 hw, wx_g0_4 hw, wx_s0_4 hw, wx_N42 hw, wx_a42 hw, wx_K42 hw, wx_g0_5 hw, wx_s0_5 hw, wx_g0_6 hw, wx_s0_6 hw, wx_N75 hw, wx_a75 hw, wx_K75 hw, wx_g0_7 hw, wx_s0_7 hw, wx_N88 hw, wx_a88 hw, wx_g0_8 hw, wx_s0_8 hw, wx_N89 hw, wx_a89 hw, wx_g0_9 hw, wx_s0_9 hw, wx_N90 hw, wx_a90 hw, wx_g0_10 hw, wx_s0_10 hw, wx_N91 hw, wx_a91 hw, wx_g75_0 hw, wx_s75_0 hw, wx_g75_1 hw, wx_s75_1 hw, wx_g75_2 hw, wx_s75_2 hw, wx_g75_3 hw, wx_s75_3 hw, wx_g75_4 hw, wx_s75_4 hw, wx_g75_5 hw, wx_s75_5 hw, List.not_mem_nil, false_implies, implies_true, nI_clamp, nI_add, Nat.reducePow, hp_bd, hp_bdi, hp_ts, hp_tn, hp_tsc, hp_tnc, Nat.reduceAdd, Nat.reduceSub, Nat.reduceMul, Nat.reduceLT, Nat.reduceLeDiff, Nat.reduceEqDiff, reduceIte, not_true_eq_false, not_false_eq_true, and_true, true_and, and_self, and_false, false_and, or_true, true_or, or_false, false_or, decide_true, decide_false, Bool.and_true, Bool.true_and, Bool.not_false, Bool.or_false, Bool.false_or, Bool.or_true, Bool.true_or, i01, k, cl, hbi, q1, q2, q3, q4, k62]
    · have k62 := s62s (d := d) q3 p2 sz hi
      have ci : (nI i).toNatClampNeg = i := nI_clamp (by omega)
      have ii : mm_inb (nI i) 60 = true := hp_inb (by omega) (by omega)
      have eo : an_33 G (nI t) (nI i) = (gb_p G t).2.2 i := by unfold an_33; simp only [e, ei]
      have g := p3 i hi
      simp only [eo, b106_0, b106_4, b106_7, b106_17, b106_20, b106_34, e106, wx_o0 hw, wx_k0 hw, wx_q0 hw, wx_g0_0 hw, wx_s0_0 hw, wx_g0_1 hw, wx_s0_1 hw, wx_g0_2 hw, wx_s0_2 hw, wx_g0_3 hw, wx_s0_3 hw, wx_g0_4 hw, wx_s0_4 hw, wx_N42 hw, wx_a42 hw, wx_K42 hw, wx_g0_5 hw, wx_s0_5 hw, wx_g0_6 hw, wx_s0_6 hw, wx_N75 hw, wx_a75 hw, wx_K75 hw, wx_g0_7 hw, wx_s0_7 hw, wx_N88 hw, wx_a88 hw, wx_g0_8 hw, wx_s0_8 hw, wx_N89 hw, wx_a89 hw, wx_g0_9 hw, wx_s0_9 hw, wx_N90 hw, wx_a90 hw, wx_g0_10 hw, wx_s0_10 hw, wx_N91 hw, wx_a91 hw, wx_g75_0 hw, wx_s75_0 hw, wx_g75_1 hw, wx_s75_1 hw, wx_g75_2 hw, wx_s75_2 hw, wx_g75_3 hw, wx_s75_3 hw, wx_g75_4 hw, wx_s75_4 hw, wx_g75_5 hw, wx_s75_5 hw, List.not_mem_nil, false_implies, implies_true, nI_clamp, nI_add, Nat.reducePow, hp_bd, hp_bdi, hp_ts, hp_tn, hp_tsc, hp_tnc, Nat.reduceAdd, Nat.reduceSub, Nat.reduceMul, Nat.reduceLT, Nat.reduceLeDiff, Nat.reduceEqDiff, reduceIte, not_true_eq_false, not_false_eq_true, and_true, true_and, and_self, and_false, false_and, or_true, true_or, or_false, false_or, decide_true, decide_false, Bool.and_true, Bool.true_and, Bool.not_false, Bool.or_false, Bool.false_or, Bool.or_true, Bool.true_or, i01, k, cl, hbi, q1, q2, q3, q4, q5, q6, q7, q8, k62, ci, ii, g]
theorem c_34 (ok : gb_ok G) (hR : RC S G) : oC S (d + 1) 107 [.ref 0, .int t, .int i, .int o, .int j, .int y] (.int (op_34 G t i o j y).1) (op_34 G t i o j y).2 := by
  have hw := hR.1
  have hp := hR.2.2.2.2.2.2.2.1
  rcases kw_c (n := 6) (by decide) t with ⟨e, h⟩ | ⟨t, ht, e, rfl⟩
  · have k := t109n (d := d) (S := S) e
    have eo : op_34 G t i o j y = (-1, G) := by unfold op_34; simp only [e]
    rw [eo]
    refine oC_id hR ?_
    simp only [b107_0, b107_4, b107_7, b107_11, b107_14, b107_16, b107_37, b107_40, b107_45, b107_48, b107_51, b107_64, b107_67, b107_75, b107_78, b107_87, b107_90, b107_93, e107, wx_o0 hw, wx_k0 hw, wx_q0 hw, wx_g0_0 hw, wx_s0_0 hw, wx_g0_1 hw, wx_s0_1 hw, wx_g0_2 hw, wx_s0_2 hw, wx_g0_3 hw, wx_s0_3 hw, wx_g0_4 hw, wx_s0_4 hw, wx_N42 hw, wx_a42 hw, wx_K42 hw, wx_g0_5 hw, wx_s0_5 hw, wx_g0_6 hw, wx_s0_6 hw, wx_N75 hw, wx_a75 hw, wx_K75 hw, wx_g0_7 hw, wx_s0_7 hw, wx_N88 hw, wx_a88 hw, wx_g0_8 hw, wx_s0_8 hw, wx_N89 hw, wx_a89 hw, wx_g0_9 hw, wx_s0_9 hw, wx_N90 hw, wx_a90 hw, wx_g0_10 hw, wx_s0_10 hw, wx_N91 hw, wx_a91 hw, wx_g75_0 hw, wx_s75_0 hw, wx_g75_1 hw, wx_s75_1 hw, wx_g75_2 hw, wx_s75_2 hw, wx_g75_3 hw, wx_s75_3 hw, wx_g75_4 hw, wx_s75_4 hw, wx_g75_5 hw, wx_s75_5 hw, List.not_mem_nil, false_implies, implies_true, nI_clamp, nI_add, Nat.reducePow, hp_bd, hp_bdi, hp_ts, hp_tn, hp_tsc, hp_tnc, Nat.reduceAdd, Nat.reduceSub, Nat.reduceMul, Nat.reduceLT, Nat.reduceLeDiff, Nat.reduceEqDiff, reduceIte, not_true_eq_false, not_false_eq_true, and_true, true_and, and_self, and_false, false_and, or_true, true_or, or_false, false_or, decide_true, decide_false, Bool.and_true, Bool.true_and, Bool.not_false, Bool.or_false, Bool.false_or, Bool.or_true, Bool.true_or, i01, k]
  · have k := t109s (d := d) (S := S) ht
    rcases kw_c (n := 6) (by decide) o with ⟨eu, h⟩ | ⟨u, hu, eu, rfl⟩
    · have k2 := t109n (d := d) (S := S) eu
      have eo : op_34 G (nI t) i o j y = (-1, G) := by unfold op_34; simp only [e, eu]
      rw [eo]
      refine oC_id hR ?_
      simp only [b107_0, b107_4, b107_7, b107_11, b107_14, b107_16, b107_37, b107_40, b107_45, b107_48, b107_51, b107_64, b107_67, b107_75, b107_78, b107_87, b107_90, b107_93, e107, wx_o0 hw, wx_k0 hw, wx_q0 hw, wx_g0_0 hw, wx_s0_0 hw, wx_g0_1 hw, wx_s0_1 hw, wx_g0_2 hw, wx_s0_2 hw, wx_g0_3 hw, wx_s0_3 hw, wx_g0_4 hw, wx_s0_4 hw, wx_N42 hw, wx_a42 hw, wx_K42 hw, wx_g0_5 hw, wx_s0_5 hw, wx_g0_6 hw, wx_s0_6 hw, wx_N75 hw, wx_a75 hw, wx_K75 hw, wx_g0_7 hw, wx_s0_7 hw, wx_N88 hw, wx_a88 hw, wx_g0_8 hw, wx_s0_8 hw, wx_N89 hw, wx_a89 hw, wx_g0_9 hw, wx_s0_9 hw, wx_N90 hw, wx_a90 hw, wx_g0_10 hw, wx_s0_10 hw, wx_N91 hw, wx_a91 hw, wx_g75_0 hw, wx_s75_0 hw, wx_g75_1 hw, wx_s75_1 hw, wx_g75_2 hw, wx_s75_2 hw, wx_g75_3 hw, wx_s75_3 hw, wx_g75_4 hw, wx_s75_4 hw, wx_g75_5 hw, wx_s75_5 hw, List.not_mem_nil, false_implies, implies_true, nI_clamp, nI_add, Nat.reducePow, hp_bd, hp_bdi, hp_ts, hp_tn, hp_tsc, hp_tnc, Nat.reduceAdd, Nat.reduceSub, Nat.reduceMul, Nat.reduceLT, Nat.reduceLeDiff, Nat.reduceEqDiff, reduceIte, not_true_eq_false, not_false_eq_true, and_true, true_and, and_self, and_false, false_and, or_true, true_or, or_false, false_or, decide_true, decide_false, Bool.and_true, Bool.true_and, Bool.not_false, Bool.or_false, Bool.false_or, Bool.or_true, Bool.true_or, i01, k, k2]
    · have k2 := t109s (d := d) (S := S) hu
      have cl : (nI t).toNatClampNeg = t := nI_clamp (by omega)
      have hbi : mm_inb (nI t) 6 = true := hp_inb (by omega) (by omega)
      have cu : (nI u).toNatClampNeg = u := nI_clamp (by omega)
      have hui : mm_inb (nI u) 6 = true := hp_inb (by omega) (by omega)
      have q1 := tp_g hw ht
      have q2 := tp_s hw ht
      have q3 := tp_o hw ht
      have q4 := tp_k hw ht
      have q5 := tp_g0 hw ht
      have q6 := tp_s0 hw ht
      have q7 := tp_a hw ht
      have q8 := tp_N hw ht
      have r1 := tp_g hw hu
      have r2 := tp_s hw hu
      have r3 := tp_o hw hu
      have r4 := tp_k hw hu
      have r5 := tp_g0 hw hu
      have r6 := tp_s0 hw hu
      have r7 := tp_a hw hu
      have r8 := tp_N hw hu
      obtain ⟨p1, p2, p3⟩ := hp t ht
      obtain ⟨u1, u2, u3⟩ := hp u hu
      have sz := tsz ok ht
      have su := tsz ok hu
      have k61 := s61 (d := d) hw q3
      have k61u := s61 (d := d) hw r3
      rw [p1] at k61
      rw [u1] at k61u
      by_cases hs : (gb_p G t).1 = -1
      · have eo : op_34 G (nI t) i (nI u) j y = (-11, G) := by unfold op_34; simp only [e, eu, hs, true_or, if_true]
        rw [eo]
        rw [if_pos hs] at k61
        refine oC_id hR ?_
        simp only [b107_0, b107_4, b107_7, b107_11, b107_14, b107_16, b107_37, b107_40, b107_45, b107_48, b107_51, b107_64, b107_67, b107_75, b107_78, b107_87, b107_90, b107_93, e107, wx_o0 hw, wx_k0 hw, wx_q0 hw, wx_g0_0 hw, wx_s0_0 hw, wx_g0_1 hw, wx_s0_1 hw, wx_g0_2 hw, wx_s0_2 hw, wx_g0_3 hw, wx_s0_3 hw, wx_g0_4 hw, wx_s0_4 hw, wx_N42 hw, wx_a42 hw, wx_K42 hw, wx_g0_5 hw, wx_s0_5 hw, wx_g0_6 hw, wx_s0_6 hw, wx_N75 hw, wx_a75 hw, wx_K75 hw, wx_g0_7 hw, wx_s0_7 hw, wx_N88 hw, wx_a88 hw, wx_g0_8 hw, wx_s0_8 hw, wx_N89 hw, wx_a89 hw, wx_g0_9 hw, wx_s0_9 hw, wx_N90 hw, wx_a90 hw, wx_g0_10 hw, wx_s0_10 hw, wx_N91 hw, wx_a91 hw, wx_g75_0 hw, wx_s75_0 hw, wx_g75_1 hw, wx_s75_1 hw, wx_g75_2 hw, wx_s75_2 hw, wx_g75_3 hw, wx_s75_3 hw, wx_g75_4 hw, wx_s75_4 hw, wx_g75_5 hw, wx_s75_5 hw, List.not_mem_nil, false_implies, implies_true, nI_clamp, nI_add, Nat.reducePow, hp_bd, hp_bdi, hp_ts, hp_tn, hp_tsc, hp_tnc, Nat.reduceAdd, Nat.reduceSub, Nat.reduceMul, Nat.reduceLT, Nat.reduceLeDiff, Nat.reduceEqDiff, reduceIte, not_true_eq_false, not_false_eq_true, and_true, true_and, and_self, and_false, false_and, or_true, true_or, or_false, false_or, decide_true, decide_false, Bool.and_true, Bool.true_and, Bool.not_false, Bool.or_false, Bool.false_or, Bool.or_true, Bool.true_or, i01, k, k2, cl, hbi, cu, hui, q1, q2, q3, q4, r1, r2, r3, r4, k61]
      rw [if_neg hs] at k61
      by_cases hs2 : (gb_p G u).1 = -1
      · have eo : op_34 G (nI t) i (nI u) j y = (-11, G) := by unfold op_34; simp only [e, eu, hs2, or_true, if_true]
        rw [eo]
        rw [if_pos hs2] at k61u
        refine oC_id hR ?_
        simp only [b107_0, b107_4, b107_7, b107_11, b107_14, b107_16, b107_37, b107_40, b107_45, b107_48, b107_51, b107_64, b107_67, b107_75, b107_78, b107_87, b107_90, b107_93, e107, wx_o0 hw, wx_k0 hw, wx_q0 hw, wx_g0_0 hw, wx_s0_0 hw, wx_g0_1 hw, wx_s0_1 hw, wx_g0_2 hw, wx_s0_2 hw, wx_g0_3 hw, wx_s0_3 hw, wx_g0_4 hw, wx_s0_4 hw, wx_N42 hw, wx_a42 hw, wx_K42 hw, wx_g0_5 hw, wx_s0_5 hw, wx_g0_6 hw, wx_s0_6 hw, wx_N75 hw, wx_a75 hw, wx_K75 hw, wx_g0_7 hw, wx_s0_7 hw, wx_N88 hw, wx_a88 hw, wx_g0_8 hw, wx_s0_8 hw, wx_N89 hw, wx_a89 hw, wx_g0_9 hw, wx_s0_9 hw, wx_N90 hw, wx_a90 hw, wx_g0_10 hw, wx_s0_10 hw, wx_N91 hw, wx_a91 hw, wx_g75_0 hw, wx_s75_0 hw, wx_g75_1 hw, wx_s75_1 hw, wx_g75_2 hw, wx_s75_2 hw, wx_g75_3 hw, wx_s75_3 hw, wx_g75_4 hw, wx_s75_4 hw, wx_g75_5 hw, wx_s75_5 hw, List.not_mem_nil, false_implies, implies_true, nI_clamp, nI_add, Nat.reducePow, hp_bd, hp_bdi, hp_ts, hp_tn, hp_tsc, hp_tnc, Nat.reduceAdd, Nat.reduceSub, Nat.reduceMul, Nat.reduceLT, Nat.reduceLeDiff, Nat.reduceEqDiff, reduceIte, not_true_eq_false, not_false_eq_true, and_true, true_and, and_self, and_false, false_and, or_true, true_or, or_false, false_or, decide_true, decide_false, Bool.and_true, Bool.true_and, Bool.not_false, Bool.or_false, Bool.false_or, Bool.or_true, Bool.true_or, i01, k, k2, cl, hbi, cu, hui, q1, q2, q3, q4, r1, r2, r3, r4, k61, k61u]
      rw [if_neg hs2] at k61u
      by_cases hne : (gb_p G t).1 = (gb_p G u).1
      · have pre : ∀ z, op_34 G (nI t) i (nI u) j y = z ↔ (match ab_kw 61 y, ab_kw 61 i, ab_kw 61 j with
    | some n, some i, some j => if i + n ≤ (gb_p G t).2.1 ∧ j + n ≤ (gb_p G u).2.1 then (nI n, gS_p G (ab_up1 (gb_p G) u ((gb_p G u).1, (gb_p G u).2.1, va_cpy (gb_p G t).2.2 (gb_p G u).2.2 i j n))) else (-13, G)
    | _, _, _ => (-13, G)) = z := by
          intro z
          unfold op_34
          simp only [e, eu]
          rw [if_neg (fun q => q.elim hs hs2), if_neg (fun q => q hne)]
          try exact Iff.rfl
        by_cases b1 : ab_kw 61 y = none ∨ ab_kw 61 i = none
        · have k63 := s63n (d := d) q3 p2 sz b1
          have eo : op_34 G (nI t) i (nI u) j y = (-13, G) := by
            rw [pre]
            rcases b1 with b1 | b1
            · simp only [b1]
            · rw [b1]
              cases ab_kw 61 y <;> rfl
          rw [eo]
          refine oC_id hR ?_
          simp only [b107_0, b107_4, b107_7, b107_11, b107_14, b107_16, b107_37, b107_40, b107_45, b107_48, b107_51, b107_64, b107_67, b107_75, b107_78, b107_87, b107_90, b107_93, e107, wx_o0 hw, wx_k0 hw, wx_q0 hw, wx_g0_0 hw, wx_s0_0 hw, wx_g0_1 hw, wx_s0_1 hw, wx_g0_2 hw, wx_s0_2 hw, wx_g0_3 hw, wx_s0_3 hw, wx_g0_4 hw, wx_s0_4 hw, wx_N42 hw, wx_a42 hw, wx_K42 hw, wx_g0_5 hw, wx_s0_5 hw, wx_g0_6 hw, wx_s0_6 hw, wx_N75 hw, wx_a75 hw, wx_K75 hw, wx_g0_7 hw, wx_s0_7 hw, wx_N88 hw, wx_a88 hw, wx_g0_8 hw, wx_s0_8 hw, wx_N89 hw, wx_a89 hw, wx_g0_9 hw, wx_s0_9 hw, wx_N90 hw, wx_a90 hw, wx_g0_10 hw, wx_s0_10 hw, wx_N91 hw, wx_a91 hw, wx_g75_0 hw, wx_s75_0 hw, wx_g75_1 hw, wx_s75_1 hw, wx_g75_2 hw, wx_s75_2 hw, wx_g75_3 hw, wx_s75_3 hw, wx_g75_4 hw, wx_s75_4 hw, wx_g75_5 hw, wx_s75_5 hw, List.not_mem_nil, false_implies, implies_true, nI_clamp, nI_add, Nat.reducePow, hp_bd, hp_bdi, hp_ts, hp_tn, hp_tsc, hp_tnc, Nat.reduceAdd, Nat.reduceSub, Nat.reduceMul, Nat.reduceLT, Nat.reduceLeDiff, Nat.reduceEqDiff, reduceIte, not_true_eq_false, not_false_eq_true, and_true, true_and, and_self, and_false, false_and, or_true, true_or, or_false, false_or, decide_true, decide_false, Bool.and_true, Bool.true_and, Bool.not_false, Bool.or_false, Bool.false_or, Bool.or_true, Bool.true_or, i01, k, k2, cl, hbi, cu, hui, q1, q2, q3, q4, r1, r2, r3, r4, k61, k61u, p1, u1, hne, k63]
        · rcases kw_d (n := 60) (m := 61) rfl (by decide) y with ⟨z, -⟩ | ⟨z, -⟩ | ⟨n, hn, ey, rfl, -⟩
          · exact absurd (Or.inl z) b1
          · exact absurd (Or.inl z) b1
          rcases kw_d (n := 60) (m := 61) rfl (by decide) i with ⟨z, -⟩ | ⟨z, -⟩ | ⟨i, hi, ei, rfl, -⟩
          · exact absurd (Or.inr z) b1
          · exact absurd (Or.inr z) b1
          have k63 := s63s (d := d) q3 p2 sz hi hn
          by_cases l1 : i + n ≤ (gb_p G t).2.1
          · rw [if_pos l1] at k63
            by_cases b2 : ab_kw 61 j = none
            · have k63u := s63n (d := d) (y := nI n) r3 u2 su (Or.inr b2)
              have eo : op_34 G (nI t) (nI i) (nI u) j (nI n) = (-13, G) := by rw [pre, b2, ey, ei]
              rw [eo]
              refine oC_id hR ?_
              simp only [b107_0, b107_4, b107_7, b107_11, b107_14, b107_16, b107_37, b107_40, b107_45, b107_48, b107_51, b107_64, b107_67, b107_75, b107_78, b107_87, b107_90, b107_93, e107, wx_o0 hw, wx_k0 hw, wx_q0 hw, wx_g0_0 hw, wx_s0_0 hw, wx_g0_1 hw, wx_s0_1 hw, wx_g0_2 hw, wx_s0_2 hw, wx_g0_3 hw, wx_s0_3 hw, wx_g0_4 hw, wx_s0_4 hw, wx_N42 hw, wx_a42 hw, wx_K42 hw, wx_g0_5 hw, wx_s0_5 hw, wx_g0_6 hw, wx_s0_6 hw, wx_N75 hw, wx_a75 hw, wx_K75 hw, wx_g0_7 hw, wx_s0_7 hw, wx_N88 hw, wx_a88 hw, wx_g0_8 hw, wx_s0_8 hw, wx_N89 hw, wx_a89 hw, wx_g0_9 hw, wx_s0_9 hw, wx_N90 hw, wx_a90 hw, wx_g0_10 hw, wx_s0_10 hw, wx_N91 hw, wx_a91 hw, wx_g75_0 hw, wx_s75_0 hw, wx_g75_1 hw, wx_s75_1 hw, wx_g75_2 hw, wx_s75_2 hw, wx_g75_3 hw, wx_s75_3 hw, wx_g75_4 hw, wx_s75_4 hw, wx_g75_5 hw, wx_s75_5 hw, List.not_mem_nil, false_implies, implies_true, nI_clamp, nI_add, Nat.reducePow, hp_bd, hp_bdi, hp_ts, hp_tn, hp_tsc, hp_tnc, Nat.reduceAdd, Nat.reduceSub, Nat.reduceMul, Nat.reduceLT, Nat.reduceLeDiff, Nat.reduceEqDiff, reduceIte, not_true_eq_false, not_false_eq_true, and_true, true_and, and_self, and_false, false_and, or_true, true_or, or_false, false_or, decide_true, decide_false, Bool.and_true, Bool.true_and, Bool.not_false, Bool.or_false, Bool.false_or, Bool.or_true, Bool.true_or, i01, k, k2, cl, hbi, cu, hui, q1, q2, q3, q4, r1, r2, r3, r4, k61, k61u, p1, u1, hne, k63, k63u]
            · rcases kw_d (n := 60) (m := 61) rfl (by decide) j with ⟨z, -⟩ | ⟨z, -⟩ | ⟨j, hj, ej, rfl, -⟩
              · exact absurd z b2
              · exact absurd z b2
              have k63u := s63s (d := d) r3 u2 su hj hn
              by_cases l2 : j + n ≤ (gb_p G u).2.1
              · rw [if_pos l2] at k63u
                have eo : op_34 G (nI t) (nI i) (nI u) (nI j) (nI n) = (nI n, gS_p G (ab_up1 (gb_p G) u ((gb_p G u).1, (gb_p G u).2.1, va_cpy (gb_p G t).2.2 (gb_p G u).2.2 i j n))) := by
                  rw [pre, ey, ei, ej]
                  exact if_pos ⟨l1, l2⟩
                have f : sf_f gc_pp S (mm_cpL S (77 + 2 * t) (77 + 2 * u) i j n) := sf_cpL (fun j => by unfold gc_pp; omega)
                have ci : (nI i).toNatClampNeg = i := nI_clamp (by omega)
                have cj : (nI j).toNatClampNeg = j := nI_clamp (by omega)
                have cn : (nI n).toNatClampNeg = n := nI_clamp (by omega)
                have cpo : mm_cpOk (nI i) (nI j) (nI n) 60 60 = true := cp_ok hi hj hn (by omega) (by omega)
                rw [eo]
                refine ⟨mm_cpL S (77 + 2 * t) (77 + 2 * u) i j n, ?_, RC_p ok f hw hR (gp_up hp hu u1 u2 (fun k hk => ?_) (fun w hw k => ⟨rfl, ?_⟩)), pp_0 f, sz_s rfl rfl⟩
                · simp only [b107_0, b107_4, b107_7, b107_11, b107_14, b107_16, b107_37, b107_40, b107_45, b107_48, b107_51, b107_64, b107_67, b107_75, b107_78, b107_87, b107_90, b107_93, e107, wx_o0 hw, wx_k0 hw, wx_q0 hw, wx_g0_0 hw, wx_s0_0 hw, wx_g0_1 hw, wx_s0_1 hw, wx_g0_2 hw, wx_s0_2 hw, wx_g0_3 hw, wx_s0_3 hw, wx_g0_4 hw, wx_s0_4 hw, wx_N42 hw, wx_a42 hw, wx_K42 hw, wx_g0_5 hw, wx_s0_5 hw, wx_g0_6 hw, wx_s0_6 hw, wx_N75 hw, wx_a75 hw, wx_K75 hw, wx_g0_7 hw, wx_s0_7 hw, wx_N88 hw, wx_a88 hw, wx_g0_8 hw, wx_s0_8 hw, wx_N89 hw, wx_a89 hw, wx_g0_9 hw, wx_s0_9 hw, wx_N90 hw, wx_a90 hw, wx_g0_10 hw, wx_s0_10 hw, wx_N91 hw, wx_a91 hw, wx_g75_0 hw, wx_s75_0 hw, wx_g75_1 hw, wx_s75_1 hw, wx_g75_2 hw, wx_s75_2 hw, wx_g75_3 hw, wx_s75_3 hw, wx_g75_4 hw, wx_s75_4 hw, wx_g75_5 hw, wx_s75_5 hw, List.not_mem_nil, false_implies, implies_true, nI_clamp, nI_add, Nat.reducePow, hp_bd, hp_bdi, hp_ts, hp_tn, hp_tsc, hp_tnc, Nat.reduceAdd, Nat.reduceSub, Nat.reduceMul, Nat.reduceLT, Nat.reduceLeDiff, Nat.reduceEqDiff, reduceIte, not_true_eq_false, not_false_eq_true, and_true, true_and, and_self, and_false, false_and, or_true, true_or, or_false, false_or, decide_true, decide_false, Bool.and_true, Bool.true_and, Bool.not_false, Bool.or_false, Bool.false_or, Bool.or_true, Bool.true_or, i01, k, k2, cl, hbi, cu, hui, q1, q2, q3, q4, q5, q6, q7, q8, r1, r2, r3, r4, r5, r6, r7, r8, k61, k61u, p1, u1, hne, k63, k63u, cpo, ci, cj, cn]
                · rw [hp_LcpL]
                  show _ = (if j ≤ k ∧ k < j + n then (gb_p G t).2.2 (i + (k - j)) else (gb_p G u).2.2 k)
                  by_cases h : j ≤ k ∧ k < j + n
                  · rw [if_pos ⟨rfl, h⟩, if_pos h]; exact p3 _ (by omega)
                  · rw [if_neg (fun e => h e.2), if_neg h]; exact u3 k hk
                · rw [hp_LcpL, if_neg (by omega)]
              · rw [if_neg l2] at k63u
                have eo : op_34 G (nI t) (nI i) (nI u) (nI j) (nI n) = (-13, G) := by
                  rw [pre, ey, ei, ej]
                  exact if_neg (fun e => l2 e.2)
                rw [eo]
                refine oC_id hR ?_
                simp only [b107_0, b107_4, b107_7, b107_11, b107_14, b107_16, b107_37, b107_40, b107_45, b107_48, b107_51, b107_64, b107_67, b107_75, b107_78, b107_87, b107_90, b107_93, e107, wx_o0 hw, wx_k0 hw, wx_q0 hw, wx_g0_0 hw, wx_s0_0 hw, wx_g0_1 hw, wx_s0_1 hw, wx_g0_2 hw, wx_s0_2 hw, wx_g0_3 hw, wx_s0_3 hw, wx_g0_4 hw, wx_s0_4 hw, wx_N42 hw, wx_a42 hw, wx_K42 hw, wx_g0_5 hw, wx_s0_5 hw, wx_g0_6 hw, wx_s0_6 hw, wx_N75 hw, wx_a75 hw, wx_K75 hw, wx_g0_7 hw, wx_s0_7 hw, wx_N88 hw, wx_a88 hw, wx_g0_8 hw, wx_s0_8 hw, wx_N89 hw, wx_a89 hw, wx_g0_9 hw, wx_s0_9 hw, wx_N90 hw, wx_a90 hw, wx_g0_10 hw, wx_s0_10 hw, wx_N91 hw, wx_a91 hw, wx_g75_0 hw, wx_s75_0 hw, wx_g75_1 hw, wx_s75_1 hw, wx_g75_2 hw, wx_s75_2 hw, wx_g75_3 hw, wx_s75_3 hw, wx_g75_4 hw, wx_s75_4 hw, wx_g75_5 hw, wx_s75_5 hw, List.not_mem_nil, false_implies, implies_true, nI_clamp, nI_add, Nat.reducePow, hp_bd, hp_bdi, hp_ts, hp_tn, hp_tsc, hp_tnc, Nat.reduceAdd, Nat.reduceSub, Nat.reduceMul, Nat.reduceLT, Nat.reduceLeDiff, Nat.reduceEqDiff, reduceIte, not_true_eq_false, not_false_eq_true, and_true, true_and, and_self, and_false, false_and, or_true, true_or, or_false, false_or, decide_true, decide_false, Bool.and_true, Bool.true_and, Bool.not_false, Bool.or_false, Bool.false_or, Bool.or_true, Bool.true_or, i01, k, k2, cl, hbi, cu, hui, q1, q2, q3, q4, r1, r2, r3, r4, k61, k61u, p1, u1, hne, k63, k63u]
          · rw [if_neg l1] at k63
            have eo : op_34 G (nI t) (nI i) (nI u) j (nI n) = (-13, G) := by
              rw [pre, ey, ei]
              cases ab_kw 61 j with
              | none => rfl
              | some j => exact if_neg (fun e => l1 e.1)
            rw [eo]
            refine oC_id hR ?_
            simp only [b107_0, b107_4, b107_7, b107_11, b107_14, b107_16, b107_37, b107_40, b107_45, b107_48, b107_51, b107_64, b107_67, b107_75, b107_78, b107_87, b107_90, b107_93, e107, wx_o0 hw, wx_k0 hw, wx_q0 hw, wx_g0_0 hw, wx_s0_0 hw, wx_g0_1 hw, wx_s0_1 hw, wx_g0_2 hw, wx_s0_2 hw, wx_g0_3 hw, wx_s0_3 hw, wx_g0_4 hw, wx_s0_4 hw, wx_N42 hw, wx_a42 hw, wx_K42 hw, wx_g0_5 hw, wx_s0_5 hw, wx_g0_6 hw, wx_s0_6 hw, wx_N75 hw, wx_a75 hw, wx_K75 hw, wx_g0_7 hw, wx_s0_7 hw, wx_N88 hw, wx_a88 hw, wx_g0_8 hw, wx_s0_8 hw, wx_N89 hw, wx_a89 hw, wx_g0_9 hw, wx_s0_9 hw, wx_N90 hw, wx_a90 hw, wx_g0_10 hw, wx_s0_10 hw, wx_N91 hw, wx_a91 hw, wx_g75_0 hw, wx_s75_0 hw, wx_g75_1 hw, wx_s75_1 hw, wx_g75_2 hw, wx_s75_2 hw, wx_g75_3 hw, wx_s75_3 hw, wx_g75_4 hw, wx_s75_4 hw, wx_g75_5 hw, wx_s75_5 hw, List.not_mem_nil, false_implies, implies_true, nI_clamp, nI_add, Nat.reducePow, hp_bd, hp_bdi, hp_ts, hp_tn, hp_tsc, hp_tnc, Nat.reduceAdd, Nat.reduceSub, Nat.reduceMul, Nat.reduceLT, Nat.reduceLeDiff, Nat.reduceEqDiff, reduceIte, not_true_eq_false, not_false_eq_true, and_true, true_and, and_self, and_false, false_and, or_true, true_or, or_false, false_or, decide_true, decide_false, Bool.and_true, Bool.true_and, Bool.not_false, Bool.or_false, Bool.false_or, Bool.or_true, Bool.true_or, i01, k, k2, cl, hbi, cu, hui, q1, q2, q3, q4, r1, r2, r3, r4, k61, k61u, p1, u1, hne, k63]
      · have eo : op_34 G (nI t) i (nI u) j y = (-12, G) := by unfold op_34; simp only [e, eu]; rw [if_neg (fun q => q.elim hs hs2), if_pos hne]
        rw [eo]
        refine oC_id hR ?_
        simp only [b107_0, b107_4, b107_7, b107_11, b107_14, b107_16, b107_37, b107_40, b107_45, b107_48, b107_51, b107_64, b107_67, b107_75, b107_78, b107_87, b107_90, b107_93, e107, wx_o0 hw, wx_k0 hw, wx_q0 hw, wx_g0_0 hw, wx_s0_0 hw, wx_g0_1 hw, wx_s0_1 hw, wx_g0_2 hw, wx_s0_2 hw, wx_g0_3 hw, wx_s0_3 hw, wx_g0_4 hw, wx_s0_4 hw, wx_N42 hw, wx_a42 hw, wx_K42 hw, wx_g0_5 hw, wx_s0_5 hw, wx_g0_6 hw, wx_s0_6 hw, wx_N75 hw, wx_a75 hw, wx_K75 hw, wx_g0_7 hw, wx_s0_7 hw, wx_N88 hw, wx_a88 hw, wx_g0_8 hw, wx_s0_8 hw, wx_N89 hw, wx_a89 hw, wx_g0_9 hw, wx_s0_9 hw, wx_N90 hw, wx_a90 hw, wx_g0_10 hw, wx_s0_10 hw, wx_N91 hw, wx_a91 hw, wx_g75_0 hw, wx_s75_0 hw, wx_g75_1 hw, wx_s75_1 hw, wx_g75_2 hw, wx_s75_2 hw, wx_g75_3 hw, wx_s75_3 hw, wx_g75_4 hw, wx_s75_4 hw, wx_g75_5 hw, wx_s75_5 hw, List.not_mem_nil, false_implies, implies_true, nI_clamp, nI_add, Nat.reducePow, hp_bd, hp_bdi, hp_ts, hp_tn, hp_tsc, hp_tnc, Nat.reduceAdd, Nat.reduceSub, Nat.reduceMul, Nat.reduceLT, Nat.reduceLeDiff, Nat.reduceEqDiff, reduceIte, not_true_eq_false, not_false_eq_true, and_true, true_and, and_self, and_false, false_and, or_true, true_or, or_false, false_or, decide_true, decide_false, Bool.and_true, Bool.true_and, Bool.not_false, Bool.or_false, Bool.false_or, Bool.or_true, Bool.true_or, i01, k, k2, cl, hbi, cu, hui, q1, q2, q3, q4, r1, r2, r3, r4, k61, k61u, p1, u1, hne]
end C3
end
section
/-! ===== acts, in the class ===== -/
def ab_bid (k : Nat) (i v x : Int32) : Int32 × List Nat := match k with
  | 2 => (x * nI 3 + i, [30, 10])
  | 4 => (-(x + i), [50, 10])
  | 5 => (x * nI 3 + i, [30, 10])
  | 6 => ((x + i) ^^^ v, [71, 10])
  | _ => (x + i, [10])
def ab_w0 (k : Nat) (i v x : Int32) : Int32 × List Nat := ((ab_bid k i v x).1 - v, 11 :: (ab_bid k i v x).2)
def ab_wait (k : Nat) (i v x : Int32) : Int32 × List Nat := match k with
  | 1 => ((ab_w0 1 i v x).1 ^^^ nI 6, 20 :: (ab_w0 1 i v x).2)
  | 4 => ((ab_w0 4 i v (x + nI 1)).1 ^^^ nI 6, 51 :: 20 :: (ab_w0 4 i v (x + nI 1)).2)
  | 6 => ((ab_w0 6 i v x).1 + (nI 2 + i), 70 :: (ab_w0 6 i v x).2 ++ [10])
  | k => ab_w0 k i v x
def ab_t0 (k : Nat) (i v x : Int32) : Int32 × List Nat := ((ab_wait k i v x).1 * nI 2, 12 :: (ab_wait k i v x).2)
def ab_tell (k : Nat) (i v x : Int32) : Int32 × List Nat := match k with
  | 3 => ((ab_t0 3 i v x).1 + (ab_wait 3 i v (nI 1)).1, 40 :: (ab_t0 3 i v x).2 ++ (ab_wait 3 i v (nI 1)).2)
  | 5 => ((ab_t0 5 i v (x - i)).1, 60 :: (ab_t0 5 i v (x - i)).2)
  | 6 => ((ab_t0 6 i v x).1 + (ab_wait 6 i v (nI 1)).1, 40 :: (ab_t0 6 i v x).2 ++ (ab_wait 6 i v (nI 1)).2)
  | k => ab_t0 k i v x
def cLog (S T : mm_S) (l : List Nat) : Prop := sf_f gc_rr S T ∧ mm_W T ∧ gc_r T l ∧ mm_n T = mm_n S ∧ mm_z T = mm_z S
def cAct (S : mm_S) (d y e : Nat) (x : Int32) (l : List Nat) (r : Int32 × List Nat) : Prop := ∃ T, mm_cl d y [.ref e, .int x, .ref 88] S = some (some (.int r.1), T) ∧ cLog S T (l ++ r.2)
theorem k7c {k : Nat} (h : k < 7) : k = 0 ∨ k = 1 ∨ k = 2 ∨ k = 3 ∨ k = 4 ∨ k = 5 ∨ k = 6 := by omega
section AC
variable {S T U : mm_S} {d b e k v w : Nat} {x : Int32} {l m : List Nat}
theorem lg_tr (h : cLog S T l) (h2 : cLog T U m) : cLog S U m := ⟨sf_tr h.1 h2.1, h2.2.1, h2.2.2.1, h2.2.2.2.1.trans h.2.2.2.1, h2.2.2.2.2.trans h.2.2.2.2⟩
theorem lg_by (h : cLog S T l) (hy : cd_by S e b k v w) : cd_by T e b k v w := tr_by h.1 (fun j _ (q : e = 88) => by have := hy.1; omega) hy
theorem s1n (hw : mm_W S) (hr : gc_r S l) (hl : l.length < 20) {c : Nat} : ∃ T, mm_cl d 1 [.ref 88, .int (nI c)] S = some (none, T) ∧ cLog S T (l ++ [c]) := by
  obtain ⟨h0, h1⟩ := hr
  have i0 : mm_inb (nI 0) 21 = true := by decide
  have c0 : (nI 0).toNatClampNeg = 0 := nI_clamp (by decide)
  have e0 : mm_M (mm_uM S 88 0 (nI (l.length + 1))) 88 0 = nI (l.length + 1) := rds
  have i1 : mm_inb (nI (l.length + 1)) 21 = true := hp_inb (by omega) (by omega)
  have c1 : (nI (l.length + 1)).toNatClampNeg = l.length + 1 := nI_clamp (by omega)
  have l1 : (nI 21 ≤ nI (l.length + 1)) = False := eq_false (nI_ge (by omega) (by decide))
  refine ⟨mm_uM (mm_uM S 88 0 (nI (l.length + 1))) 88 (l.length + 1) (nI c), ?_, sf_tr (sf_uM rfl) (sf_uM rfl), hw, ⟨?_, fun i hi => ?_⟩, rfl, rfl⟩
  · simp only [b1_0, b1_9, b1_15, b1_21, e1, wx_o0 hw, wx_k0 hw, wx_q0 hw, wx_g0_0 hw, wx_s0_0 hw, wx_g0_1 hw, wx_s0_1 hw, wx_g0_2 hw, wx_s0_2 hw, wx_g0_3 hw, wx_s0_3 hw, wx_g0_4 hw, wx_s0_4 hw, wx_N42 hw, wx_a42 hw, wx_K42 hw, wx_g0_5 hw, wx_s0_5 hw, wx_g0_6 hw, wx_s0_6 hw, wx_N75 hw, wx_a75 hw, wx_K75 hw, wx_g0_7 hw, wx_s0_7 hw, wx_N88 hw, wx_a88 hw, wx_g0_8 hw, wx_s0_8 hw, wx_N89 hw, wx_a89 hw, wx_g0_9 hw, wx_s0_9 hw, wx_N90 hw, wx_a90 hw, wx_g0_10 hw, wx_s0_10 hw, wx_N91 hw, wx_a91 hw, List.not_mem_nil, false_implies, implies_true, nI_clamp, nI_add, Nat.reducePow, hp_bd, hp_bdi, hp_ts, hp_tn, hp_tsc, hp_tnc, Nat.reduceAdd, Nat.reduceSub, Nat.reduceMul, Nat.reduceLT, Nat.reduceLeDiff, Nat.reduceEqDiff, reduceIte, not_true_eq_false, not_false_eq_true, and_true, true_and, and_self, and_false, false_and, or_true, true_or, or_false, false_or, decide_true, decide_false, Bool.and_true, Bool.true_and, Bool.not_false, Bool.or_false, Bool.false_or, Bool.or_true, Bool.true_or, hp_MuM, hp_LuL, hp_RuR, hp_McpM, hp_LcpL, hp_LuM, hp_RuM, hp_KuM, hp_NuM, hp_nuM, hp_zuM, hp_ouM, hp_auM, hp_kuM, hp_guM, hp_MuL, hp_RuL, hp_KuL, hp_NuL, hp_nuL, hp_zuL, hp_ouL, hp_auL, hp_kuL, hp_guL, hp_MuR, hp_LuR, hp_KuR, hp_NuR, hp_nuR, hp_zuR, hp_ouR, hp_auR, hp_kuR, hp_LcpM, hp_RcpM, hp_KcpM, hp_NcpM, hp_ncpM, hp_zcpM, hp_ocpM, hp_acpM, hp_kcpM, hp_gcpM, hp_McpL, hp_RcpL, hp_KcpL, hp_NcpL, hp_ncpL, hp_zcpL, hp_ocpL, hp_acpL, hp_kcpL, hp_gcpL, hp_MwM, hp_LwM, hp_RwM, hp_KwM, hp_NwM, hp_nwM, hp_zwM, hp_owM, hp_awM, hp_kwM, hp_gwM, hp_MwR, hp_LwR, hp_RwR, hp_KwR, hp_NwR, hp_nwR, hp_zwR, hp_owR, hp_awR, hp_kwR, hp_MwL, hp_LwL, hp_RwL, hp_KwL, hp_NwL, hp_nwL, hp_zwL, hp_owL, hp_awL, hp_kwL, hp_gwL, hp_w2M, hp_w2R, hp_w2L, i0, c0, h0, e0, i1, c1, l1]
  · rw [rdn (by omega), rds, List.length_append]; rfl
  · rw [List.length_append] at hi
    rw [rdk]
    by_cases e : i = l.length
    · rw [if_pos (by omega), e, List.getD_eq_getElem?_getD, List.getElem?_append_right (Nat.le_refl _), Nat.sub_self]; rfl
    · have hi2 : i < l.length := by
        have : [c].length = 1 := rfl
        omega
      rw [if_neg (by omega), rdn (by omega), List.getD_eq_getElem?_getD, List.getElem?_append_left hi2, ← List.getD_eq_getElem?_getD]
      exact h1 i hi2
theorem s3a (hw : mm_W S) (hr : gc_r S l) (hl : l.length < 20) (hk : k < 7) (hy : cd_by S e b k v w) : cAct S (d + 1) 3 e x l (x + nI b, [10]) := by
  obtain ⟨T, g1, g2⟩ := s1n (d := d) (c := 10) hw hr hl
  have yT := lg_by g2 hy
  refine ⟨T, ?_, g2⟩
  rw [e3, b3_0, g1, hp_bd, hp_tn, b3_6 (by_o hk yT), yT.2.2.2.2.1]
theorem ll (l : List Nat) (c : Nat) (m : List Nat) : (l ++ [c]) ++ m = l ++ (c :: m) := by rw [List.append_assoc]; rfl
theorem len1 (l : List Nat) (c : Nat) : (l ++ [c]).length = l.length + 1 := by rw [List.length_append]; rfl
def cd_bm (k : Nat) : Nat := ([3, 3, 71, 3, 57, 71, 68] : List Nat).getD k 0
def cd_wm (k : Nat) : Nat := ([4, 33, 4, 4, 58, 4, 67] : List Nat).getD k 0
def cd_tm (k : Nat) : Nat := ([5, 5, 5, 27, 5, 30, 27] : List Nat).getD k 0
theorem bid_c (hw : mm_W S) (hr : gc_r S l) (hl : l.length + 2 ≤ 20) (hk : k < 7) (hy : cd_by S e b k v w) : cAct S (d + 2) (cd_bm k) e x l (ab_bid k (nI b) (nI v) x) := by
  rcases k7c hk with rfl | rfl | rfl | rfl | rfl | rfl | rfl
  · exact s3a hw hr (by omega) hk hy
  · exact s3a hw hr (by omega) hk hy
  · obtain ⟨T, g1, g2⟩ := s1n (d := d + 1) (c := 30) hw hr (by omega)
    have yT := lg_by g2 hy
    obtain ⟨U, g3, g4⟩ := s3a (d := d) (x := x * nI 3) g2.2.1 g2.2.2.1 (by rw [len1]; omega) hk yT
    rw [ll] at g4
    refine ⟨U, ?_, lg_tr g2 g4⟩
    show mm_cl (d + 2) 71 _ S = _
    rw [e71, b71_0, g1, hp_bd, hp_tn, b71_6 (by_q hk yT), g3, hp_bd, hp_ts, b71_14]
    rfl
  · exact s3a hw hr (by omega) hk hy
  · obtain ⟨T, g1, g2⟩ := s1n (d := d + 1) (c := 50) hw hr (by omega)
    have yT := lg_by g2 hy
    obtain ⟨U, g3, g4⟩ := s3a (d := d) (x := x) g2.2.1 g2.2.2.1 (by rw [len1]; omega) hk yT
    rw [ll] at g4
    refine ⟨U, ?_, lg_tr g2 g4⟩
    show mm_cl (d + 2) 57 _ S = _
    rw [e57, b57_0, g1, hp_bd, hp_tn, b57_6 (by_q hk yT), g3, hp_bd, hp_ts, b57_12]
    rfl
  · obtain ⟨T, g1, g2⟩ := s1n (d := d + 1) (c := 30) hw hr (by omega)
    have yT := lg_by g2 hy
    obtain ⟨U, g3, g4⟩ := s3a (d := d) (x := x * nI 3) g2.2.1 g2.2.2.1 (by rw [len1]; omega) hk yT
    rw [ll] at g4
    refine ⟨U, ?_, lg_tr g2 g4⟩
    show mm_cl (d + 2) 71 _ S = _
    rw [e71, b71_0, g1, hp_bd, hp_tn, b71_6 (by_q hk yT), g3, hp_bd, hp_ts, b71_14]
    rfl
  · obtain ⟨T, g1, g2⟩ := s1n (d := d + 1) (c := 71) hw hr (by omega)
    have yT := lg_by g2 hy
    obtain ⟨U, g3, g4⟩ := s3a (d := d) (x := x) g2.2.1 g2.2.2.1 (by rw [len1]; omega) hk yT
    have yU := lg_by g4 yT
    rw [ll] at g4
    refine ⟨U, ?_, lg_tr g2 g4⟩
    show mm_cl (d + 2) 68 _ S = _
    rw [e68, b68_0, g1, hp_bd, hp_tn, b68_6 (by_q hk yT), g3, hp_bd, hp_ts, b68_12 (by_o hk yU), yU.2.2.2.2.2.1]
    rfl
theorem bid_len {i u : Int32} : (ab_bid k i u x).2.length ≤ 2 := by
  unfold ab_bid
  split <;> simp
theorem s4a (hw : mm_W S) (hr : gc_r S l) (hl : l.length + 3 ≤ 20) (hk : k < 7) (hy : cd_by S e b k v w) : cAct S (d + 3) 4 e x l (ab_w0 k (nI b) (nI v) x) := by
  obtain ⟨T, g1, g2⟩ := s1n (d := d + 2) (c := 11) hw hr (by omega)
  have yT := lg_by g2 hy
  obtain ⟨U, g3, g4⟩ := bid_c (d := d) (x := x) g2.2.1 g2.2.2.1 (by rw [len1]; omega) hk yT
  have yU := lg_by g4 yT
  have kT := by_k hk yT
  rw [ll] at g4
  refine ⟨U, ?_, lg_tr g2 g4⟩
  rw [e4, b4_0, g1, hp_bd, hp_tn]
  have fin : mm_ex (d + 3) 4 12 [.ref e, .int x, .ref 88] [.int (ab_bid k (nI b) (nI v) x).1] U = some (some (.int (ab_w0 k (nI b) (nI v) x).1), U) := by
    rw [b4_12 (by_o hk yU), yU.2.2.2.2.2.1]; rfl
  rcases k7c hk with rfl | rfl | rfl | rfl | rfl | rfl | rfl
  · rw [b4_6_k0 kT, show mm_cl (d + 2) 3 _ T = _ from g3, hp_bd, hp_ts]; exact fin
  · rw [b4_6_k4 kT, show mm_cl (d + 2) 3 _ T = _ from g3, hp_bd, hp_ts]; exact fin
  · rw [b4_6_k10 kT, show mm_cl (d + 2) 71 _ T = _ from g3, hp_bd, hp_ts]; exact fin
  · rw [b4_6_k2 kT, show mm_cl (d + 2) 3 _ T = _ from g3, hp_bd, hp_ts]; exact fin
  · rw [b4_6_k7 kT, show mm_cl (d + 2) 57 _ T = _ from g3, hp_bd, hp_ts]; exact fin
  · rw [b4_6_k3 kT, show mm_cl (d + 2) 71 _ T = _ from g3, hp_bd, hp_ts]; exact fin
  · rw [b4_6_k9 kT, show mm_cl (d + 2) 68 _ T = _ from g3, hp_bd, hp_ts]; exact fin
theorem s33a (hw : mm_W S) (hr : gc_r S l) (hl : l.length + 4 ≤ 20) (hk : k < 7) (hy : cd_by S e b k v w) : cAct S (d + 4) 33 e x l ((ab_w0 k (nI b) (nI v) x).1 ^^^ nI 6, 20 :: (ab_w0 k (nI b) (nI v) x).2) := by
  obtain ⟨T, g1, g2⟩ := s1n (d := d + 3) (c := 20) hw hr (by omega)
  have yT := lg_by g2 hy
  obtain ⟨U, g3, g4⟩ := s4a (d := d) (x := x) g2.2.1 g2.2.2.1 (by rw [len1]; omega) hk yT
  rw [ll] at g4
  refine ⟨U, ?_, lg_tr g2 g4⟩
  rw [e33, b33_0, g1, hp_bd, hp_tn, b33_6 (by_q hk yT), g3, hp_bd, hp_ts, b33_12]
theorem wait_c (hw : mm_W S) (hr : gc_r S l) (hl : l.length + 5 ≤ 20) (hk : k < 7) (hy : cd_by S e b k v w) : cAct S (d + 5) (cd_wm k) e x l (ab_wait k (nI b) (nI v) x) := by
  rcases k7c hk with rfl | rfl | rfl | rfl | rfl | rfl | rfl
  · exact s4a hw hr (by omega) hk hy
  · exact s33a hw hr (by omega) hk hy
  · exact s4a hw hr (by omega) hk hy
  · exact s4a hw hr (by omega) hk hy
  · obtain ⟨T, g1, g2⟩ := s1n (d := d + 4) (c := 51) hw hr (by omega)
    have yT := lg_by g2 hy
    obtain ⟨U, g3, g4⟩ := s33a (d := d) (x := x + nI 1) g2.2.1 g2.2.2.1 (by rw [len1]; omega) hk yT
    rw [ll] at g4
    refine ⟨U, ?_, lg_tr g2 g4⟩
    show mm_cl (d + 5) 58 _ S = _
    rw [e58, b58_0, g1, hp_bd, hp_tn, b58_6 (by_q hk yT), g3, hp_bd, hp_ts, b58_14]
    rfl
  · exact s4a hw hr (by omega) hk hy
  · obtain ⟨T, g1, g2⟩ := s1n (d := d + 4) (c := 70) hw hr (by omega)
    have yT := lg_by g2 hy
    obtain ⟨U, g3, g4⟩ := s4a (d := d + 1) (x := x) g2.2.1 g2.2.2.1 (by rw [len1]; omega) hk yT
    have yU := lg_by g4 yT
    obtain ⟨V, g5, g6⟩ := s3a (d := d + 3) (x := nI 2) g4.2.1 g4.2.2.1 (by
      have h2 : (ab_w0 6 (nI b) (nI v) x).2.length = 3 := rfl
      rw [List.length_append, len1, h2]; omega) hk yU
    rw [ll] at g4
    have g6' : cLog U V (l ++ (70 :: (ab_w0 6 (nI b) (nI v) x).2 ++ [10])) := by
      have e : l ++ [70] ++ (ab_w0 6 (nI b) (nI v) x).2 ++ [10] = l ++ (70 :: (ab_w0 6 (nI b) (nI v) x).2 ++ [10]) := by rw [ll, List.append_assoc]
      rw [← e]; exact g6
    refine ⟨V, ?_, lg_tr g2 (lg_tr g4 g6')⟩
    show mm_cl (d + 5) 67 _ S = _
    rw [e67, b67_0, g1, hp_bd, hp_tn, b67_6 (by_q hk yT), g3, hp_bd, hp_ts, b67_12 (by_q hk yU), show mm_cl (d + 4) 3 _ U = _ from g5, hp_bd, hp_tsc, b67_18]
    rfl
theorem wait_len (hk : k < 7) {i u : Int32} : (ab_wait k i u x).2.length ≤ 5 := by
  rcases k7c hk with rfl | rfl | rfl | rfl | rfl | rfl | rfl <;> simp [ab_wait, ab_w0, ab_bid]
theorem s5a (hw : mm_W S) (hr : gc_r S l) (hl : l.length + 6 ≤ 20) (hk : k < 7) (hy : cd_by S e b k v w) : cAct S (d + 6) 5 e x l (ab_t0 k (nI b) (nI v) x) := by
  obtain ⟨T, g1, g2⟩ := s1n (d := d + 5) (c := 12) hw hr (by omega)
  have yT := lg_by g2 hy
  obtain ⟨U, g3, g4⟩ := wait_c (d := d) (x := x) g2.2.1 g2.2.2.1 (by rw [len1]; omega) hk yT
  have kT := by_k hk yT
  rw [ll] at g4
  refine ⟨U, ?_, lg_tr g2 g4⟩
  rw [e5, b5_0, g1, hp_bd, hp_tn]
  have fin : mm_ex (d + 6) 5 12 [.ref e, .int x, .ref 88] [.int (ab_wait k (nI b) (nI v) x).1] U = some (some (.int (ab_t0 k (nI b) (nI v) x).1), U) := by
    rw [b5_12]; rfl
  rcases k7c hk with rfl | rfl | rfl | rfl | rfl | rfl | rfl
  · rw [b5_6_k0 kT, show mm_cl (d + 5) 4 _ T = _ from g3, hp_bd, hp_ts]; exact fin
  · rw [b5_6_k4 kT, show mm_cl (d + 5) 33 _ T = _ from g3, hp_bd, hp_ts]; exact fin
  · rw [b5_6_k10 kT, show mm_cl (d + 5) 4 _ T = _ from g3, hp_bd, hp_ts]; exact fin
  · rw [b5_6_k2 kT, show mm_cl (d + 5) 4 _ T = _ from g3, hp_bd, hp_ts]; exact fin
  · rw [b5_6_k7 kT, show mm_cl (d + 5) 58 _ T = _ from g3, hp_bd, hp_ts]; exact fin
  · rw [b5_6_k3 kT, show mm_cl (d + 5) 4 _ T = _ from g3, hp_bd, hp_ts]; exact fin
  · rw [b5_6_k9 kT, show mm_cl (d + 5) 67 _ T = _ from g3, hp_bd, hp_ts]; exact fin
theorem s27a (hw : mm_W S) (hr : gc_r S l) (hl : l.length + 12 ≤ 20) (hk : k = 3 ∨ k = 6) (hy : cd_by S e b k v w) : cAct S (d + 7) 27 e x l ((ab_t0 k (nI b) (nI v) x).1 + (ab_wait k (nI b) (nI v) (nI 1)).1, 40 :: (ab_t0 k (nI b) (nI v) x).2 ++ (ab_wait k (nI b) (nI v) (nI 1)).2) := by
  have hk7 : k < 7 := by omega
  obtain ⟨T, g1, g2⟩ := s1n (d := d + 6) (c := 40) hw hr (by omega)
  have yT := lg_by g2 hy
  obtain ⟨U, g3, g4⟩ := s5a (d := d) (x := x) g2.2.1 g2.2.2.1 (by rw [len1]; omega) hk7 yT
  have yU := lg_by g4 yT
  have kU := by_k hk7 yU
  have hl2 : (ab_t0 k (nI b) (nI v) x).2.length ≤ 6 := by
    have := @wait_len k x hk7 (nI b) (nI v)
    show (12 :: (ab_wait k (nI b) (nI v) x).2).length ≤ 6
    rw [List.length_cons]; omega
  obtain ⟨V, g5, g6⟩ := wait_c (d := d + 1) (x := nI 1) g4.2.1 g4.2.2.1 (by rw [List.length_append, len1]; omega) hk7 yU
  rw [ll] at g4
  have g6' : cLog U V (l ++ (40 :: (ab_t0 k (nI b) (nI v) x).2 ++ (ab_wait k (nI b) (nI v) (nI 1)).2)) := by
    have e : l ++ [40] ++ (ab_t0 k (nI b) (nI v) x).2 ++ (ab_wait k (nI b) (nI v) (nI 1)).2 = l ++ (40 :: (ab_t0 k (nI b) (nI v) x).2 ++ (ab_wait k (nI b) (nI v) (nI 1)).2) := by rw [ll, List.append_assoc]
    rw [← e]; exact g6
  refine ⟨V, ?_, lg_tr g2 (lg_tr g4 g6')⟩
  rw [e27, b27_0, g1, hp_bd, hp_tn, b27_6 (by_q hk7 yT), g3, hp_bd, hp_ts]
  rcases hk with rfl | rfl
  · rw [b27_12_k2 kU, show mm_cl (d + 6) 4 _ U = _ from g5, hp_bd, hp_tsc, b27_18]
  · rw [b27_12_k9 kU, show mm_cl (d + 6) 67 _ U = _ from g5, hp_bd, hp_tsc, b27_18]
theorem tell_c (hw : mm_W S) (hr : gc_r S l) (hl : l.length + 12 ≤ 20) (hk : k < 7) (hy : cd_by S e b k v w) : cAct S (d + 7) (cd_tm k) e x l (ab_tell k (nI b) (nI v) x) := by
  rcases k7c hk with rfl | rfl | rfl | rfl | rfl | rfl | rfl
  · exact s5a hw hr (by omega) hk hy
  · exact s5a hw hr (by omega) hk hy
  · exact s5a hw hr (by omega) hk hy
  · exact s27a hw hr (by omega) (Or.inl rfl) hy
  · exact s5a hw hr (by omega) hk hy
  · obtain ⟨T, g1, g2⟩ := s1n (d := d + 6) (c := 60) hw hr (by omega)
    have yT := lg_by g2 hy
    obtain ⟨U, g3, g4⟩ := s5a (d := d) (x := x - nI b) g2.2.1 g2.2.2.1 (by rw [len1]; omega) hk yT
    rw [ll] at g4
    refine ⟨U, ?_, lg_tr g2 g4⟩
    show mm_cl (d + 7) 30 _ S = _
    rw [e30, b30_0, g1, hp_bd, hp_tn, b30_6 (by_o hk yT) (by_q hk yT), yT.2.2.2.2.1, g3, hp_bd, hp_ts, b30_17]
    rfl
  · exact s27a hw hr (by omega) (Or.inr rfl) hy
end AC
def op_27 (G : gb_G) (x a y : Int32) : Int32 × gb_G := match ab_kw (gK G) x with
  | none => (nI 0, gS_r G [])
  | some b => if a = nI 0 then ((ab_bid (ab_ki (gP G) b) (nI b) (nI (ab_v (gP G) b)) y).1, gS_r G (ab_bid (ab_ki (gP G) b) (nI b) (nI (ab_v (gP G) b)) y).2) else if a = nI 1 then ((ab_wait (ab_ki (gP G) b) (nI b) (nI (ab_v (gP G) b)) y).1, gS_r G (ab_wait (ab_ki (gP G) b) (nI b) (nI (ab_v (gP G) b)) y).2) else if a = nI 2 then ((ab_tell (ab_ki (gP G) b) (nI b) (nI (ab_v (gP G) b)) y).1, gS_r G (ab_tell (ab_ki (gP G) b) (nI b) (nI (ab_v (gP G) b)) y).2) else (nI 0, gS_r G [])
section AD
variable {S T U : mm_S} {G : gb_G} {d b e k v w : Nat} {x a y : Int32} {l m : List Nat}
theorem ok_r (ok : gb_ok G) (h : l.length ≤ 20) (h2 : ∀ b ∈ l, b < 100) : gb_ok (gS_r G l) := ⟨ok.1, ok.2.1, ok.2.2.1, ok.2.2.2.1, ok.2.2.2.2.1, ok.2.2.2.2.2.1, ok.2.2.2.2.2.2.1, h, h2⟩
theorem a100_48 (hw : mm_W T) (hb : b < 6) {q : Nat} (hq : mm_R T 7 b = some q) (hk : k < 7) (kq : mm_rk T q = cd_kc k) {r : Int32} (g : mm_cl (d + 7) (cd_bm k) [.ref q, .int y, .ref 88] T = some (some (.int r), U)) : mm_ex (d + 8) 100 48 [.ref 0, .int (nI b), .int a, .int y] [] T = some (some (.int r), U) := by
  have cl : (nI b).toNatClampNeg = b := nI_clamp (by omega)
  have hbi : mm_inb (nI b) 6 = true := hp_inb (by omega) (by omega)
  have rq := hp_rg hq
  have sq := hp_rs hq
  rcases k7c hk with rfl | rfl | rfl | rfl | rfl | rfl | rfl
  · rw [b100_48_k0 (wx_o0 hw) (wx_s0_0 hw) (by rw [wx_g0_0 hw]; exact wx_o6 hw) (by rw [wx_g0_0 hw]; exact wx_s6_0 hw) (by rw [wx_g0_0 hw, wx_g6_0 hw, wx_N7 hw]; exact hbi) (by rw [wx_g0_0 hw, wx_g6_0 hw]; exact wx_a7 hw) (by rw [wx_g0_0 hw, wx_g6_0 hw, cl]; exact sq) (wx_s0_7 hw) (by rw [wx_g0_0 hw, wx_g6_0 hw, cl, rq]; exact kq), wx_g0_0 hw, wx_g6_0 hw, cl, rq, wx_g0_7 hw, show mm_cl (d + 7) 3 _ T = _ from g, hp_bd, hp_ts, b100_65]
  · rw [b100_48_k4 (wx_o0 hw) (wx_s0_0 hw) (by rw [wx_g0_0 hw]; exact wx_o6 hw) (by rw [wx_g0_0 hw]; exact wx_s6_0 hw) (by rw [wx_g0_0 hw, wx_g6_0 hw, wx_N7 hw]; exact hbi) (by rw [wx_g0_0 hw, wx_g6_0 hw]; exact wx_a7 hw) (by rw [wx_g0_0 hw, wx_g6_0 hw, cl]; exact sq) (wx_s0_7 hw) (by rw [wx_g0_0 hw, wx_g6_0 hw, cl, rq]; exact kq), wx_g0_0 hw, wx_g6_0 hw, cl, rq, wx_g0_7 hw, show mm_cl (d + 7) 3 _ T = _ from g, hp_bd, hp_ts, b100_65]
  · rw [b100_48_k10 (wx_o0 hw) (wx_s0_0 hw) (by rw [wx_g0_0 hw]; exact wx_o6 hw) (by rw [wx_g0_0 hw]; exact wx_s6_0 hw) (by rw [wx_g0_0 hw, wx_g6_0 hw, wx_N7 hw]; exact hbi) (by rw [wx_g0_0 hw, wx_g6_0 hw]; exact wx_a7 hw) (by rw [wx_g0_0 hw, wx_g6_0 hw, cl]; exact sq) (wx_s0_7 hw) (by rw [wx_g0_0 hw, wx_g6_0 hw, cl, rq]; exact kq), wx_g0_0 hw, wx_g6_0 hw, cl, rq, wx_g0_7 hw, show mm_cl (d + 7) 71 _ T = _ from g, hp_bd, hp_ts, b100_65]
  · rw [b100_48_k2 (wx_o0 hw) (wx_s0_0 hw) (by rw [wx_g0_0 hw]; exact wx_o6 hw) (by rw [wx_g0_0 hw]; exact wx_s6_0 hw) (by rw [wx_g0_0 hw, wx_g6_0 hw, wx_N7 hw]; exact hbi) (by rw [wx_g0_0 hw, wx_g6_0 hw]; exact wx_a7 hw) (by rw [wx_g0_0 hw, wx_g6_0 hw, cl]; exact sq) (wx_s0_7 hw) (by rw [wx_g0_0 hw, wx_g6_0 hw, cl, rq]; exact kq), wx_g0_0 hw, wx_g6_0 hw, cl, rq, wx_g0_7 hw, show mm_cl (d + 7) 3 _ T = _ from g, hp_bd, hp_ts, b100_65]
  · rw [b100_48_k7 (wx_o0 hw) (wx_s0_0 hw) (by rw [wx_g0_0 hw]; exact wx_o6 hw) (by rw [wx_g0_0 hw]; exact wx_s6_0 hw) (by rw [wx_g0_0 hw, wx_g6_0 hw, wx_N7 hw]; exact hbi) (by rw [wx_g0_0 hw, wx_g6_0 hw]; exact wx_a7 hw) (by rw [wx_g0_0 hw, wx_g6_0 hw, cl]; exact sq) (wx_s0_7 hw) (by rw [wx_g0_0 hw, wx_g6_0 hw, cl, rq]; exact kq), wx_g0_0 hw, wx_g6_0 hw, cl, rq, wx_g0_7 hw, show mm_cl (d + 7) 57 _ T = _ from g, hp_bd, hp_ts, b100_65]
  · rw [b100_48_k3 (wx_o0 hw) (wx_s0_0 hw) (by rw [wx_g0_0 hw]; exact wx_o6 hw) (by rw [wx_g0_0 hw]; exact wx_s6_0 hw) (by rw [wx_g0_0 hw, wx_g6_0 hw, wx_N7 hw]; exact hbi) (by rw [wx_g0_0 hw, wx_g6_0 hw]; exact wx_a7 hw) (by rw [wx_g0_0 hw, wx_g6_0 hw, cl]; exact sq) (wx_s0_7 hw) (by rw [wx_g0_0 hw, wx_g6_0 hw, cl, rq]; exact kq), wx_g0_0 hw, wx_g6_0 hw, cl, rq, wx_g0_7 hw, show mm_cl (d + 7) 71 _ T = _ from g, hp_bd, hp_ts, b100_65]
  · rw [b100_48_k9 (wx_o0 hw) (wx_s0_0 hw) (by rw [wx_g0_0 hw]; exact wx_o6 hw) (by rw [wx_g0_0 hw]; exact wx_s6_0 hw) (by rw [wx_g0_0 hw, wx_g6_0 hw, wx_N7 hw]; exact hbi) (by rw [wx_g0_0 hw, wx_g6_0 hw]; exact wx_a7 hw) (by rw [wx_g0_0 hw, wx_g6_0 hw, cl]; exact sq) (wx_s0_7 hw) (by rw [wx_g0_0 hw, wx_g6_0 hw, cl, rq]; exact kq), wx_g0_0 hw, wx_g6_0 hw, cl, rq, wx_g0_7 hw, show mm_cl (d + 7) 68 _ T = _ from g, hp_bd, hp_ts, b100_65]
theorem a100_66 (hw : mm_W T) (hb : b < 6) {q : Nat} (hq : mm_R T 7 b = some q) (hk : k < 7) (kq : mm_rk T q = cd_kc k) {r : Int32} (g : mm_cl (d + 7) (cd_wm k) [.ref q, .int y, .ref 88] T = some (some (.int r), U)) : mm_ex (d + 8) 100 66 [.ref 0, .int (nI b), .int a, .int y] [] T = some (some (.int r), U) := by
  have cl : (nI b).toNatClampNeg = b := nI_clamp (by omega)
  have hbi : mm_inb (nI b) 6 = true := hp_inb (by omega) (by omega)
  have rq := hp_rg hq
  have sq := hp_rs hq
  rcases k7c hk with rfl | rfl | rfl | rfl | rfl | rfl | rfl
  · rw [b100_66_k0 (wx_o0 hw) (wx_s0_0 hw) (by rw [wx_g0_0 hw]; exact wx_o6 hw) (by rw [wx_g0_0 hw]; exact wx_s6_0 hw) (by rw [wx_g0_0 hw, wx_g6_0 hw, wx_N7 hw]; exact hbi) (by rw [wx_g0_0 hw, wx_g6_0 hw]; exact wx_a7 hw) (by rw [wx_g0_0 hw, wx_g6_0 hw, cl]; exact sq) (wx_s0_7 hw) (by rw [wx_g0_0 hw, wx_g6_0 hw, cl, rq]; exact kq), wx_g0_0 hw, wx_g6_0 hw, cl, rq, wx_g0_7 hw, show mm_cl (d + 7) 4 _ T = _ from g, hp_bd, hp_ts, b100_83]
  · rw [b100_66_k4 (wx_o0 hw) (wx_s0_0 hw) (by rw [wx_g0_0 hw]; exact wx_o6 hw) (by rw [wx_g0_0 hw]; exact wx_s6_0 hw) (by rw [wx_g0_0 hw, wx_g6_0 hw, wx_N7 hw]; exact hbi) (by rw [wx_g0_0 hw, wx_g6_0 hw]; exact wx_a7 hw) (by rw [wx_g0_0 hw, wx_g6_0 hw, cl]; exact sq) (wx_s0_7 hw) (by rw [wx_g0_0 hw, wx_g6_0 hw, cl, rq]; exact kq), wx_g0_0 hw, wx_g6_0 hw, cl, rq, wx_g0_7 hw, show mm_cl (d + 7) 33 _ T = _ from g, hp_bd, hp_ts, b100_83]
  · rw [b100_66_k10 (wx_o0 hw) (wx_s0_0 hw) (by rw [wx_g0_0 hw]; exact wx_o6 hw) (by rw [wx_g0_0 hw]; exact wx_s6_0 hw) (by rw [wx_g0_0 hw, wx_g6_0 hw, wx_N7 hw]; exact hbi) (by rw [wx_g0_0 hw, wx_g6_0 hw]; exact wx_a7 hw) (by rw [wx_g0_0 hw, wx_g6_0 hw, cl]; exact sq) (wx_s0_7 hw) (by rw [wx_g0_0 hw, wx_g6_0 hw, cl, rq]; exact kq), wx_g0_0 hw, wx_g6_0 hw, cl, rq, wx_g0_7 hw, show mm_cl (d + 7) 4 _ T = _ from g, hp_bd, hp_ts, b100_83]
  · rw [b100_66_k2 (wx_o0 hw) (wx_s0_0 hw) (by rw [wx_g0_0 hw]; exact wx_o6 hw) (by rw [wx_g0_0 hw]; exact wx_s6_0 hw) (by rw [wx_g0_0 hw, wx_g6_0 hw, wx_N7 hw]; exact hbi) (by rw [wx_g0_0 hw, wx_g6_0 hw]; exact wx_a7 hw) (by rw [wx_g0_0 hw, wx_g6_0 hw, cl]; exact sq) (wx_s0_7 hw) (by rw [wx_g0_0 hw, wx_g6_0 hw, cl, rq]; exact kq), wx_g0_0 hw, wx_g6_0 hw, cl, rq, wx_g0_7 hw, show mm_cl (d + 7) 4 _ T = _ from g, hp_bd, hp_ts, b100_83]
  · rw [b100_66_k7 (wx_o0 hw) (wx_s0_0 hw) (by rw [wx_g0_0 hw]; exact wx_o6 hw) (by rw [wx_g0_0 hw]; exact wx_s6_0 hw) (by rw [wx_g0_0 hw, wx_g6_0 hw, wx_N7 hw]; exact hbi) (by rw [wx_g0_0 hw, wx_g6_0 hw]; exact wx_a7 hw) (by rw [wx_g0_0 hw, wx_g6_0 hw, cl]; exact sq) (wx_s0_7 hw) (by rw [wx_g0_0 hw, wx_g6_0 hw, cl, rq]; exact kq), wx_g0_0 hw, wx_g6_0 hw, cl, rq, wx_g0_7 hw, show mm_cl (d + 7) 58 _ T = _ from g, hp_bd, hp_ts, b100_83]
  · rw [b100_66_k3 (wx_o0 hw) (wx_s0_0 hw) (by rw [wx_g0_0 hw]; exact wx_o6 hw) (by rw [wx_g0_0 hw]; exact wx_s6_0 hw) (by rw [wx_g0_0 hw, wx_g6_0 hw, wx_N7 hw]; exact hbi) (by rw [wx_g0_0 hw, wx_g6_0 hw]; exact wx_a7 hw) (by rw [wx_g0_0 hw, wx_g6_0 hw, cl]; exact sq) (wx_s0_7 hw) (by rw [wx_g0_0 hw, wx_g6_0 hw, cl, rq]; exact kq), wx_g0_0 hw, wx_g6_0 hw, cl, rq, wx_g0_7 hw, show mm_cl (d + 7) 4 _ T = _ from g, hp_bd, hp_ts, b100_83]
  · rw [b100_66_k9 (wx_o0 hw) (wx_s0_0 hw) (by rw [wx_g0_0 hw]; exact wx_o6 hw) (by rw [wx_g0_0 hw]; exact wx_s6_0 hw) (by rw [wx_g0_0 hw, wx_g6_0 hw, wx_N7 hw]; exact hbi) (by rw [wx_g0_0 hw, wx_g6_0 hw]; exact wx_a7 hw) (by rw [wx_g0_0 hw, wx_g6_0 hw, cl]; exact sq) (wx_s0_7 hw) (by rw [wx_g0_0 hw, wx_g6_0 hw, cl, rq]; exact kq), wx_g0_0 hw, wx_g6_0 hw, cl, rq, wx_g0_7 hw, show mm_cl (d + 7) 67 _ T = _ from g, hp_bd, hp_ts, b100_83]
theorem a100_84 (hw : mm_W T) (hb : b < 6) {q : Nat} (hq : mm_R T 7 b = some q) (hk : k < 7) (kq : mm_rk T q = cd_kc k) {r : Int32} (g : mm_cl (d + 7) (cd_tm k) [.ref q, .int y, .ref 88] T = some (some (.int r), U)) : mm_ex (d + 8) 100 84 [.ref 0, .int (nI b), .int a, .int y] [] T = some (some (.int r), U) := by
  have cl : (nI b).toNatClampNeg = b := nI_clamp (by omega)
  have hbi : mm_inb (nI b) 6 = true := hp_inb (by omega) (by omega)
  have rq := hp_rg hq
  have sq := hp_rs hq
  rcases k7c hk with rfl | rfl | rfl | rfl | rfl | rfl | rfl
  · rw [b100_84_k0 (wx_o0 hw) (wx_s0_0 hw) (by rw [wx_g0_0 hw]; exact wx_o6 hw) (by rw [wx_g0_0 hw]; exact wx_s6_0 hw) (by rw [wx_g0_0 hw, wx_g6_0 hw, wx_N7 hw]; exact hbi) (by rw [wx_g0_0 hw, wx_g6_0 hw]; exact wx_a7 hw) (by rw [wx_g0_0 hw, wx_g6_0 hw, cl]; exact sq) (wx_s0_7 hw) (by rw [wx_g0_0 hw, wx_g6_0 hw, cl, rq]; exact kq), wx_g0_0 hw, wx_g6_0 hw, cl, rq, wx_g0_7 hw, show mm_cl (d + 7) 5 _ T = _ from g, hp_bd, hp_ts, b100_101]
  · rw [b100_84_k4 (wx_o0 hw) (wx_s0_0 hw) (by rw [wx_g0_0 hw]; exact wx_o6 hw) (by rw [wx_g0_0 hw]; exact wx_s6_0 hw) (by rw [wx_g0_0 hw, wx_g6_0 hw, wx_N7 hw]; exact hbi) (by rw [wx_g0_0 hw, wx_g6_0 hw]; exact wx_a7 hw) (by rw [wx_g0_0 hw, wx_g6_0 hw, cl]; exact sq) (wx_s0_7 hw) (by rw [wx_g0_0 hw, wx_g6_0 hw, cl, rq]; exact kq), wx_g0_0 hw, wx_g6_0 hw, cl, rq, wx_g0_7 hw, show mm_cl (d + 7) 5 _ T = _ from g, hp_bd, hp_ts, b100_101]
  · rw [b100_84_k10 (wx_o0 hw) (wx_s0_0 hw) (by rw [wx_g0_0 hw]; exact wx_o6 hw) (by rw [wx_g0_0 hw]; exact wx_s6_0 hw) (by rw [wx_g0_0 hw, wx_g6_0 hw, wx_N7 hw]; exact hbi) (by rw [wx_g0_0 hw, wx_g6_0 hw]; exact wx_a7 hw) (by rw [wx_g0_0 hw, wx_g6_0 hw, cl]; exact sq) (wx_s0_7 hw) (by rw [wx_g0_0 hw, wx_g6_0 hw, cl, rq]; exact kq), wx_g0_0 hw, wx_g6_0 hw, cl, rq, wx_g0_7 hw, show mm_cl (d + 7) 5 _ T = _ from g, hp_bd, hp_ts, b100_101]
  · rw [b100_84_k2 (wx_o0 hw) (wx_s0_0 hw) (by rw [wx_g0_0 hw]; exact wx_o6 hw) (by rw [wx_g0_0 hw]; exact wx_s6_0 hw) (by rw [wx_g0_0 hw, wx_g6_0 hw, wx_N7 hw]; exact hbi) (by rw [wx_g0_0 hw, wx_g6_0 hw]; exact wx_a7 hw) (by rw [wx_g0_0 hw, wx_g6_0 hw, cl]; exact sq) (wx_s0_7 hw) (by rw [wx_g0_0 hw, wx_g6_0 hw, cl, rq]; exact kq), wx_g0_0 hw, wx_g6_0 hw, cl, rq, wx_g0_7 hw, show mm_cl (d + 7) 27 _ T = _ from g, hp_bd, hp_ts, b100_101]
  · rw [b100_84_k7 (wx_o0 hw) (wx_s0_0 hw) (by rw [wx_g0_0 hw]; exact wx_o6 hw) (by rw [wx_g0_0 hw]; exact wx_s6_0 hw) (by rw [wx_g0_0 hw, wx_g6_0 hw, wx_N7 hw]; exact hbi) (by rw [wx_g0_0 hw, wx_g6_0 hw]; exact wx_a7 hw) (by rw [wx_g0_0 hw, wx_g6_0 hw, cl]; exact sq) (wx_s0_7 hw) (by rw [wx_g0_0 hw, wx_g6_0 hw, cl, rq]; exact kq), wx_g0_0 hw, wx_g6_0 hw, cl, rq, wx_g0_7 hw, show mm_cl (d + 7) 5 _ T = _ from g, hp_bd, hp_ts, b100_101]
  · rw [b100_84_k3 (wx_o0 hw) (wx_s0_0 hw) (by rw [wx_g0_0 hw]; exact wx_o6 hw) (by rw [wx_g0_0 hw]; exact wx_s6_0 hw) (by rw [wx_g0_0 hw, wx_g6_0 hw, wx_N7 hw]; exact hbi) (by rw [wx_g0_0 hw, wx_g6_0 hw]; exact wx_a7 hw) (by rw [wx_g0_0 hw, wx_g6_0 hw, cl]; exact sq) (wx_s0_7 hw) (by rw [wx_g0_0 hw, wx_g6_0 hw, cl, rq]; exact kq), wx_g0_0 hw, wx_g6_0 hw, cl, rq, wx_g0_7 hw, show mm_cl (d + 7) 30 _ T = _ from g, hp_bd, hp_ts, b100_101]
  · rw [b100_84_k9 (wx_o0 hw) (wx_s0_0 hw) (by rw [wx_g0_0 hw]; exact wx_o6 hw) (by rw [wx_g0_0 hw]; exact wx_s6_0 hw) (by rw [wx_g0_0 hw, wx_g6_0 hw, wx_N7 hw]; exact hbi) (by rw [wx_g0_0 hw, wx_g6_0 hw]; exact wx_a7 hw) (by rw [wx_g0_0 hw, wx_g6_0 hw, cl]; exact sq) (wx_s0_7 hw) (by rw [wx_g0_0 hw, wx_g6_0 hw, cl, rq]; exact kq), wx_g0_0 hw, wx_g6_0 hw, cl, rq, wx_g0_7 hw, show mm_cl (d + 7) 27 _ T = _ from g, hp_bd, hp_ts, b100_101]
theorem ab_lens (hk : k < 7) {i u : Int32} : (ab_bid k i u x).2.length ≤ 20 ∧ (ab_wait k i u x).2.length ≤ 20 ∧ (ab_tell k i u x).2.length ≤ 20 ∧ (∀ b ∈ (ab_bid k i u x).2, b < 100) ∧ (∀ b ∈ (ab_wait k i u x).2, b < 100) ∧ (∀ b ∈ (ab_tell k i u x).2, b < 100) := by
  rcases k7c hk with rfl | rfl | rfl | rfl | rfl | rfl | rfl <;> simp [ab_tell, ab_t0, ab_wait, ab_w0, ab_bid]
theorem c_27 (ok : gb_ok G) (hR : RC S G) : oC S (d + 8) 100 [.ref 0, .int x, .int a, .int y] (.int (op_27 G x a y).1) (op_27 G x a y).2 := by
  have hw := hR.1
  have hk : gK G ≤ 6 := ok.1.1.1
  have i0 : mm_inb (nI 0) 21 = true := by decide
  have c0 : (nI 0).toNatClampNeg = 0 := nI_clamp (by decide)
  have f0 : sf_f gc_rr S (mm_uM S 88 0 (nI 0)) := sf_uM rfl
  have w0 : mm_W (mm_uM S 88 0 (nI 0)) := hw
  have r0 : gc_r (mm_uM S 88 0 (nI 0)) [] := ⟨rds, fun i hi => absurd hi (Nat.not_lt_zero i)⟩
  have R0 := RC_r ok f0 w0 hR r0
  have ok0 : gb_ok (gS_r G []) := ok_r ok (by decide) (fun b hb => by cases hb)
  have st : mm_cl (d + 8) 100 [.ref 0, .int x, .int a, .int y] S = mm_bd (mm_cl (d + 7) 8 [.ref 6, .int x] (mm_uM S 88 0 (nI 0))) (fun v S2 => mm_ex (d + 8) 100 15 [.ref 0, .int x, .int a, .int y] (v.toList ++ []) S2) := by
    rw [e100, b100_0 (wx_o0 hw) (wx_s0_7 hw) (by rw [wx_g0_7 hw]; exact wx_a88 hw) (by rw [wx_g0_7 hw, wx_N88 hw]; exact i0) (wx_s0_0 hw) (by rw [wx_g0_0 hw]; exact wx_k6 hw), wx_g0_7 hw, c0, wx_g0_0 hw]
  rcases kw_c hk x with ⟨e, h⟩ | ⟨b, hb, e, rfl⟩
  · have k := s8n (G := gS_r G []) (d := d + 7) ok0 R0 e
    have eo : op_27 G x a y = (nI 0, gS_r G []) := by unfold op_27; simp only [e]
    rw [eo]
    refine ⟨_, ?_, R0, rr_0 f0, sz_s rfl rfl⟩
    rw [st, k, hp_bd, hp_ts, b100_15, if_pos rfl, b100_18]
  · have k := s8s (G := gS_r G []) (d := d + 7) ok0 R0 hb
    obtain ⟨q, hq, -, -, -, kq, hy⟩ := RC_by (G := gS_r G []) ok0 R0 hb
    have hk7 : ab_ki (gP G) b < 7 := (ok.1.1.2.2.2.1 b hb).1
    have hy : cd_by (mm_uM S 88 0 (nI 0)) q b (ab_ki (gP G) b) (ab_v (gP G) b) (ab_wo (gP G) b) := hy
    have kq : mm_rk (mm_uM S 88 0 (nI 0)) q = cd_kc (ab_ki (gP G) b) := kq
    have st2 : mm_cl (d + 8) 100 [.ref 0, .int (nI b), .int a, .int y] S = if a = nI 0 then mm_ex (d + 8) 100 48 [.ref 0, .int (nI b), .int a, .int y] [] (mm_uM S 88 0 (nI 0)) else if a = nI 1 then mm_ex (d + 8) 100 66 [.ref 0, .int (nI b), .int a, .int y] [] (mm_uM S 88 0 (nI 0)) else if a = nI 2 then mm_ex (d + 8) 100 84 [.ref 0, .int (nI b), .int a, .int y] [] (mm_uM S 88 0 (nI 0)) else mm_ex (d + 8) 100 102 [.ref 0, .int (nI b), .int a, .int y] [] (mm_uM S 88 0 (nI 0)) := by
      rw [st, k, hp_bd, hp_ts, b100_15, if_neg i01, b100_20, b100_21]
    have fin : ∀ {r : Int32 × List Nat} {U : mm_S}, mm_cl (d + 8) 100 [.ref 0, .int (nI b), .int a, .int y] S = some (some (.int r.1), U) → cLog (mm_uM S 88 0 (nI 0)) U ([] ++ r.2) → oC S (d + 8) 100 [.ref 0, .int (nI b), .int a, .int y] (.int r.1) (gS_r G r.2) := by
      intro r U h1 h2
      have f := sf_tr f0 h2.1
      exact ⟨U, h1, RC_r ok f h2.2.1 hR h2.2.2.1, rr_0 f, sz_s h2.2.2.2.1 h2.2.2.2.2⟩
    by_cases a0 : a = nI 0
    · have eo : op_27 G (nI b) a y = ((ab_bid (ab_ki (gP G) b) (nI b) (nI (ab_v (gP G) b)) y).1, gS_r G (ab_bid (ab_ki (gP G) b) (nI b) (nI (ab_v (gP G) b)) y).2) := by unfold op_27; simp only [e, a0, if_true]
      obtain ⟨U, g1, g2⟩ := bid_c (d := d + 5) (x := y) w0 r0 (by decide) hk7 hy
      rw [eo]
      refine fin ?_ g2
      rw [st2, if_pos a0]
      exact a100_48 w0 (by omega) hq hk7 kq g1
    by_cases a1 : a = nI 1
    · have eo : op_27 G (nI b) a y = ((ab_wait (ab_ki (gP G) b) (nI b) (nI (ab_v (gP G) b)) y).1, gS_r G (ab_wait (ab_ki (gP G) b) (nI b) (nI (ab_v (gP G) b)) y).2) := by unfold op_27; simp only [e]; rw [if_neg a0, if_pos a1]
      obtain ⟨U, g1, g2⟩ := wait_c (d := d + 2) (x := y) w0 r0 (by decide) hk7 hy
      rw [eo]
      refine fin ?_ g2
      rw [st2, if_neg a0, if_pos a1]
      exact a100_66 w0 (by omega) hq hk7 kq g1
    by_cases a2 : a = nI 2
    · have eo : op_27 G (nI b) a y = ((ab_tell (ab_ki (gP G) b) (nI b) (nI (ab_v (gP G) b)) y).1, gS_r G (ab_tell (ab_ki (gP G) b) (nI b) (nI (ab_v (gP G) b)) y).2) := by unfold op_27; simp only [e]; rw [if_neg a0, if_neg a1, if_pos a2]
      obtain ⟨U, g1, g2⟩ := tell_c (d := d) (x := y) w0 r0 (by decide) hk7 hy
      rw [eo]
      refine fin ?_ g2
      rw [st2, if_neg a0, if_neg a1, if_pos a2]
      exact a100_84 w0 (by omega) hq hk7 kq g1
    have eo : op_27 G (nI b) a y = (nI 0, gS_r G []) := by unfold op_27; simp only [e]; rw [if_neg a0, if_neg a1, if_neg a2]
    rw [eo]
    refine ⟨_, ?_, R0, rr_0 f0, sz_s rfl rfl⟩
    rw [st2, if_neg a0, if_neg a1, if_neg a2, b100_102]
end AD
/-! ===== a new BUYER, in the class ===== -/
def gX_new (X : gb_X) (k v w : Nat) : gb_X := ((ab_kn X.1 + 1, ab_up1 (ab_ki X.1) (ab_kn X.1) k, ab_up1 (ab_v X.1) (ab_kn X.1) v, ab_up1 (ab_wo X.1) (ab_kn X.1) w, ab_up1 (ab_fr X.1) (ab_kn X.1) none, ab_up1 (ab_up1 (ab_up1 (ab_te X.1) (3 * ab_kn X.1) 0) (3 * ab_kn X.1 + 1) 0) (3 * ab_kn X.1 + 2) 0, ab_sh X.1, ab_fe X.1), (ab_row X.2.1 ++ [ab_kn X.1], ab_up1 (ab_aw X.2.1) (ab_kn X.1) 0, ab_up1 (ab_ga X.2.1) (ab_kn X.1) (nI 0), X.2.1.2.2.2), X.2.2)
def op_0 (G : gb_G) (k v w : Int32) : Int32 × gb_G := match ab_kw 7 k with
  | none => (-1, G)
  | some k => match ab_kw 10 v, ab_kw 100 w with
    | some v, some w => if gK G = 6 then (-4, G) else (nI (gK G), gX_new G.1 k v w, G.2)
    | _, _ => (-2, G)
section NBY
variable {S T U : mm_S} {G : gb_G} {d b e k v w : Nat} {x y z : Int32}
theorem new_len (ok : gb_ok G) (h6 : ¬ gK G = 6) : (ab_row (gD G)).length < 6 := by
  have h := nd_le _ _ ok.1.2.1.1 ok.1.2.1.2.1
  have hk : gK G ≤ 6 := ok.1.1.1
  have e : ab_kn (gx_P (gb_x G)) = gK G := rfl
  have e2 : (ab_row (gx_D (gb_x G))).length = (ab_row (gD G)).length := rfl
  omega
theorem c_0 (ok : gb_ok G) (hR : RC S G) (hn : mm_n S < 1000000) : oC S (d + 5) 73 [.ref 0, .int x, .int y, .int z] (.int (op_0 G x y z).1) (op_0 G x y z).2 := by
  have hw := hR.1
  have hk : gK G ≤ 6 := ok.1.1.1
  have hkn : mm_M S 6 10 = nI (gK G) := hR.2.1.1.1
  rcases kw_d (n := 6) (m := 7) rfl (by decide) x with ⟨ex, a1, a2, a3, a4, a5, a6⟩ | ⟨ex, a1, a2, a3, a4, a5, a6⟩ | ⟨k, hk7, ex, rfl, a1, a2, a3, a4, a5, a6⟩
  · have eo : op_0 G x y z = (-1, G) := by unfold op_0; simp only [ex]
    rw [eo]
    refine oC_id hR ?_
    simp only [b73_0, b73_4, b73_10, b73_12, b73_16, b73_22, b73_26, b73_32, b73_35, b73_47, b73_50, b73_71, b73_74, e73, wx_o0 hw, wx_k0 hw, wx_q0 hw, wx_g0_0 hw, wx_s0_0 hw, wx_g0_1 hw, wx_s0_1 hw, wx_g0_2 hw, wx_s0_2 hw, wx_g0_3 hw, wx_s0_3 hw, wx_g0_4 hw, wx_s0_4 hw, wx_N42 hw, wx_a42 hw, wx_K42 hw, wx_g0_5 hw, wx_s0_5 hw, wx_g0_6 hw, wx_s0_6 hw, wx_N75 hw, wx_a75 hw, wx_K75 hw, wx_g0_7 hw, wx_s0_7 hw, wx_N88 hw, wx_a88 hw, wx_g0_8 hw, wx_s0_8 hw, wx_N89 hw, wx_a89 hw, wx_g0_9 hw, wx_s0_9 hw, wx_N90 hw, wx_a90 hw, wx_g0_10 hw, wx_s0_10 hw, wx_N91 hw, wx_a91 hw, wx_o6 hw, wx_k6 hw, wx_q6 hw, wx_g6_0 hw, wx_s6_0 hw, wx_N7 hw, wx_a7 hw, wx_K7 hw, wx_g6_1 hw, wx_s6_1 hw, wx_N8 hw, wx_a8 hw, wx_g6_2 hw, wx_s6_2 hw, wx_N9 hw, wx_a9 hw, wx_g6_3 hw, wx_s6_3 hw, wx_N10 hw, wx_a10 hw, wx_g6_4 hw, wx_s6_4 hw, wx_N11 hw, wx_a11 hw, wx_g6_5 hw, wx_s6_5 hw, wx_N12 hw, wx_a12 hw, wx_g6_6 hw, wx_s6_6 hw, wx_N13 hw, wx_a13 hw, wx_g6_7 hw, wx_s6_7 hw, wx_N14 hw, wx_a14 hw, List.not_mem_nil, false_implies, implies_true, nI_clamp, nI_add, Nat.reducePow, hp_bd, hp_bdi, hp_ts, hp_tn, hp_tsc, hp_tnc, Nat.reduceAdd, Nat.reduceSub, Nat.reduceMul, Nat.reduceLT, Nat.reduceLeDiff, Nat.reduceEqDiff, reduceIte, not_true_eq_false, not_false_eq_true, and_true, true_and, and_self, and_false, false_and, or_true, true_or, or_false, false_or, decide_true, decide_false, Bool.and_true, Bool.true_and, Bool.not_false, Bool.or_false, Bool.false_or, Bool.or_true, Bool.true_or, a1, a4]
  · have eo : op_0 G x y z = (-1, G) := by unfold op_0; simp only [ex]
    rw [eo]
    refine oC_id hR ?_
    simp only [b73_0, b73_4, b73_10, b73_12, b73_16, b73_22, b73_26, b73_32, b73_35, b73_47, b73_50, b73_71, b73_74, e73, wx_o0 hw, wx_k0 hw, wx_q0 hw, wx_g0_0 hw, wx_s0_0 hw, wx_g0_1 hw, wx_s0_1 hw, wx_g0_2 hw, wx_s0_2 hw, wx_g0_3 hw, wx_s0_3 hw, wx_g0_4 hw, wx_s0_4 hw, wx_N42 hw, wx_a42 hw, wx_K42 hw, wx_g0_5 hw, wx_s0_5 hw, wx_g0_6 hw, wx_s0_6 hw, wx_N75 hw, wx_a75 hw, wx_K75 hw, wx_g0_7 hw, wx_s0_7 hw, wx_N88 hw, wx_a88 hw, wx_g0_8 hw, wx_s0_8 hw, wx_N89 hw, wx_a89 hw, wx_g0_9 hw, wx_s0_9 hw, wx_N90 hw, wx_a90 hw, wx_g0_10 hw, wx_s0_10 hw, wx_N91 hw, wx_a91 hw, wx_o6 hw, wx_k6 hw, wx_q6 hw, wx_g6_0 hw, wx_s6_0 hw, wx_N7 hw, wx_a7 hw, wx_K7 hw, wx_g6_1 hw, wx_s6_1 hw, wx_N8 hw, wx_a8 hw, wx_g6_2 hw, wx_s6_2 hw, wx_N9 hw, wx_a9 hw, wx_g6_3 hw, wx_s6_3 hw, wx_N10 hw, wx_a10 hw, wx_g6_4 hw, wx_s6_4 hw, wx_N11 hw, wx_a11 hw, wx_g6_5 hw, wx_s6_5 hw, wx_N12 hw, wx_a12 hw, wx_g6_6 hw, wx_s6_6 hw, wx_N13 hw, wx_a13 hw, wx_g6_7 hw, wx_s6_7 hw, wx_N14 hw, wx_a14 hw, List.not_mem_nil, false_implies, implies_true, nI_clamp, nI_add, Nat.reducePow, hp_bd, hp_bdi, hp_ts, hp_tn, hp_tsc, hp_tnc, Nat.reduceAdd, Nat.reduceSub, Nat.reduceMul, Nat.reduceLT, Nat.reduceLeDiff, Nat.reduceEqDiff, reduceIte, not_true_eq_false, not_false_eq_true, and_true, true_and, and_self, and_false, false_and, or_true, true_or, or_false, false_or, decide_true, decide_false, Bool.and_true, Bool.true_and, Bool.not_false, Bool.or_false, Bool.false_or, Bool.or_true, Bool.true_or, a1, a4]
  rcases kw_d (n := 9) (m := 10) rfl (by decide) y with ⟨ey, c1, c2, c3, c4, c5, c6⟩ | ⟨ey, c1, c2, c3, c4, c5, c6⟩ | ⟨v, hv, ey, rfl, c1, c2, c3, c4, c5, c6⟩
  · have eo : op_0 G (nI k) y z = (-2, G) := by unfold op_0; simp only [ex, ey]
    rw [eo]
    refine oC_id hR ?_
    simp only [b73_0, b73_4, b73_10, b73_12, b73_16, b73_22, b73_26, b73_32, b73_35, b73_47, b73_50, b73_71, b73_74, e73, wx_o0 hw, wx_k0 hw, wx_q0 hw, wx_g0_0 hw, wx_s0_0 hw, wx_g0_1 hw, wx_s0_1 hw, wx_g0_2 hw, wx_s0_2 hw, wx_g0_3 hw, wx_s0_3 hw, wx_g0_4 hw, wx_s0_4 hw, wx_N42 hw, wx_a42 hw, wx_K42 hw, wx_g0_5 hw, wx_s0_5 hw, wx_g0_6 hw, wx_s0_6 hw, wx_N75 hw, wx_a75 hw, wx_K75 hw, wx_g0_7 hw, wx_s0_7 hw, wx_N88 hw, wx_a88 hw, wx_g0_8 hw, wx_s0_8 hw, wx_N89 hw, wx_a89 hw, wx_g0_9 hw, wx_s0_9 hw, wx_N90 hw, wx_a90 hw, wx_g0_10 hw, wx_s0_10 hw, wx_N91 hw, wx_a91 hw, wx_o6 hw, wx_k6 hw, wx_q6 hw, wx_g6_0 hw, wx_s6_0 hw, wx_N7 hw, wx_a7 hw, wx_K7 hw, wx_g6_1 hw, wx_s6_1 hw, wx_N8 hw, wx_a8 hw, wx_g6_2 hw, wx_s6_2 hw, wx_N9 hw, wx_a9 hw, wx_g6_3 hw, wx_s6_3 hw, wx_N10 hw, wx_a10 hw, wx_g6_4 hw, wx_s6_4 hw, wx_N11 hw, wx_a11 hw, wx_g6_5 hw, wx_s6_5 hw, wx_N12 hw, wx_a12 hw, wx_g6_6 hw, wx_s6_6 hw, wx_N13 hw, wx_a13 hw, wx_g6_7 hw, wx_s6_7 hw, wx_N14 hw, wx_a14 hw, List.not_mem_nil, false_implies, implies_true, nI_clamp, nI_add, Nat.reducePow, hp_bd, hp_bdi, hp_ts, hp_tn, hp_tsc, hp_tnc, Nat.reduceAdd, Nat.reduceSub, Nat.reduceMul, Nat.reduceLT, Nat.reduceLeDiff, Nat.reduceEqDiff, reduceIte, not_true_eq_false, not_false_eq_true, and_true, true_and, and_self, and_false, false_and, or_true, true_or, or_false, false_or, decide_true, decide_false, Bool.and_true, Bool.true_and, Bool.not_false, Bool.or_false, Bool.false_or, Bool.or_true, Bool.true_or, a1, a4, c1]
  · have eo : op_0 G (nI k) y z = (-2, G) := by unfold op_0; simp only [ex, ey]
    rw [eo]
    refine oC_id hR ?_
    simp only [b73_0, b73_4, b73_10, b73_12, b73_16, b73_22, b73_26, b73_32, b73_35, b73_47, b73_50, b73_71, b73_74, e73, wx_o0 hw, wx_k0 hw, wx_q0 hw, wx_g0_0 hw, wx_s0_0 hw, wx_g0_1 hw, wx_s0_1 hw, wx_g0_2 hw, wx_s0_2 hw, wx_g0_3 hw, wx_s0_3 hw, wx_g0_4 hw, wx_s0_4 hw, wx_N42 hw, wx_a42 hw, wx_K42 hw, wx_g0_5 hw, wx_s0_5 hw, wx_g0_6 hw, wx_s0_6 hw, wx_N75 hw, wx_a75 hw, wx_K75 hw, wx_g0_7 hw, wx_s0_7 hw, wx_N88 hw, wx_a88 hw, wx_g0_8 hw, wx_s0_8 hw, wx_N89 hw, wx_a89 hw, wx_g0_9 hw, wx_s0_9 hw, wx_N90 hw, wx_a90 hw, wx_g0_10 hw, wx_s0_10 hw, wx_N91 hw, wx_a91 hw, wx_o6 hw, wx_k6 hw, wx_q6 hw, wx_g6_0 hw, wx_s6_0 hw, wx_N7 hw, wx_a7 hw, wx_K7 hw, wx_g6_1 hw, wx_s6_1 hw, wx_N8 hw, wx_a8 hw, wx_g6_2 hw, wx_s6_2 hw, wx_N9 hw, wx_a9 hw, wx_g6_3 hw, wx_s6_3 hw, wx_N10 hw, wx_a10 hw, wx_g6_4 hw, wx_s6_4 hw, wx_N11 hw, wx_a11 hw, wx_g6_5 hw, wx_s6_5 hw, wx_N12 hw, wx_a12 hw, wx_g6_6 hw, wx_s6_6 hw, wx_N13 hw, wx_a13 hw, wx_g6_7 hw, wx_s6_7 hw, wx_N14 hw, wx_a14 hw, List.not_mem_nil, false_implies, implies_true, nI_clamp, nI_add, Nat.reducePow, hp_bd, hp_bdi, hp_ts, hp_tn, hp_tsc, hp_tnc, Nat.reduceAdd, Nat.reduceSub, Nat.reduceMul, Nat.reduceLT, Nat.reduceLeDiff, Nat.reduceEqDiff, reduceIte, not_true_eq_false, not_false_eq_true, and_true, true_and, and_self, and_false, false_and, or_true, true_or, or_false, false_or, decide_true, decide_false, Bool.and_true, Bool.true_and, Bool.not_false, Bool.or_false, Bool.false_or, Bool.or_true, Bool.true_or, a1, a4, c1, c3]
  rcases kw_d (n := 99) (m := 100) rfl (by decide) z with ⟨ez, g1, g2, g3, g4, g5, g6⟩ | ⟨ez, g1, g2, g3, g4, g5, g6⟩ | ⟨w, hw9, ez, rfl, g1, g2, g3, g4, g5, g6⟩
  · have eo : op_0 G (nI k) (nI v) z = (-2, G) := by unfold op_0; simp only [ex, ey, ez]
    rw [eo]
    refine oC_id hR ?_
    simp only [b73_0, b73_4, b73_10, b73_12, b73_16, b73_22, b73_26, b73_32, b73_35, b73_47, b73_50, b73_71, b73_74, e73, wx_o0 hw, wx_k0 hw, wx_q0 hw, wx_g0_0 hw, wx_s0_0 hw, wx_g0_1 hw, wx_s0_1 hw, wx_g0_2 hw, wx_s0_2 hw, wx_g0_3 hw, wx_s0_3 hw, wx_g0_4 hw, wx_s0_4 hw, wx_N42 hw, wx_a42 hw, wx_K42 hw, wx_g0_5 hw, wx_s0_5 hw, wx_g0_6 hw, wx_s0_6 hw, wx_N75 hw, wx_a75 hw, wx_K75 hw, wx_g0_7 hw, wx_s0_7 hw, wx_N88 hw, wx_a88 hw, wx_g0_8 hw, wx_s0_8 hw, wx_N89 hw, wx_a89 hw, wx_g0_9 hw, wx_s0_9 hw, wx_N90 hw, wx_a90 hw, wx_g0_10 hw, wx_s0_10 hw, wx_N91 hw, wx_a91 hw, wx_o6 hw, wx_k6 hw, wx_q6 hw, wx_g6_0 hw, wx_s6_0 hw, wx_N7 hw, wx_a7 hw, wx_K7 hw, wx_g6_1 hw, wx_s6_1 hw, wx_N8 hw, wx_a8 hw, wx_g6_2 hw, wx_s6_2 hw, wx_N9 hw, wx_a9 hw, wx_g6_3 hw, wx_s6_3 hw, wx_N10 hw, wx_a10 hw, wx_g6_4 hw, wx_s6_4 hw, wx_N11 hw, wx_a11 hw, wx_g6_5 hw, wx_s6_5 hw, wx_N12 hw, wx_a12 hw, wx_g6_6 hw, wx_s6_6 hw, wx_N13 hw, wx_a13 hw, wx_g6_7 hw, wx_s6_7 hw, wx_N14 hw, wx_a14 hw, List.not_mem_nil, false_implies, implies_true, nI_clamp, nI_add, Nat.reducePow, hp_bd, hp_bdi, hp_ts, hp_tn, hp_tsc, hp_tnc, Nat.reduceAdd, Nat.reduceSub, Nat.reduceMul, Nat.reduceLT, Nat.reduceLeDiff, Nat.reduceEqDiff, reduceIte, not_true_eq_false, not_false_eq_true, and_true, true_and, and_self, and_false, false_and, or_true, true_or, or_false, false_or, decide_true, decide_false, Bool.and_true, Bool.true_and, Bool.not_false, Bool.or_false, Bool.false_or, Bool.or_true, Bool.true_or, a1, a4, c1, c3, g1]
  · have eo : op_0 G (nI k) (nI v) z = (-2, G) := by unfold op_0; simp only [ex, ey, ez]
    rw [eo]
    refine oC_id hR ?_
    simp only [b73_0, b73_4, b73_10, b73_12, b73_16, b73_22, b73_26, b73_32, b73_35, b73_47, b73_50, b73_71, b73_74, e73, wx_o0 hw, wx_k0 hw, wx_q0 hw, wx_g0_0 hw, wx_s0_0 hw, wx_g0_1 hw, wx_s0_1 hw, wx_g0_2 hw, wx_s0_2 hw, wx_g0_3 hw, wx_s0_3 hw, wx_g0_4 hw, wx_s0_4 hw, wx_N42 hw, wx_a42 hw, wx_K42 hw, wx_g0_5 hw, wx_s0_5 hw, wx_g0_6 hw, wx_s0_6 hw, wx_N75 hw, wx_a75 hw, wx_K75 hw, wx_g0_7 hw, wx_s0_7 hw, wx_N88 hw, wx_a88 hw, wx_g0_8 hw, wx_s0_8 hw, wx_N89 hw, wx_a89 hw, wx_g0_9 hw, wx_s0_9 hw, wx_N90 hw, wx_a90 hw, wx_g0_10 hw, wx_s0_10 hw, wx_N91 hw, wx_a91 hw, wx_o6 hw, wx_k6 hw, wx_q6 hw, wx_g6_0 hw, wx_s6_0 hw, wx_N7 hw, wx_a7 hw, wx_K7 hw, wx_g6_1 hw, wx_s6_1 hw, wx_N8 hw, wx_a8 hw, wx_g6_2 hw, wx_s6_2 hw, wx_N9 hw, wx_a9 hw, wx_g6_3 hw, wx_s6_3 hw, wx_N10 hw, wx_a10 hw, wx_g6_4 hw, wx_s6_4 hw, wx_N11 hw, wx_a11 hw, wx_g6_5 hw, wx_s6_5 hw, wx_N12 hw, wx_a12 hw, wx_g6_6 hw, wx_s6_6 hw, wx_N13 hw, wx_a13 hw, wx_g6_7 hw, wx_s6_7 hw, wx_N14 hw, wx_a14 hw, List.not_mem_nil, false_implies, implies_true, nI_clamp, nI_add, Nat.reducePow, hp_bd, hp_bdi, hp_ts, hp_tn, hp_tsc, hp_tnc, Nat.reduceAdd, Nat.reduceSub, Nat.reduceMul, Nat.reduceLT, Nat.reduceLeDiff, Nat.reduceEqDiff, reduceIte, not_true_eq_false, not_false_eq_true, and_true, true_and, and_self, and_false, false_and, or_true, true_or, or_false, false_or, decide_true, decide_false, Bool.and_true, Bool.true_and, Bool.not_false, Bool.or_false, Bool.false_or, Bool.or_true, Bool.true_or, a1, a4, c1, c3, g1, g4]
  by_cases h6 : gK G = 6
  · have eo : op_0 G (nI k) (nI v) (nI w) = (-4, G) := by unfold op_0; simp only [ex, ey, ez, h6, if_true]
    rw [eo]
    refine oC_id hR ?_
    have q : (nI 6 < nI 6) = False := eq_false (nI_nlt (Nat.le_refl _) (by decide))
    rw [h6] at hkn
    simp only [b73_0, b73_4, b73_10, b73_12, b73_16, b73_22, b73_26, b73_32, b73_35, b73_47, b73_50, b73_71, b73_74, e73, wx_o0 hw, wx_k0 hw, wx_q0 hw, wx_g0_0 hw, wx_s0_0 hw, wx_g0_1 hw, wx_s0_1 hw, wx_g0_2 hw, wx_s0_2 hw, wx_g0_3 hw, wx_s0_3 hw, wx_g0_4 hw, wx_s0_4 hw, wx_N42 hw, wx_a42 hw, wx_K42 hw, wx_g0_5 hw, wx_s0_5 hw, wx_g0_6 hw, wx_s0_6 hw, wx_N75 hw, wx_a75 hw, wx_K75 hw, wx_g0_7 hw, wx_s0_7 hw, wx_N88 hw, wx_a88 hw, wx_g0_8 hw, wx_s0_8 hw, wx_N89 hw, wx_a89 hw, wx_g0_9 hw, wx_s0_9 hw, wx_N90 hw, wx_a90 hw, wx_g0_10 hw, wx_s0_10 hw, wx_N91 hw, wx_a91 hw, wx_o6 hw, wx_k6 hw, wx_q6 hw, wx_g6_0 hw, wx_s6_0 hw, wx_N7 hw, wx_a7 hw, wx_K7 hw, wx_g6_1 hw, wx_s6_1 hw, wx_N8 hw, wx_a8 hw, wx_g6_2 hw, wx_s6_2 hw, wx_N9 hw, wx_a9 hw, wx_g6_3 hw, wx_s6_3 hw, wx_N10 hw, wx_a10 hw, wx_g6_4 hw, wx_s6_4 hw, wx_N11 hw, wx_a11 hw, wx_g6_5 hw, wx_s6_5 hw, wx_N12 hw, wx_a12 hw, wx_g6_6 hw, wx_s6_6 hw, wx_N13 hw, wx_a13 hw, wx_g6_7 hw, wx_s6_7 hw, wx_N14 hw, wx_a14 hw, List.not_mem_nil, false_implies, implies_true, nI_clamp, nI_add, Nat.reducePow, hp_bd, hp_bdi, hp_ts, hp_tn, hp_tsc, hp_tnc, Nat.reduceAdd, Nat.reduceSub, Nat.reduceMul, Nat.reduceLT, Nat.reduceLeDiff, Nat.reduceEqDiff, reduceIte, not_true_eq_false, not_false_eq_true, and_true, true_and, and_self, and_false, false_and, or_true, true_or, or_false, false_or, decide_true, decide_false, Bool.and_true, Bool.true_and, Bool.not_false, Bool.or_false, Bool.false_or, Bool.or_true, Bool.true_or, a1, a4, c1, c3, g1, g4, hkn, q]
  have eo : op_0 G (nI k) (nI v) (nI w) = (nI (gK G), gX_new G.1 k v w, G.2) := by unfold op_0; simp only [ex, ey, ez, h6, if_false]
  have hl := new_len ok h6
  have k111 := s111 (d := d) (j := k) (x1 := nI (gK G)) (x2 := nI v) (x3 := nI w) hn (by omega)
  have hS : 137 ≤ mm_n S := hw.1
  -- the new one
  have ckk : mk_ck k = cd_kc k := rfl
  generalize hN : mk_nb S k (nI (gK G)) (nI v) (nI w) = N at k111
  have nM : ∀ c j, c ≠ mm_n S → mm_M N c j = mm_M S c j := by
    intro c j h
    rw [← hN]
    show mm_M (mm_uM (mm_uM (mm_uM (mm_uM (mm_nw S (mk_ck k) 4) (mm_n S) 0 _) (mm_n S) 1 _) (mm_n S) 2 _) (mm_n S) 3 _) c j = _
    rw [rdn (fun e => h e.1), rdn (fun e => h e.1), rdn (fun e => h e.1), rdn (fun e => h e.1), hn_M, if_neg h]
  have nR : ∀ c j, c ≠ mm_n S → mm_R N c j = mm_R S c j := by
    intro c j h
    rw [← hN]
    show mm_R (mm_nw S (mk_ck k) 4) c j = _
    rw [hn_R, if_neg h]
  have nL : ∀ c j, c ≠ mm_n S → mm_L N c j = mm_L S c j := by
    intro c j h
    rw [← hN]
    show mm_L (mm_nw S (mk_ck k) 4) c j = _
    rw [hn_L, if_neg h]
  have nK : ∀ c, mm_K N c = if c = mm_n S then mk_ck k else mm_K S c := by
    intro c
    rw [← hN]
    show mm_K (mm_nw S (mk_ck k) 4) c = _
    rw [hn_K]
  have nN : ∀ c, c ≠ mm_n S → mm_N N c = mm_N S c := by
    intro c h
    rw [← hN]
    show mm_N (mm_nw S (mk_ck k) 4) c = _
    rw [hn_N, if_neg h]
  have nn : mm_n N = mm_n S + 1 := by rw [← hN]; rfl
  have nz : mm_z N = mm_z S + 4 := by rw [← hN]; rfl
  have nb : mm_M N (mm_n S) 0 = nI k ∧ mm_M N (mm_n S) 1 = nI (gK G) ∧ mm_M N (mm_n S) 2 = nI v ∧ mm_M N (mm_n S) 3 = nI w := by
    rw [← hN]
    refine ⟨?_, ?_, ?_, ?_⟩
    · exact (rdn (by omega)).trans ((rdn (by omega)).trans ((rdn (by omega)).trans rds))
    · exact (rdn (by omega)).trans ((rdn (by omega)).trans rds)
    · exact (rdn (by omega)).trans rds
    · exact rds
  have fN : sf_f (gc_6n (mm_n S)) S N := by
    refine ⟨fun c j h => ?_, fun c h => ?_, by omega⟩
    · have h2 : c ≠ mm_n S := by unfold gc_6n at h; omega
      exact ⟨nM c j h2, nL c j h2, nR c j h2⟩
    · exact ⟨by rw [nK, if_neg (by omega)], nN c (by omega)⟩
  have wN : mm_W N := by
    obtain ⟨h1, h2, h3⟩ := hw
    refine ⟨by omega, fun a ha => ?_, fun a j b e => ?_⟩
    · exact ⟨by rw [nK, if_neg (by omega)]; exact (h2 a ha).1, by rw [nN a (by omega)]; exact (h2 a ha).2⟩
    · have := (tr_lt e).1
      rw [nR a j (by omega)]
      exact h3 a j b e
  have yN : cd_by N (mm_n S) (gK G) k v w := ⟨hS, by omega, by rw [nK, if_pos rfl, ckk], nb.1, nb.2.1, nb.2.2.1, nb.2.2.2⟩
  have oN := by_o hk7 yN
  have kN : mm_M N 6 10 = nI (gK G) := (nM _ _ (by omega)).trans hkn
  have tN : mm_M N 6 11 = nI (ab_row (gD G)).length := (nM _ _ (by omega)).trans hR.2.1.2.1.1
  have wU : mm_W (mm_uR N (6 + 1) (gK G) (some (mm_n S))) := by
    obtain ⟨h1, h2, h3⟩ := wN
    refine ⟨h1, h2, fun a j b e => ?_⟩
    rw [hp_RuR, if_neg]
    · exact h3 a j b e
    · rintro ⟨rfl, -⟩
      cases e
  have k9 := s9 (d := d + 3) wN dy6 kN (by omega) tN hl oN wU
  rw [eo]
  have key : mm_cl (d + 5) 73 [.ref 0, .int (nI k), .int (nI v), .int (nI w)] S = some (some (.int (nI (gK G))), mk_we N 6 (mm_n S) (gK G) (ab_row (gD G)).length) := by
    have q : (nI (gK G) < nI 6) = True := eq_true (nI_lt (by omega) (by decide))
    rw [e73, b73_0, if_neg (of_eq_false a1), b73_4, if_pos (of_eq_true a4), b73_12, if_neg (of_eq_false c1), b73_16, if_neg (of_eq_false c3), b73_22, if_neg (of_eq_false g1), b73_26, if_pos (of_eq_true g4), b73_35 (wx_o0 hw) (wx_s0_0 hw) (by rw [wx_g0_0 hw]; exact wx_o6 hw), wx_g0_0 hw, hkn, if_pos (of_eq_true q), b73_50 (wx_o0 hw) (wx_s0_0 hw) (by rw [wx_g0_0 hw]; exact wx_o6 hw), wx_g0_0 hw, hkn, k111, hp_bd, hp_tsc, b73_71 (wx_k6 wN), k9, hp_bd, hp_tn, b73_74]
  generalize hV : mk_we N 6 (mm_n S) (gK G) (ab_row (gD G)).length = V at key
  have vM : ∀ c j, mm_M V c j = if c = 6 ∧ j = 11 then nI ((ab_row (gD G)).length + 1) else if c = 12 ∧ j = (ab_row (gD G)).length then nI (gK G) else if c = 6 ∧ j = 10 then nI (gK G + 1) else if c = 11 ∧ j = gK G then nI 0 else if c = 10 ∧ j = gK G then nI 0 else if c = 9 ∧ j = gK G * 3 + 2 then nI 0 else if c = 9 ∧ j = gK G * 3 + 1 then nI 0 else if c = 9 ∧ j = gK G * 3 + 0 then nI 0 else if c = 8 ∧ j = gK G then -1 else mm_M N c j := by
    intro c j
    rw [← hV]
    unfold mk_we
    rw [hp_MuM, hp_MuM, hp_MuM, hp_MuM, hp_MuM, hp_MuM, hp_MuM, hp_MuM, hp_MuM]
    rfl
  have vR : ∀ c j, mm_R V c j = if c = 7 ∧ j = gK G then some (mm_n S) else mm_R N c j := by
    intro c j
    rw [← hV]
    show mm_R (mm_uR N (6 + 1) (gK G) (some (mm_n S))) c j = _
    rw [hp_RuR]
  have vL : mm_L V = mm_L N := by rw [← hV]; rfl
  have vK : mm_K V = mm_K N := by rw [← hV]; rfl
  have vN : mm_N V = mm_N N := by rw [← hV]; rfl
  have vn : mm_n V = mm_n N := by rw [← hV]; rfl
  have vz : mm_z V = mm_z N := by rw [← hV]; rfl
  have wV : mm_W V := by rw [← hV]; exact wU
  have fV : sf_f gc_6 N V := by
    refine ⟨fun c j h => ?_, fun c _ => ⟨by rw [vK], by rw [vN]⟩, by rw [vn]; exact Nat.le_refl _⟩
    unfold gc_6 at h
    refine ⟨?_, by rw [vL], ?_⟩
    · rw [vM]
      have h6 : ¬ c = 6 := by omega
      have h12 : ¬ c = 12 := by omega
      have h11 : ¬ c = 11 := by omega
      have h10 : ¬ c = 10 := by omega
      have h9 : ¬ c = 9 := by omega
      have h8 : ¬ c = 8 := by omega
      simp only [h6, h12, h11, h10, h9, h8, false_and, if_false]
    · rw [vR, if_neg (by omega)]
  have f : sf_f (gc_6n (mm_n S)) S V := sf_tr fN (sf_mo fV (fun c j h => Or.inl h))
  have yV : ∀ e b k v w, e ≠ mm_n S → cd_by S e b k v w → cd_by V e b k v w := by
    intro e b k v w he hy
    refine tr_by f (fun j _ h => ?_) hy
    have h1 := hy.1
    have h2 := hy.2.1
    unfold gc_6n at h
    omega
  have yV2 : cd_by V (mm_n S) (gK G) k v w := tr_by fV (fun j _ h => by unfold gc_6 at h; omega) yN
  have g6 : ∀ j, j ≠ 10 → j ≠ 11 → mm_M V 6 j = mm_M S 6 j := by
    intro j h1 h2
    rw [vM]
    simp +decide only [h1, h2, and_false, if_false, false_and]
    exact nM _ _ (by omega)
  refine ⟨V, key, RC_6n ok f wV hR ?_ ?_, sf_mo f (fun c j h => by unfold gc_6n at h; unfold gc_0; omega), ⟨by omega, by omega⟩⟩
  · obtain ⟨⟨p1, p2, p3, p4, p5, s, p6, p7, p8⟩, ⟨h1, h2, h3, h4, h5, h6, h7, h8⟩, q1, q2, q3, q4⟩ := hR.2.1
    have hs6 : ∀ m, m ≤ 4 → ∀ i, mm_M V (s + m) i = mm_M S (s + m) i := fun m hm i => (f.1 _ _ (fun h => by unfold gc_6n at h; unfold mm_sh at p7; omega)).1
    refine ⟨⟨?_, (g6 _ (by decide) (by decide)).trans p2, fun i hi => ?_, fun i hi => ?_, fun i hi => ?_, s, ?_, p7, fr_cs hs6 p8⟩, ⟨?_, fun i hi => ?_, fun i hi => ?_, fun i hi => ?_, (g6 _ (by decide) (by decide)).trans h5, (g6 _ (by decide) (by decide)).trans h6, (g6 _ (by decide) (by decide)).trans h7, (g6 _ (by decide) (by decide)).trans h8⟩, (g6 _ (by decide) (by decide)).trans q1, (g6 _ (by decide) (by decide)).trans q2, fun i hi => ?_, ?_⟩
    · rw [vM]; rfl
    · show mm_M V 8 i = cd_fo (ab_up1 (ab_fr (gP G)) (gK G) none i)
      rw [vM]
      unfold ab_up1
      by_cases h : i = gK G
      · simp +decide only [h, if_true, if_false, and_true, and_false, false_and]
      · simp +decide only [h, if_false, and_false, false_and]
        exact (nM _ _ (by omega)).trans (p3 i (by have hi : i < gK G + 1 := hi; have : i < gK G := (by omega); exact this))
    · show mm_M V 9 i = nI (ab_up1 (ab_up1 (ab_up1 (ab_te (gP G)) (3 * gK G) 0) (3 * gK G + 1) 0) (3 * gK G + 2) 0 i)
      have hi : i < 3 * (gK G + 1) := hi
      rw [vM]
      unfold ab_up1
      by_cases h2 : i = 3 * gK G + 2
      · have e2 : i = gK G * 3 + 2 := by omega
        rw [if_pos h2]
        simp +decide only [e2, if_true, if_false, and_true, and_false, false_and]
      rw [if_neg h2]
      by_cases h1 : i = 3 * gK G + 1
      · have e1 : i = gK G * 3 + 1 := by omega
        have n2 : ¬ gK G * 3 + 1 = gK G * 3 + 2 := by omega
        rw [if_pos h1]
        simp +decide only [e1, n2, if_true, if_false, and_true, and_false, false_and]
      rw [if_neg h1]
      by_cases h0 : i = 3 * gK G
      · have e0 : i = gK G * 3 + 0 := by omega
        have n2 : ¬ gK G * 3 + 0 = gK G * 3 + 2 := by omega
        have n1 : ¬ gK G * 3 + 0 = gK G * 3 + 1 := by omega
        rw [if_pos h0]
        simp +decide only [e0, n1, n2, if_true, if_false, and_true, and_false, false_and]
      rw [if_neg h0]
      have e2 : ¬ i = gK G * 3 + 2 := by omega
      have e1 : ¬ i = gK G * 3 + 1 := by omega
      have e0 : ¬ i = gK G * 3 + 0 := by omega
      simp +decide only [e0, e1, e2, if_false, and_false, false_and]
      exact (nM _ _ (by omega)).trans (p4 i (by have : i < 3 * gK G := (by omega); exact this))
    · show ∃ e, mm_R V 7 i = some e ∧ cd_by V e i (ab_up1 (ab_ki (gP G)) (gK G) k i) (ab_up1 (ab_v (gP G)) (gK G) v i) (ab_up1 (ab_wo (gP G)) (gK G) w i)
      have hi : i < gK G + 1 := hi
      unfold ab_up1
      by_cases h : i = gK G
      · subst h
        rw [if_pos rfl, if_pos rfl, if_pos rfl]
        exact ⟨mm_n S, by rw [vR, if_pos ⟨rfl, rfl⟩], yV2⟩
      · rw [if_neg h, if_neg h, if_neg h]
        obtain ⟨e, he, hy⟩ := p5 i (by have : i < gK G := (by omega); exact this)
        have := hy.2.1
        refine ⟨e, ?_, yV e _ _ _ _ (by omega) hy⟩
        rw [vR, if_neg (fun q => h q.2), nR _ _ (by omega)]
        exact he
    · rw [vR, if_neg (by omega), nR _ _ (by omega)]; exact p6
    · rw [vM, if_pos ⟨rfl, rfl⟩]
      show _ = nI (ab_row (gD G) ++ [gK G]).length
      rw [List.length_append]; rfl
    · have hi : i < (ab_row (gD G) ++ [gK G]).length := hi
      rw [List.length_append] at hi
      show mm_M V 12 i = nI ((ab_row (gD G) ++ [gK G]).getD i 0)
      rw [vM]
      by_cases e : i = (ab_row (gD G)).length
      · rw [e, List.getD_eq_getElem?_getD, List.getElem?_append_right (Nat.le_refl _), Nat.sub_self]
        simp +decide only [if_true, if_false, and_true, and_false, false_and]
        rfl
      · have hi2 : i < (ab_row (gD G)).length := by
          have : [gK G].length = 1 := rfl
          omega
        simp +decide only [e, if_false, and_false, false_and]
        rw [List.getD_eq_getElem?_getD, List.getElem?_append_left hi2, ← List.getD_eq_getElem?_getD]
        exact (nM _ _ (by omega)).trans (h2 i hi2)
    · show mm_M V 10 i = nI (ab_up1 (ab_aw (gD G)) (gK G) 0 i)
      have hi : i < gK G + 1 := hi
      rw [vM]
      unfold ab_up1
      by_cases h : i = gK G
      · simp +decide only [h, if_true, if_false, and_true, and_false, false_and]
      · simp +decide only [h, if_false, and_false, false_and]
        exact (nM _ _ (by omega)).trans (h3 i (by have : i < gK G := (by omega); exact this))
    · show mm_M V 11 i = ab_up1 (ab_ga (gD G)) (gK G) (nI 0) i
      have hi : i < gK G + 1 := hi
      rw [vM]
      unfold ab_up1
      by_cases h : i = gK G
      · simp +decide only [h, if_true, if_false, and_true, and_false, false_and]
      · simp +decide only [h, if_false, and_false, false_and]
        exact (nM _ _ (by omega)).trans (h4 i (by have : i < gK G := (by omega); exact this))
    · rw [show (6 + 7) = 13 from rfl, vM]
      simp +decide only [if_false, false_and]
      exact (nM _ _ (by omega)).trans (q3 i hi)
    · rw [vR, if_neg (by omega), nR _ _ (by omega)]; exact q4
  · obtain ⟨h1, s, h2, h3⟩ := hR.2.2.1
    refine ⟨fun i hi e he => ?_, s, h2, ?_⟩
    · rw [show (6 + 1) = 7 from rfl, vR] at he
      by_cases h : i = gK G
      · rw [if_pos ⟨rfl, h⟩] at he
        cases he
        exact tr_o fV oN
      · rw [if_neg (fun q => h q.2), nR _ _ (by omega)] at he
        exact tr_o f (h1 i hi e he)
    · rw [vR, if_neg (by omega), nR _ _ (by omega)]; exact h3
end NBY
end
section
/-! ===== the reference's cells ===== -/
def gm_ho : Option Nat → Int32
  | none => -1
  | some h => nI h
def gm_X (S : mm_S) (X : gb_X) : Prop := md_P S (gx_P X) ∧ md_D S (ab_kn (gx_P X)) (gx_D X) ∧ mm_M S 92 14 = nI (gx_s X) ∧ mm_M S 92 15 = nI (gx_f X).length ∧ (∀ i, i < (gx_f X).length → mm_M S 101 i = nI ((gx_f X).getD i 0)) ∧ mm_M S 92 18 = gm_ho (gx_h X) ∧ mm_M S 92 27 = -1
def gm_s (S : mm_S) (l : List (List ab_C)) : Prop := mm_M S 92 17 = nI l.length ∧ ∀ h, h < l.length → mm_M S 102 h = nI (l.getD h []).length ∧ md_cl S h (l.getD h []) 0
def gm_t (S : mm_S) (l : List Nat) : Prop := mm_M S 92 26 = nI l.length ∧ ∀ i, i < l.length → mm_M S 108 i = nI (l.getD i 0)
def gm_p (S : mm_S) (f : Nat → Int32 × Nat × (Nat → Int64)) : Prop := ∀ t, t < 6 → mm_M S 110 t = (f t).1 ∧ ((f t).1 ≠ -1 → mm_M S 111 t = nI (f t).2.1) ∧ ∀ i, i < (f t).2.1 → mm_L S 112 (60 * t + i) = (f t).2.2 i
def gm_r (S : mm_S) (l : List Nat) : Prop := mm_M S 92 28 = nI l.length ∧ ∀ i, i < l.length → mm_M S 109 i = nI (l.getD i 0)
def gm_w : List Nat := [109, 111, 114, 101, 99, 111, 115, 116, 117, 112, 32, 32, 100, 111, 119, 110, 97, 119, 97, 121, 102, 101, 101, 32]
def gm_c (S : mm_S) : Prop := (∀ i, i < 24 → mm_M S 113 i = nI (gm_w.getD i 0)) ∧ (∀ i, i < 6 → mm_M S 114 i = nI (([4, 4, 2, 4, 4, 3] : List Nat).getD i 0)) ∧ ∀ i, i < 7 → mm_M S 115 i = nI (([98, 107, 112, 108, 114, 97, 102] : List Nat).getD i 0)
def gm_Y (S : mm_S) (Y : gb_X) : Prop := mm_M S 92 60 = nI (ab_kn (gx_P Y)) ∧ mm_M S 92 61 = nI (gx_s Y) ∧ mm_M S 92 62 = nI (gx_f Y).length ∧ mm_M S 92 63 = gm_ho (gx_h Y) ∧ (∀ b, b < ab_kn (gx_P Y) → mm_M S 126 b = nI (ab_ki (gx_P Y) b) ∧ mm_M S 127 b = nI (ab_v (gx_P Y) b) ∧ mm_M S 128 b = nI (ab_wo (gx_P Y) b) ∧ mm_M S 129 b = md_fo (ab_fr (gx_P Y) b) ∧ mm_M S 130 b = nI (ab_aw (gx_D Y) b) ∧ mm_M S 131 b = ab_ga (gx_D Y) b) ∧ (∀ i, i < 3 * ab_kn (gx_P Y) → mm_M S 132 i = nI (ab_te (gx_P Y) i)) ∧ (∀ p, p < (ab_row (gx_D Y)).length → mm_M S 133 p = nI ((ab_row (gx_D Y)).getD p 0)) ∧ (mm_M S 134 0 = nI (ab_row (gx_D Y)).length ∧ mm_M S 134 1 = nI (ab_pr (gx_D Y)) ∧ mm_M S 134 2 = nI (ab_lo (gx_D Y)) ∧ mm_M S 134 3 = ab_ti (gx_D Y) ∧ mm_M S 134 4 = ab_tu (gx_D Y)) ∧ ∀ i, i < (gx_f Y).length → mm_M S 135 i = nI ((gx_f Y).getD i 0)
def gm_i (S : mm_S) (o : Option gb_X) : Prop := match o with
  | none => mm_M S 92 59 = nI 0
  | some Y => mm_M S 92 59 = nI 1 ∧ gm_Y S Y
def RM (S : mm_S) (G : gb_G) : Prop := mm_W S ∧ gm_X S (gb_x G) ∧ gm_i S (gb_i G) ∧ gm_s S (gb_s G) ∧ gm_t S (gb_t G) ∧ gm_p S (gb_p G) ∧ gm_r S (gb_r G) ∧ gm_c S
/-- where what the day now is stands -/
def nX (c j : Nat) : Prop := (c = 92 ∧ (j = 0 ∨ j = 8 ∨ (10 ≤ j ∧ j ≤ 15) ∨ j = 18 ∨ j = 27)) ∨ (93 ≤ c ∧ c ≤ 96) ∨ ((c = 97 ∨ c = 98 ∨ c = 100) ∧ j < 6) ∨ c = 99 ∨ c = 101 ∨ (102 ≤ c ∧ c ≤ 107)
/-- the day now, and what questions write -/
def gm_now (c j : Nat) : Prop := (c = 92 ∧ (j = 0 ∨ j = 8 ∨ (10 ≤ j ∧ j ≤ 15) ∨ j = 18 ∨ j = 27 ∨ (36 ≤ j ∧ j ≤ 56) ∨ j = 74)) ∨ (93 ≤ c ∧ c ≤ 101) ∨ (116 ≤ c ∧ c ≤ 125) ∨ c = 136
def gm_F (c j : Nat) : Prop := (c = 92 ∧ ((36 ≤ j ∧ j ≤ 56) ∨ j = 74)) ∨ (116 ≤ c ∧ c ≤ 125) ∨ c = 136 ∨ ((c = 97 ∨ c = 98 ∨ c = 100) ∧ 6 ≤ j)
section MT
variable {F : Nat → Nat → Prop} {S T : mm_S} {G : gb_G} {X : gb_X} {P : ab_P} {D : ab_D} {n : Nat} {o : Option Nat}
theorem mt_P (g : ∀ c j, nX c j → mm_M T c j = mm_M S c j) (hp : md_P S P) : md_P T P := by
  obtain ⟨h1, h2, h3, ⟨o, h4⟩, h5⟩ := hp
  have g10 : ∀ c i, 102 ≤ c → c ≤ 107 → mm_M T c i = mm_M S c i := fun c i a b => g c i (by unfold nX; omega)
  have g92 : ∀ j, j = 0 ∨ j = 18 ∨ j = 27 → mm_M T 92 j = mm_M S 92 j := fun j e => g 92 j (by unfold nX; omega)
  have g9 : ∀ c i, 93 ≤ c → c ≤ 96 → mm_M T c i = mm_M S c i := fun c i a b => g c i (by unfold nX; omega)
  refine ⟨(g92 0 (by decide)).trans h1, fun b hb => ?_, fun i hi => (g 99 i (by unfold nX; omega)).trans (h3 i hi), ⟨o, mf_sh g10 (g92 18 (by decide)) h4⟩, ?_⟩
  · obtain ⟨q1, q2, q3, q4⟩ := h2 b hb
    exact ⟨(g9 _ _ (by decide) (by decide)).trans q1, (g9 _ _ (by decide) (by decide)).trans q2, (g9 _ _ (by decide) (by decide)).trans q3, (g9 _ _ (by decide) (by decide)).trans q4⟩
  · rw [g92 27 (by decide)]; exact h5
theorem mt_D (hn : n ≤ 6) (hr : (ab_row D).length ≤ 6) (g : ∀ c j, nX c j → mm_M T c j = mm_M S c j) (hp : md_D S n D) : md_D T n D := by
  obtain ⟨h1, h2, h3, h4, h5, h6, h7, h8⟩ := hp
  exact ⟨(g _ _ (by unfold nX; omega)).trans h1, fun p hp => (g _ _ (by unfold nX; omega)).trans (h2 p hp), fun b hb => (g _ _ (by unfold nX; omega)).trans (h3 b hb), fun b hb => (g _ _ (by unfold nX; omega)).trans (h4 b hb), (g _ _ (by unfold nX; omega)).trans h5, (g _ _ (by unfold nX; omega)).trans h6, (g _ _ (by unfold nX; omega)).trans h7, (g _ _ (by unfold nX; omega)).trans h8⟩
theorem mt_X (hn : ab_kn (gx_P X) ≤ 6) (hr : (ab_row (gx_D X)).length ≤ 6) (g : ∀ c j, nX c j → mm_M T c j = mm_M S c j) (hp : gm_X S X) : gm_X T X := by
  obtain ⟨h1, h2, h3, h4, h5, h6, h7⟩ := hp
  exact ⟨mt_P g h1, mt_D hn hr g h2, (g _ _ (by unfold nX; omega)).trans h3, (g _ _ (by unfold nX; omega)).trans h4, fun i hi => (g _ _ (by unfold nX; omega)).trans (h5 i hi), (g _ _ (by unfold nX; omega)).trans h6, (g _ _ (by unfold nX; omega)).trans h7⟩
theorem mt_Y (g : ∀ c j, (c = 92 ∧ 59 ≤ j ∧ j ≤ 63) ∨ (126 ≤ c ∧ c ≤ 135) → mm_M T c j = mm_M S c j) {Y : gb_X} (hp : gm_Y S Y) : gm_Y T Y := by
  obtain ⟨h1, h2, h3, h4, h5, h6, h7, ⟨a1, a2, a3, a4, a5⟩, h8⟩ := hp
  refine ⟨(g _ _ (by omega)).trans h1, (g _ _ (by omega)).trans h2, (g _ _ (by omega)).trans h3, (g _ _ (by omega)).trans h4, fun b hb => ?_, fun i hi => (g _ _ (by omega)).trans (h6 i hi), fun i hi => (g _ _ (by omega)).trans (h7 i hi), ⟨(g _ _ (by omega)).trans a1, (g _ _ (by omega)).trans a2, (g _ _ (by omega)).trans a3, (g _ _ (by omega)).trans a4, (g _ _ (by omega)).trans a5⟩, fun i hi => (g _ _ (by omega)).trans (h8 i hi)⟩
  obtain ⟨q1, q2, q3, q4, q5, q6⟩ := h5 b hb
  exact ⟨(g _ _ (by omega)).trans q1, (g _ _ (by omega)).trans q2, (g _ _ (by omega)).trans q3, (g _ _ (by omega)).trans q4, (g _ _ (by omega)).trans q5, (g _ _ (by omega)).trans q6⟩
theorem mt_i (g : ∀ c j, (c = 92 ∧ 59 ≤ j ∧ j ≤ 63) ∨ (126 ≤ c ∧ c ≤ 135) → mm_M T c j = mm_M S c j) {o : Option gb_X} (hp : gm_i S o) : gm_i T o := by
  cases o with
  | none => exact (g _ _ (by omega)).trans hp
  | some Y => exact ⟨(g _ _ (by omega)).trans hp.1, mt_Y g hp.2⟩
theorem mt_s {l : List (List ab_C)} (g : ∀ c j, (c = 92 ∧ j = 17) ∨ (102 ≤ c ∧ c ≤ 107) → mm_M T c j = mm_M S c j) (hp : gm_s S l) : gm_s T l :=
  ⟨(g _ _ (by omega)).trans hp.1, fun h hh => ⟨(g _ _ (by omega)).trans (hp.2 h hh).1, mf_cl (fun c i a b => g c i (by omega)) (hp.2 h hh).2⟩⟩
theorem mt_t {l : List Nat} (g : ∀ c j, (c = 92 ∧ j = 26) ∨ c = 108 → mm_M T c j = mm_M S c j) (hp : gm_t S l) : gm_t T l := ⟨(g _ _ (by omega)).trans hp.1, fun i hi => (g _ _ (by omega)).trans (hp.2 i hi)⟩
theorem mt_p {f : Nat → Int32 × Nat × (Nat → Int64)} (g : ∀ c j, c = 110 ∨ c = 111 → mm_M T c j = mm_M S c j) (gl : ∀ j, mm_L T 112 j = mm_L S 112 j) (hp : gm_p S f) : gm_p T f := fun t ht => ⟨(g _ _ (by omega)).trans (hp t ht).1, fun e => (g _ _ (by omega)).trans ((hp t ht).2.1 e), fun i hi => (gl _).trans ((hp t ht).2.2 i hi)⟩
theorem mt_r {l : List Nat} (g : ∀ c j, (c = 92 ∧ j = 28) ∨ c = 109 → mm_M T c j = mm_M S c j) (hp : gm_r S l) : gm_r T l := ⟨(g _ _ (by omega)).trans hp.1, fun i hi => (g _ _ (by omega)).trans (hp.2 i hi)⟩
theorem mt_c (g : ∀ c j, 113 ≤ c ∧ c ≤ 115 → mm_M T c j = mm_M S c j) (hp : gm_c S) : gm_c T := ⟨fun i hi => (g _ _ (by omega)).trans (hp.1 i hi), fun i hi => (g _ _ (by omega)).trans (hp.2.1 i hi), fun i hi => (g _ _ (by omega)).trans (hp.2.2 i hi)⟩
theorem RM_X (h : sf_f gm_now S T) (hw : mm_W T) (hR : RM S G) (hX : gm_X T X) : RM T (X, G.2) := by
  obtain ⟨-, -, h2, h3, h4, h5, h6, h7⟩ := hR
  have g := fun c j q => (h.1 c j q).1
  -- SHOPS that were read stand elsewhere
  refine ⟨hw, hX, mt_i (fun c j q => g c j ?_) h2, mt_s (fun c j q => g c j ?_) h3, mt_t (fun c j q => g c j ?_) h4, mt_p (fun c j q => g c j ?_) (fun j => (h.1 112 j ?_).2.1) h5, mt_r (fun c j q => g c j ?_) h6, mt_c (fun c j q => g c j ?_) h7⟩ <;> (unfold gm_now; omega)
theorem RM_q (ok : gb_ok G) (h : sf_f gm_F S T) (hw : mm_W T) (hR : RM S G) : RM T G := by
  obtain ⟨-, h1, h2, h3, h4, h5, h6, h7⟩ := hR
  have g := fun c j q => (h.1 c j q).1
  refine ⟨hw, mt_X ok.1.1.1 (row_le ok.1.1 ok.1.2.1) (fun c j q => g c j ?_) h1, mt_i (fun c j q => g c j ?_) h2, mt_s (fun c j q => g c j ?_) h3, mt_t (fun c j q => g c j ?_) h4, mt_p (fun c j q => g c j ?_) (fun j => (h.1 112 j ?_).2.1) h5, mt_r (fun c j q => g c j ?_) h6, mt_c (fun c j q => g c j ?_) h7⟩
  · unfold nX at q; unfold gm_F; omega
  all_goals (unfold gm_F; omega)
end MT
/-- a call of the reference -/
def oM (S : mm_S) (d y : Nat) (as : List Value) (v : Value) (G : gb_G) : Prop := ∃ T, mm_cl d y as S = some (some v, T) ∧ RM T G ∧ sf_f gm_0 S T ∧ mm_n T = mm_n S ∧ mm_z T = mm_z S
section OM
variable {S T : mm_S} {G : gb_G} {d y : Nat} {as : List Value} {v : Value} {X : gb_X} {x : Int32} {n m j b : Nat}
theorem now_0 (h : sf_f gm_now S T) : sf_f gm_0 S T := sf_mo h (fun c j h => by unfold gm_now at h; unfold gm_0; omega)
theorem gmF_0 (h : sf_f gm_F S T) : sf_f gm_0 S T := sf_mo h (fun c j h => by unfold gm_F at h; unfold gm_0; omega)
theorem oM_id (hR : RM S G) (h : mm_cl d y as S = some (some v, S)) : oM S d y as v G := ⟨S, h, hR, sf_rf, rfl, rfl⟩
theorem oM_X (hR : RM S G) (h : mm_cl d y as S = some (some v, T)) (hf : sf_f gm_now S T) (hw : mm_W T) (hX : gm_X T X) (hn : mm_n T = mm_n S) (hz : mm_z T = mm_z S) : oM S d y as v (X, G.2) := ⟨T, h, RM_X hf hw hR hX, now_0 hf, hn, hz⟩
theorem oM_q (ok : gb_ok G) (hR : RM S G) (h : mm_cl d y as S = some (some v, T)) (hf : sf_f gm_F S T) (hw : mm_W T) (hn : mm_n T = mm_n S) (hz : mm_z T = mm_z S) : oM S d y as v G := ⟨T, h, RM_q ok hf hw hR, gmF_0 hf, hn, hz⟩
theorem m128n (hm : m = n + 1) (hn : n < 2 ^ 30) (e : ab_kw m x = none) : mm_cl d 128 [.int x, .int (nI 0), .int (nI n)] S = some (some (.int (nI 0)), S) := by
  rw [s128]
  rcases kw_d hm hn x with ⟨-, a1, -⟩ | ⟨-, -, -, a3, -⟩ | ⟨j, -, e2, -⟩
  · rw [if_pos (Or.inl (of_eq_true a1))]
  · rw [if_pos (Or.inr (of_eq_true a3))]
  · rw [e] at e2; cases e2
theorem m128s (hm : m = n + 1) (hn : n < 2 ^ 30) (hj : j < m) : mm_cl d 128 [.int (nI j), .int (nI 0), .int (nI n)] S = some (some (.int (nI 1)), S) := by
  rw [s128, if_neg (fun e => e.elim (nI_n0 (by omega)) (nI_nlt (by omega) (by omega)))]
theorem m129n (ok : gb_ok G) (hR : RM S G) (e : ab_kw (gK G) x = none) : mm_cl (d + 1) 129 [.ref 92, .int x] S = some (some (.int (nI 0)), S) := by
  have h : mm_M S 92 0 = nI (gK G) := hR.2.1.1.1
  have hk : gK G ≤ 6 := ok.1.1.1
  rw [s129 hR.1, h, if_pos]
  unfold ab_kw at e
  by_cases q : x < nI 0 ∨ nI (gK G) ≤ x
  · rcases q with q | q
    · exact Or.inl q
    · refine Or.inr ?_
      rw [Int32.le_iff_toInt_le, nI_toInt (by omega)] at q
      rw [Int32.lt_iff_toInt_lt, pk_sub_toInt (by omega) (by decide)]
      omega
  · rw [if_neg q] at e; cases e
theorem m129s (ok : gb_ok G) (hR : RM S G) (hb : b < gK G) : mm_cl (d + 1) 129 [.ref 92, .int (nI b)] S = some (some (.int (nI 1)), S) := by
  have h : mm_M S 92 0 = nI (gK G) := hR.2.1.1.1
  have hk : gK G ≤ 6 := ok.1.1.1
  rw [s129 hR.1, h, pk_sub (by omega), if_neg (fun e => e.elim (nI_n0 (by omega)) (nI_nlt (by omega) (by omega)))]
theorem m194n (e : ab_kw 6 x = none) {a : Nat} : mm_cl (d + 1) 194 [.ref a, .int x] S = some (some (.int (nI 0)), S) := by
  rw [s194]
  rcases kw_d (n := 5) (m := 6) rfl (by decide) x with ⟨-, a1, -⟩ | ⟨-, -, -, a3, -⟩ | ⟨j, -, e2, -⟩
  · rw [if_pos (Or.inl (of_eq_true a1))]
  · rw [if_pos (Or.inr (of_eq_true a3))]
  · rw [e] at e2; cases e2
theorem m194s (hj : j < 6) {a : Nat} : mm_cl (d + 1) 194 [.ref a, .int (nI j)] S = some (some (.int (nI 1)), S) := by
  rw [s194, if_neg (fun e => e.elim (nI_n0 (by omega)) (nI_nlt (by omega) (by omega)))]
theorem RM_A (ok : gb_ok G) (hR : RM S G) : md_A S (gP G) (gD G) := ⟨hR.1, hR.2.1.1, hR.2.1.2.1, ok.1.1, ok.1.2.1⟩
end OM
end
section
/-! ===== calls of the reference ===== -/
section MU
variable {F : Nat → Nat → Prop} {S T : mm_S} {G : gb_G} {X : gb_X} {b i n : Nat} {v : Int32} {o : Option Nat} {l : List Nat} {D : ab_D}
theorem mX_fr (hX : gm_X S X) (hv : v = md_fo o) : gm_X (mm_uM S 96 b v) (gX_P X (gP_fr (gx_P X) b o)) := by
  obtain ⟨⟨p1, p2, p3, ⟨q, p4⟩, p5⟩, ⟨h1, h2, h3, h4, h5, h6, h7, h8⟩, q1, q2, q3, q4, q5⟩ := hX
  refine ⟨⟨(rdn (by omega)).trans p1, fun c hc => ?_, fun i hi => (rdn (by omega)).trans (p3 i hi), ⟨q, mf_sh (fun c i a b => rdn (by omega)) (rdn (by omega)) p4⟩, ?_⟩, ⟨(rdn (by omega)).trans h1, fun p hp => (rdn (by omega)).trans (h2 p hp), fun p hp => (rdn (by omega)).trans (h3 p hp), fun p hp => (rdn (by omega)).trans (h4 p hp), (rdn (by omega)).trans h5, (rdn (by omega)).trans h6, (rdn (by omega)).trans h7, (rdn (by omega)).trans h8⟩, (rdn (by omega)).trans q1, (rdn (by omega)).trans q2, fun i hi => (rdn (by omega)).trans (q3 i hi), (rdn (by omega)).trans q4, (rdn (by omega)).trans q5⟩
  · obtain ⟨a1, a2, a3, a4⟩ := p2 c hc
    refine ⟨(rdn (by omega)).trans a1, (rdn (by omega)).trans a2, (rdn (by omega)).trans a3, ?_⟩
    show mm_M (mm_uM S 96 b v) 96 c = md_fo (ab_up1 (ab_fr (gx_P X)) b o c)
    rw [rdk]; unfold ab_up1
    by_cases h : c = b
    · rw [if_pos h, if_pos h, hv]
    · rw [if_neg h, if_neg h]; exact a4
  · rw [rdn (by omega)]; exact p5
theorem mX_te (hX : gm_X S X) (hv : v = nI n) : gm_X (mm_uM S 99 b v) (gX_P X (gP_te (gx_P X) b n)) := by
  obtain ⟨⟨p1, p2, p3, ⟨q, p4⟩, p5⟩, ⟨h1, h2, h3, h4, h5, h6, h7, h8⟩, q1, q2, q3, q4, q5⟩ := hX
  refine ⟨⟨(rdn (by omega)).trans p1, fun c hc => ?_, fun i hi => ?_, ⟨q, mf_sh (fun c i a b => rdn (by omega)) (rdn (by omega)) p4⟩, ?_⟩, ⟨(rdn (by omega)).trans h1, fun p hp => (rdn (by omega)).trans (h2 p hp), fun p hp => (rdn (by omega)).trans (h3 p hp), fun p hp => (rdn (by omega)).trans (h4 p hp), (rdn (by omega)).trans h5, (rdn (by omega)).trans h6, (rdn (by omega)).trans h7, (rdn (by omega)).trans h8⟩, (rdn (by omega)).trans q1, (rdn (by omega)).trans q2, fun i hi => (rdn (by omega)).trans (q3 i hi), (rdn (by omega)).trans q4, (rdn (by omega)).trans q5⟩
  · obtain ⟨a1, a2, a3, a4⟩ := p2 c hc
    exact ⟨(rdn (by omega)).trans a1, (rdn (by omega)).trans a2, (rdn (by omega)).trans a3, (rdn (by omega)).trans a4⟩
  · show mm_M (mm_uM S 99 b v) 99 i = nI (ab_up1 (ab_te (gx_P X)) b n i)
    rw [rdk]; unfold ab_up1
    by_cases h : i = b
    · rw [if_pos h, if_pos h, hv]
    · rw [if_neg h, if_neg h]; exact p3 i hi
  · rw [rdn (by omega)]; exact p5
def gm_d (c j : Nat) : Prop := (c = 92 ∧ (j = 8 ∨ (10 ≤ j ∧ j ≤ 13) ∨ (36 ≤ j ∧ j ≤ 56) ∨ j = 74)) ∨ c = 97 ∨ c = 98 ∨ c = 100 ∨ (116 ≤ c ∧ c ≤ 125) ∨ c = 136
theorem gmd_now (h : sf_f gm_d S T) : sf_f gm_now S T := sf_mo h (fun c j h => by unfold gm_d at h; unfold gm_now; omega)
theorem mdc_d (h : sf_f md_dc S T) : sf_f gm_d S T := sf_mo h (fun c j h => by unfold md_dc at h; unfold gm_d; omega)
theorem mX_D (h : sf_f gm_d S T) (hX : gm_X S X) (hD : md_D T (ab_kn (gx_P X)) D) : gm_X T (gX_D X D) := by
  obtain ⟨⟨p1, p2, p3, ⟨q, p4⟩, p5⟩, -, q1, q2, q3, q4, q5⟩ := hX
  have g := fun c j q => (h.1 c j q).1
  refine ⟨⟨(g _ _ (by unfold gm_d; omega)).trans p1, fun c hc => ?_, fun i hi => (g _ _ (by unfold gm_d; omega)).trans (p3 i hi), ⟨q, mf_sh (fun c i a b => g _ _ (by unfold gm_d; omega)) (g _ _ (by unfold gm_d; omega)) p4⟩, ?_⟩, hD, (g _ _ (by unfold gm_d; omega)).trans q1, (g _ _ (by unfold gm_d; omega)).trans q2, fun i hi => (g _ _ (by unfold gm_d; omega)).trans (q3 i hi), (g _ _ (by unfold gm_d; omega)).trans q4, (g _ _ (by unfold gm_d; omega)).trans q5⟩
  · obtain ⟨a1, a2, a3, a4⟩ := p2 c hc
    exact ⟨(g _ _ (by unfold gm_d; omega)).trans a1, (g _ _ (by unfold gm_d; omega)).trans a2, (g _ _ (by unfold gm_d; omega)).trans a3, (g _ _ (by unfold gm_d; omega)).trans a4⟩
  · rw [g _ _ (by unfold gm_d; omega)]; exact p5
end MU
section M1
variable {S T : mm_S} {G : gb_G} {d b n : Nat} {x y w p t i o j : Int32}
theorem m_3 (ok : gb_ok G) (hR : RM S G) : oM S (d + 2) 134 [.ref 92, .int x, .int y] (.int (op_3 G x y).1) (op_3 G x y).2 := by
  have hw := hR.1
  have hk : gK G ≤ 6 := ok.1.1.1
  rcases kw_c hk x with ⟨e, h⟩ | ⟨b, hb, e, rfl⟩
  · have k := m129n (d := d) ok hR e
    have eo : op_3 G x y = (-1, G) := by unfold op_3; simp only [e]
    rw [eo]
    refine oM_id hR ?_
    simp only [b134_0, b134_5, b134_8, b134_13, b134_18, b134_21, b134_23, b134_28, b134_31, b134_48, b134_53, e134, wx_o92 hw, wx_k92 hw, wx_q92 hw, wx_g92_1 hw, wx_s92_1 hw, wx_N93 hw, wx_a93 hw, wx_g92_2 hw, wx_s92_2 hw, wx_N94 hw, wx_a94 hw, wx_g92_3 hw, wx_s92_3 hw, wx_N95 hw, wx_a95 hw, wx_g92_4 hw, wx_s92_4 hw, wx_N96 hw, wx_a96 hw, wx_g92_5 hw, wx_s92_5 hw, wx_N97 hw, wx_a97 hw, wx_g92_6 hw, wx_s92_6 hw, wx_N98 hw, wx_a98 hw, wx_g92_7 hw, wx_s92_7 hw, wx_N99 hw, wx_a99 hw, wx_g92_9 hw, wx_s92_9 hw, wx_N100 hw, wx_a100 hw, wx_g92_16 hw, wx_s92_16 hw, wx_N101 hw, wx_a101 hw, wx_g92_19 hw, wx_s92_19 hw, wx_N102 hw, wx_a102 hw, wx_g92_20 hw, wx_s92_20 hw, wx_N103 hw, wx_a103 hw, wx_g92_21 hw, wx_s92_21 hw, wx_N104 hw, wx_a104 hw, wx_g92_22 hw, wx_s92_22 hw, wx_N105 hw, wx_a105 hw, wx_g92_23 hw, wx_s92_23 hw, wx_N106 hw, wx_a106 hw, wx_g92_24 hw, wx_s92_24 hw, wx_N107 hw, wx_a107 hw, wx_g92_25 hw, wx_s92_25 hw, wx_N108 hw, wx_a108 hw, wx_g92_29 hw, wx_s92_29 hw, wx_N109 hw, wx_a109 hw, wx_g92_30 hw, wx_s92_30 hw, wx_N110 hw, wx_a110 hw, wx_g92_31 hw, wx_s92_31 hw, wx_N111 hw, wx_a111 hw, wx_g92_32 hw, wx_s92_32 hw, wx_N112 hw, wx_a112 hw, wx_g92_33 hw, wx_s92_33 hw, wx_N113 hw, wx_a113 hw, wx_g92_34 hw, wx_s92_34 hw, wx_N114 hw, wx_a114 hw, wx_g92_35 hw, wx_s92_35 hw, wx_N115 hw, wx_a115 hw, wx_g92_38 hw, wx_s92_38 hw, wx_N116 hw, wx_a116 hw, wx_g92_41 hw, wx_s92_41 hw, wx_N117 hw, wx_a117 hw, wx_g92_44 hw, wx_s92_44 hw, wx_N118 hw, wx_a118 hw, wx_g92_45 hw, wx_s92_45 hw, wx_N119 hw, wx_a119 hw, wx_g92_46 hw, wx_s92_46 hw, wx_N120 hw, wx_a120 hw, wx_g92_52 hw, wx_s92_52 hw, wx_N121 hw, wx_a121 hw, wx_g92_55 hw, wx_s92_55 hw, wx_N122 hw, wx_a122 hw, wx_g92_56 hw, wx_s92_56 hw, wx_N123 hw, wx_a123 hw, wx_g92_57 hw, wx_s92_57 hw, wx_N124 hw, wx_a124 hw, wx_g92_58 hw, wx_s92_58 hw, wx_N125 hw, wx_a125 hw, wx_g92_64 hw, wx_s92_64 hw, wx_N126 hw, wx_a126 hw, wx_g92_65 hw, wx_s92_65 hw, wx_N127 hw, wx_a127 hw, wx_g92_66 hw, wx_s92_66 hw, wx_N128 hw, wx_a128 hw, wx_g92_67 hw, wx_s92_67 hw, wx_N129 hw, wx_a129 hw, wx_g92_68 hw, wx_s92_68 hw, wx_N130 hw, wx_a130 hw, wx_g92_69 hw, wx_s92_69 hw, wx_N131 hw, wx_a131 hw, wx_g92_70 hw, wx_s92_70 hw, wx_N132 hw, wx_a132 hw, wx_g92_71 hw, wx_s92_71 hw, wx_N133 hw, wx_a133 hw, wx_g92_72 hw, wx_s92_72 hw, wx_N134 hw, wx_a134 hw, wx_g92_73 hw, wx_s92_73 hw, wx_N135 hw, wx_a135 hw, wx_g92_75 hw, wx_s92_75 hw, wx_N136 hw, wx_a136 hw, List.not_mem_nil, false_implies, implies_true, nI_clamp, nI_add, Nat.reducePow, hp_bd, hp_bdi, hp_ts, hp_tn, hp_tsc, hp_tnc, Nat.reduceAdd, Nat.reduceSub, Nat.reduceMul, Nat.reduceLT, Nat.reduceLeDiff, Nat.reduceEqDiff, reduceIte, not_true_eq_false, not_false_eq_true, and_true, true_and, and_self, and_false, false_and, or_true, true_or, or_false, false_or, decide_true, decide_false, Bool.and_true, Bool.true_and, Bool.not_false, Bool.or_false, Bool.false_or, Bool.or_true, Bool.true_or, i01, k]
  · have k := m129s (d := d) ok hR hb
    have cl : (nI b).toNatClampNeg = b := nI_clamp (by omega)
    have hbi : mm_inb (nI b) 6 = true := hp_inb (by omega) (by omega)
    have hg : mm_M S 96 b = md_fo (ab_fr (gP G) b) := (hR.2.1.1.2.1 b hb).2.2.2
    have nb : ¬ nI b = (-1 : Int32) := by
      intro e
      have h1 := congrArg Int32.toInt e
      rw [nI_toInt (by omega)] at h1
      have h2 : (-1 : Int32).toInt = -1 := rfl
      omega
    by_cases hy : y = -1
    · subst hy
      have eo : op_3 G (nI b) (-1) = (md_fo (ab_fr (gP G) b), gX_P G.1 (gP_fr (gP G) b none), G.2) := by unfold op_3; simp only [e, if_true]
      rw [eo]
      refine oM_X hR (T := mm_uM S 96 b (-5)) ?_ (sf_uM (by unfold gm_now; omega)) hw (mX_fr hR.2.1 rfl) rfl rfl
      simp only [b134_0, b134_5, b134_8, b134_13, b134_18, b134_21, b134_23, b134_28, b134_31, b134_48, b134_53, e134, wx_o92 hw, wx_k92 hw, wx_q92 hw, wx_g92_1 hw, wx_s92_1 hw, wx_N93 hw, wx_a93 hw, wx_g92_2 hw, wx_s92_2 hw, wx_N94 hw, wx_a94 hw, wx_g92_3 hw, wx_s92_3 hw, wx_N95 hw, wx_a95 hw, wx_g92_4 hw, wx_s92_4 hw, wx_N96 hw, wx_a96 hw, wx_g92_5 hw, wx_s92_5 hw, wx_N97 hw, wx_a97 hw, wx_g92_6 hw, wx_s92_6 hw, wx_N98 hw, wx_a98 hw, wx_g92_7 hw, wx_s92_7 hw, wx_N99 hw, wx_a99 hw, wx_g92_9 hw, wx_s92_9 hw, wx_N100 hw, wx_a100 hw, wx_g92_16 hw, wx_s92_16 hw, wx_N101 hw, wx_a101 hw, wx_g92_19 hw, wx_s92_19 hw, wx_N102 hw, wx_a102 hw, wx_g92_20 hw, wx_s92_20 hw, wx_N103 hw, wx_a103 hw, wx_g92_21 hw, wx_s92_21 hw, wx_N104 hw, wx_a104 hw, wx_g92_22 hw, wx_s92_22 hw, wx_N105 hw, wx_a105 hw, wx_g92_23 hw, wx_s92_23 hw, wx_N106 hw, wx_a106 hw, wx_g92_24 hw, wx_s92_24 hw, wx_N107 hw, wx_a107 hw, wx_g92_25 hw, wx_s92_25 hw, wx_N108 hw, wx_a108 hw, wx_g92_29 hw, wx_s92_29 hw, wx_N109 hw, wx_a109 hw, wx_g92_30 hw, wx_s92_30 hw, wx_N110 hw, wx_a110 hw, wx_g92_31 hw, wx_s92_31 hw, wx_N111 hw, wx_a111 hw, wx_g92_32 hw, wx_s92_32 hw, wx_N112 hw, wx_a112 hw, wx_g92_33 hw, wx_s92_33 hw, wx_N113 hw, wx_a113 hw, wx_g92_34 hw, wx_s92_34 hw, wx_N114 hw, wx_a114 hw, wx_g92_35 hw, wx_s92_35 hw, wx_N115 hw, wx_a115 hw, wx_g92_38 hw, wx_s92_38 hw, wx_N116 hw, wx_a116 hw, wx_g92_41 hw, wx_s92_41 hw, wx_N117 hw, wx_a117 hw, wx_g92_44 hw, wx_s92_44 hw, wx_N118 hw, wx_a118 hw, wx_g92_45 hw, wx_s92_45 hw, wx_N119 hw, wx_a119 hw, wx_g92_46 hw, wx_s92_46 hw, wx_N120 hw, wx_a120 hw, wx_g92_52 hw, wx_s92_52 hw, wx_N121 hw, wx_a121 hw, wx_g92_55 hw, wx_s92_55 hw, wx_N122 hw, wx_a122 hw, wx_g92_56 hw, wx_s92_56 hw, wx_N123 hw, wx_a123 hw, wx_g92_57 hw, wx_s92_57 hw, wx_N124 hw, wx_a124 hw, wx_g92_58 hw, wx_s92_58 hw, wx_N125 hw, wx_a125 hw, wx_g92_64 hw, wx_s92_64 hw, wx_N126 hw, wx_a126 hw, wx_g92_65 hw, wx_s92_65 hw, wx_N127 hw, wx_a127 hw, wx_g92_66 hw, wx_s92_66 hw, wx_N128 hw, wx_a128 hw, wx_g92_67 hw, wx_s92_67 hw, wx_N129 hw, wx_a129 hw, wx_g92_68 hw, wx_s92_68 hw, wx_N130 hw, wx_a130 hw, wx_g92_69 hw, wx_s92_69 hw, wx_N131 hw, wx_a131 hw, wx_g92_70 hw, wx_s92_70 hw, wx_N132 hw, wx_a132 hw, wx_g92_71 hw, wx_s92_71 hw, wx_N133 hw, wx_a133 hw, wx_g92_72 hw, wx_s92_72 hw, wx_N134 hw, wx_a134 hw, wx_g92_73 hw, wx_s92_73 hw, wx_N135 hw, wx_a135 hw, wx_g92_75 hw, wx_s92_75 hw, wx_N136 hw, wx_a136 hw, List.not_mem_nil, false_implies, implies_true, nI_clamp, nI_add, Nat.reducePow, hp_bd, hp_bdi, hp_ts, hp_tn, hp_tsc, hp_tnc, Nat.reduceAdd, Nat.reduceSub, Nat.reduceMul, Nat.reduceLT, Nat.reduceLeDiff, Nat.reduceEqDiff, reduceIte, not_true_eq_false, not_false_eq_true, and_true, true_and, and_self, and_false, false_and, or_true, true_or, or_false, false_or, decide_true, decide_false, Bool.and_true, Bool.true_and, Bool.not_false, Bool.or_false, Bool.false_or, Bool.or_true, Bool.true_or, i01, k, cl, hbi, hg, nb]
    · rcases kw_c hk y with ⟨ey, hy2⟩ | ⟨q, hq, ey, rfl⟩
      · have k2 := m129n (d := d) ok hR ey
        have eo : op_3 G (nI b) y = (-1, G) := by unfold op_3; simp only [e, ey, hy, if_false]
        rw [eo]
        refine oM_id hR ?_
        simp only [b134_0, b134_5, b134_8, b134_13, b134_18, b134_21, b134_23, b134_28, b134_31, b134_48, b134_53, e134, wx_o92 hw, wx_k92 hw, wx_q92 hw, wx_g92_1 hw, wx_s92_1 hw, wx_N93 hw, wx_a93 hw, wx_g92_2 hw, wx_s92_2 hw, wx_N94 hw, wx_a94 hw, wx_g92_3 hw, wx_s92_3 hw, wx_N95 hw, wx_a95 hw, wx_g92_4 hw, wx_s92_4 hw, wx_N96 hw, wx_a96 hw, wx_g92_5 hw, wx_s92_5 hw, wx_N97 hw, wx_a97 hw, wx_g92_6 hw, wx_s92_6 hw, wx_N98 hw, wx_a98 hw, wx_g92_7 hw, wx_s92_7 hw, wx_N99 hw, wx_a99 hw, wx_g92_9 hw, wx_s92_9 hw, wx_N100 hw, wx_a100 hw, wx_g92_16 hw, wx_s92_16 hw, wx_N101 hw, wx_a101 hw, wx_g92_19 hw, wx_s92_19 hw, wx_N102 hw, wx_a102 hw, wx_g92_20 hw, wx_s92_20 hw, wx_N103 hw, wx_a103 hw, wx_g92_21 hw, wx_s92_21 hw, wx_N104 hw, wx_a104 hw, wx_g92_22 hw, wx_s92_22 hw, wx_N105 hw, wx_a105 hw, wx_g92_23 hw, wx_s92_23 hw, wx_N106 hw, wx_a106 hw, wx_g92_24 hw, wx_s92_24 hw, wx_N107 hw, wx_a107 hw, wx_g92_25 hw, wx_s92_25 hw, wx_N108 hw, wx_a108 hw, wx_g92_29 hw, wx_s92_29 hw, wx_N109 hw, wx_a109 hw, wx_g92_30 hw, wx_s92_30 hw, wx_N110 hw, wx_a110 hw, wx_g92_31 hw, wx_s92_31 hw, wx_N111 hw, wx_a111 hw, wx_g92_32 hw, wx_s92_32 hw, wx_N112 hw, wx_a112 hw, wx_g92_33 hw, wx_s92_33 hw, wx_N113 hw, wx_a113 hw, wx_g92_34 hw, wx_s92_34 hw, wx_N114 hw, wx_a114 hw, wx_g92_35 hw, wx_s92_35 hw, wx_N115 hw, wx_a115 hw, wx_g92_38 hw, wx_s92_38 hw, wx_N116 hw, wx_a116 hw, wx_g92_41 hw, wx_s92_41 hw, wx_N117 hw, wx_a117 hw, wx_g92_44 hw, wx_s92_44 hw, wx_N118 hw, wx_a118 hw, wx_g92_45 hw, wx_s92_45 hw, wx_N119 hw, wx_a119 hw, wx_g92_46 hw, wx_s92_46 hw, wx_N120 hw, wx_a120 hw, wx_g92_52 hw, wx_s92_52 hw, wx_N121 hw, wx_a121 hw, wx_g92_55 hw, wx_s92_55 hw, wx_N122 hw, wx_a122 hw, wx_g92_56 hw, wx_s92_56 hw, wx_N123 hw, wx_a123 hw, wx_g92_57 hw, wx_s92_57 hw, wx_N124 hw, wx_a124 hw, wx_g92_58 hw, wx_s92_58 hw, wx_N125 hw, wx_a125 hw, wx_g92_64 hw, wx_s92_64 hw, wx_N126 hw, wx_a126 hw, wx_g92_65 hw, wx_s92_65 hw, wx_N127 hw, wx_a127 hw, wx_g92_66 hw, wx_s92_66 hw, wx_N128 hw, wx_a128 hw, wx_g92_67 hw, wx_s92_67 hw, wx_N129 hw, wx_a129 hw, wx_g92_68 hw, wx_s92_68 hw, wx_N130 hw, wx_a130 hw, wx_g92_69 hw, wx_s92_69 hw, wx_N131 hw, wx_a131 hw, wx_g92_70 hw, wx_s92_70 hw, wx_N132 hw, wx_a132 hw, wx_g92_71 hw, wx_s92_71 hw, wx_N133 hw, wx_a133 hw, wx_g92_72 hw, wx_s92_72 hw, wx_N134 hw, wx_a134 hw, wx_g92_73 hw, wx_s92_73 hw, wx_N135 hw, wx_a135 hw, wx_g92_75 hw, wx_s92_75 hw, wx_N136 hw, wx_a136 hw, List.not_mem_nil, false_implies, implies_true, nI_clamp, nI_add, Nat.reducePow, hp_bd, hp_bdi, hp_ts, hp_tn, hp_tsc, hp_tnc, Nat.reduceAdd, Nat.reduceSub, Nat.reduceMul, Nat.reduceLT, Nat.reduceLeDiff, Nat.reduceEqDiff, reduceIte, not_true_eq_false, not_false_eq_true, and_true, true_and, and_self, and_false, false_and, or_true, true_or, or_false, false_or, decide_true, decide_false, Bool.and_true, Bool.true_and, Bool.not_false, Bool.or_false, Bool.false_or, Bool.or_true, Bool.true_or, i01, k, k2, hy]
      · have k2 := m129s (d := d) ok hR hq
        have e2 : (nI b = nI q) = (b = q) := propext (nI_eq (by omega) (by omega))
        have hyb : q = b → ¬ nI b = -1 := fun e => e ▸ hy
        by_cases hqb : q = b
        · have hyb := hyb hqb
          have eo : op_3 G (nI b) (nI q) = (-2, G) := by unfold op_3; simp only [e, ey, hy, hyb, if_false, hqb, if_true]
          rw [eo]
          refine oM_id hR ?_
          simp only [b134_0, b134_5, b134_8, b134_13, b134_18, b134_21, b134_23, b134_28, b134_31, b134_48, b134_53, e134, wx_o92 hw, wx_k92 hw, wx_q92 hw, wx_g92_1 hw, wx_s92_1 hw, wx_N93 hw, wx_a93 hw, wx_g92_2 hw, wx_s92_2 hw, wx_N94 hw, wx_a94 hw, wx_g92_3 hw, wx_s92_3 hw, wx_N95 hw, wx_a95 hw, wx_g92_4 hw, wx_s92_4 hw, wx_N96 hw, wx_a96 hw, wx_g92_5 hw, wx_s92_5 hw, wx_N97 hw, wx_a97 hw, wx_g92_6 hw, wx_s92_6 hw, wx_N98 hw, wx_a98 hw, wx_g92_7 hw, wx_s92_7 hw, wx_N99 hw, wx_a99 hw, wx_g92_9 hw, wx_s92_9 hw, wx_N100 hw, wx_a100 hw, wx_g92_16 hw, wx_s92_16 hw, wx_N101 hw, wx_a101 hw, wx_g92_19 hw, wx_s92_19 hw, wx_N102 hw, wx_a102 hw, wx_g92_20 hw, wx_s92_20 hw, wx_N103 hw, wx_a103 hw, wx_g92_21 hw, wx_s92_21 hw, wx_N104 hw, wx_a104 hw, wx_g92_22 hw, wx_s92_22 hw, wx_N105 hw, wx_a105 hw, wx_g92_23 hw, wx_s92_23 hw, wx_N106 hw, wx_a106 hw, wx_g92_24 hw, wx_s92_24 hw, wx_N107 hw, wx_a107 hw, wx_g92_25 hw, wx_s92_25 hw, wx_N108 hw, wx_a108 hw, wx_g92_29 hw, wx_s92_29 hw, wx_N109 hw, wx_a109 hw, wx_g92_30 hw, wx_s92_30 hw, wx_N110 hw, wx_a110 hw, wx_g92_31 hw, wx_s92_31 hw, wx_N111 hw, wx_a111 hw, wx_g92_32 hw, wx_s92_32 hw, wx_N112 hw, wx_a112 hw, wx_g92_33 hw, wx_s92_33 hw, wx_N113 hw, wx_a113 hw, wx_g92_34 hw, wx_s92_34 hw, wx_N114 hw, wx_a114 hw, wx_g92_35 hw, wx_s92_35 hw, wx_N115 hw, wx_a115 hw, wx_g92_38 hw, wx_s92_38 hw, wx_N116 hw, wx_a116 hw, wx_g92_41 hw, wx_s92_41 hw, wx_N117 hw, wx_a117 hw, wx_g92_44 hw, wx_s92_44 hw, wx_N118 hw, wx_a118 hw, wx_g92_45 hw, wx_s92_45 hw, wx_N119 hw, wx_a119 hw, wx_g92_46 hw, wx_s92_46 hw, wx_N120 hw, wx_a120 hw, wx_g92_52 hw, wx_s92_52 hw, wx_N121 hw, wx_a121 hw, wx_g92_55 hw, wx_s92_55 hw, wx_N122 hw, wx_a122 hw, wx_g92_56 hw, wx_s92_56 hw, wx_N123 hw, wx_a123 hw, wx_g92_57 hw, wx_s92_57 hw, wx_N124 hw, wx_a124 hw, wx_g92_58 hw, wx_s92_58 hw, wx_N125 hw, wx_a125 hw, wx_g92_64 hw, wx_s92_64 hw, wx_N126 hw, wx_a126 hw, wx_g92_65 hw, wx_s92_65 hw, wx_N127 hw, wx_a127 hw, wx_g92_66 hw, wx_s92_66 hw, wx_N128 hw, wx_a128 hw, wx_g92_67 hw, wx_s92_67 hw, wx_N129 hw, wx_a129 hw, wx_g92_68 hw, wx_s92_68 hw, wx_N130 hw, wx_a130 hw, wx_g92_69 hw, wx_s92_69 hw, wx_N131 hw, wx_a131 hw, wx_g92_70 hw, wx_s92_70 hw, wx_N132 hw, wx_a132 hw, wx_g92_71 hw, wx_s92_71 hw, wx_N133 hw, wx_a133 hw, wx_g92_72 hw, wx_s92_72 hw, wx_N134 hw, wx_a134 hw, wx_g92_73 hw, wx_s92_73 hw, wx_N135 hw, wx_a135 hw, wx_g92_75 hw, wx_s92_75 hw, wx_N136 hw, wx_a136 hw, List.not_mem_nil, false_implies, implies_true, nI_clamp, nI_add, Nat.reducePow, hp_bd, hp_bdi, hp_ts, hp_tn, hp_tsc, hp_tnc, Nat.reduceAdd, Nat.reduceSub, Nat.reduceMul, Nat.reduceLT, Nat.reduceLeDiff, Nat.reduceEqDiff, reduceIte, not_true_eq_false, not_false_eq_true, and_true, true_and, and_self, and_false, false_and, or_true, true_or, or_false, false_or, decide_true, decide_false, Bool.and_true, Bool.true_and, Bool.not_false, Bool.or_false, Bool.false_or, Bool.or_true, Bool.true_or, i01, k, k2, hy, hyb, e2, hqb]
        · have hbq : ¬ b = q := fun e => hqb e.symm
          have eo : op_3 G (nI b) (nI q) = (md_fo (ab_fr (gP G) b), gX_P G.1 (gP_fr (gP G) b (some q)), G.2) := by unfold op_3; simp only [e, ey, hy, if_false, hqb]
          rw [eo]
          refine oM_X hR (T := mm_uM S 96 b (nI q)) ?_ (sf_uM (by unfold gm_now; omega)) hw (mX_fr hR.2.1 rfl) rfl rfl
          simp only [b134_0, b134_5, b134_8, b134_13, b134_18, b134_21, b134_23, b134_28, b134_31, b134_48, b134_53, e134, wx_o92 hw, wx_k92 hw, wx_q92 hw, wx_g92_1 hw, wx_s92_1 hw, wx_N93 hw, wx_a93 hw, wx_g92_2 hw, wx_s92_2 hw, wx_N94 hw, wx_a94 hw, wx_g92_3 hw, wx_s92_3 hw, wx_N95 hw, wx_a95 hw, wx_g92_4 hw, wx_s92_4 hw, wx_N96 hw, wx_a96 hw, wx_g92_5 hw, wx_s92_5 hw, wx_N97 hw, wx_a97 hw, wx_g92_6 hw, wx_s92_6 hw, wx_N98 hw, wx_a98 hw, wx_g92_7 hw, wx_s92_7 hw, wx_N99 hw, wx_a99 hw, wx_g92_9 hw, wx_s92_9 hw, wx_N100 hw, wx_a100 hw, wx_g92_16 hw, wx_s92_16 hw, wx_N101 hw, wx_a101 hw, wx_g92_19 hw, wx_s92_19 hw, wx_N102 hw, wx_a102 hw, wx_g92_20 hw, wx_s92_20 hw, wx_N103 hw, wx_a103 hw, wx_g92_21 hw, wx_s92_21 hw, wx_N104 hw, wx_a104 hw, wx_g92_22 hw, wx_s92_22 hw, wx_N105 hw, wx_a105 hw, wx_g92_23 hw, wx_s92_23 hw, wx_N106 hw, wx_a106 hw, wx_g92_24 hw, wx_s92_24 hw, wx_N107 hw, wx_a107 hw, wx_g92_25 hw, wx_s92_25 hw, wx_N108 hw, wx_a108 hw, wx_g92_29 hw, wx_s92_29 hw, wx_N109 hw, wx_a109 hw, wx_g92_30 hw, wx_s92_30 hw, wx_N110 hw, wx_a110 hw, wx_g92_31 hw, wx_s92_31 hw, wx_N111 hw, wx_a111 hw, wx_g92_32 hw, wx_s92_32 hw, wx_N112 hw, wx_a112 hw, wx_g92_33 hw, wx_s92_33 hw, wx_N113 hw, wx_a113 hw, wx_g92_34 hw, wx_s92_34 hw, wx_N114 hw, wx_a114 hw, wx_g92_35 hw, wx_s92_35 hw, wx_N115 hw, wx_a115 hw, wx_g92_38 hw, wx_s92_38 hw, wx_N116 hw, wx_a116 hw, wx_g92_41 hw, wx_s92_41 hw, wx_N117 hw, wx_a117 hw, wx_g92_44 hw, wx_s92_44 hw, wx_N118 hw, wx_a118 hw, wx_g92_45 hw, wx_s92_45 hw, wx_N119 hw, wx_a119 hw, wx_g92_46 hw, wx_s92_46 hw, wx_N120 hw, wx_a120 hw, wx_g92_52 hw, wx_s92_52 hw, wx_N121 hw, wx_a121 hw, wx_g92_55 hw, wx_s92_55 hw, wx_N122 hw, wx_a122 hw, wx_g92_56 hw, wx_s92_56 hw, wx_N123 hw, wx_a123 hw, wx_g92_57 hw, wx_s92_57 hw, wx_N124 hw, wx_a124 hw, wx_g92_58 hw, wx_s92_58 hw, wx_N125 hw, wx_a125 hw, wx_g92_64 hw, wx_s92_64 hw, wx_N126 hw, wx_a126 hw, wx_g92_65 hw, wx_s92_65 hw, wx_N127 hw, wx_a127 hw, wx_g92_66 hw, wx_s92_66 hw, wx_N128 hw, wx_a128 hw, wx_g92_67 hw, wx_s92_67 hw, wx_N129 hw, wx_a129 hw, wx_g92_68 hw, wx_s92_68 hw, wx_N130 hw, wx_a130 hw, wx_g92_69 hw, wx_s92_69 hw, wx_N131 hw, wx_a131 hw, wx_g92_70 hw, wx_s92_70 hw, wx_N132 hw, wx_a132 hw, wx_g92_71 hw, wx_s92_71 hw, wx_N133 hw, wx_a133 hw, wx_g92_72 hw, wx_s92_72 hw, wx_N134 hw, wx_a134 hw, wx_g92_73 hw, wx_s92_73 hw, wx_N135 hw, wx_a135 hw, wx_g92_75 hw, wx_s92_75 hw, wx_N136 hw, wx_a136 hw, List.not_mem_nil, false_implies, implies_true, nI_clamp, nI_add, Nat.reducePow, hp_bd, hp_bdi, hp_ts, hp_tn, hp_tsc, hp_tnc, Nat.reduceAdd, Nat.reduceSub, Nat.reduceMul, Nat.reduceLT, Nat.reduceLeDiff, Nat.reduceEqDiff, reduceIte, not_true_eq_false, not_false_eq_true, and_true, true_and, and_self, and_false, false_and, or_true, true_or, or_false, false_or, decide_true, decide_false, Bool.and_true, Bool.true_and, Bool.not_false, Bool.or_false, Bool.false_or, Bool.or_true, Bool.true_or, i01, k, k2, cl, hbi, hg, hy, e2, hbq]
theorem m_4 (ok : gb_ok G) (hR : RM S G) : oM S (d + 2) 135 [.ref 92, .int x, .int p, .int w] (.int (op_4 G x p w).1) (op_4 G x p w).2 := by
  have hw := hR.1
  have hk : gK G ≤ 6 := ok.1.1.1
  rcases kw_c hk x with ⟨e, h⟩ | ⟨b, hb, e, rfl⟩
  · have k := m129n (d := d) ok hR e
    have eo : op_4 G x p w = (-1, G) := by unfold op_4; simp only [e]
    rw [eo]
    refine oM_id hR ?_
    simp only [b135_0, b135_5, b135_8, b135_14, b135_17, b135_19, b135_25, b135_28, b135_31, b135_42, b135_45, e135, wx_o92 hw, wx_k92 hw, wx_q92 hw, wx_g92_1 hw, wx_s92_1 hw, wx_N93 hw, wx_a93 hw, wx_g92_2 hw, wx_s92_2 hw, wx_N94 hw, wx_a94 hw, wx_g92_3 hw, wx_s92_3 hw, wx_N95 hw, wx_a95 hw, wx_g92_4 hw, wx_s92_4 hw, wx_N96 hw, wx_a96 hw, wx_g92_5 hw, wx_s92_5 hw, wx_N97 hw, wx_a97 hw, wx_g92_6 hw, wx_s92_6 hw, wx_N98 hw, wx_a98 hw, wx_g92_7 hw, wx_s92_7 hw, wx_N99 hw, wx_a99 hw, wx_g92_9 hw, wx_s92_9 hw, wx_N100 hw, wx_a100 hw, wx_g92_16 hw, wx_s92_16 hw, wx_N101 hw, wx_a101 hw, wx_g92_19 hw, wx_s92_19 hw, wx_N102 hw, wx_a102 hw, wx_g92_20 hw, wx_s92_20 hw, wx_N103 hw, wx_a103 hw, wx_g92_21 hw, wx_s92_21 hw, wx_N104 hw, wx_a104 hw, wx_g92_22 hw, wx_s92_22 hw, wx_N105 hw, wx_a105 hw, wx_g92_23 hw, wx_s92_23 hw, wx_N106 hw, wx_a106 hw, wx_g92_24 hw, wx_s92_24 hw, wx_N107 hw, wx_a107 hw, wx_g92_25 hw, wx_s92_25 hw, wx_N108 hw, wx_a108 hw, wx_g92_29 hw, wx_s92_29 hw, wx_N109 hw, wx_a109 hw, wx_g92_30 hw, wx_s92_30 hw, wx_N110 hw, wx_a110 hw, wx_g92_31 hw, wx_s92_31 hw, wx_N111 hw, wx_a111 hw, wx_g92_32 hw, wx_s92_32 hw, wx_N112 hw, wx_a112 hw, wx_g92_33 hw, wx_s92_33 hw, wx_N113 hw, wx_a113 hw, wx_g92_34 hw, wx_s92_34 hw, wx_N114 hw, wx_a114 hw, wx_g92_35 hw, wx_s92_35 hw, wx_N115 hw, wx_a115 hw, wx_g92_38 hw, wx_s92_38 hw, wx_N116 hw, wx_a116 hw, wx_g92_41 hw, wx_s92_41 hw, wx_N117 hw, wx_a117 hw, wx_g92_44 hw, wx_s92_44 hw, wx_N118 hw, wx_a118 hw, wx_g92_45 hw, wx_s92_45 hw, wx_N119 hw, wx_a119 hw, wx_g92_46 hw, wx_s92_46 hw, wx_N120 hw, wx_a120 hw, wx_g92_52 hw, wx_s92_52 hw, wx_N121 hw, wx_a121 hw, wx_g92_55 hw, wx_s92_55 hw, wx_N122 hw, wx_a122 hw, wx_g92_56 hw, wx_s92_56 hw, wx_N123 hw, wx_a123 hw, wx_g92_57 hw, wx_s92_57 hw, wx_N124 hw, wx_a124 hw, wx_g92_58 hw, wx_s92_58 hw, wx_N125 hw, wx_a125 hw, wx_g92_64 hw, wx_s92_64 hw, wx_N126 hw, wx_a126 hw, wx_g92_65 hw, wx_s92_65 hw, wx_N127 hw, wx_a127 hw, wx_g92_66 hw, wx_s92_66 hw, wx_N128 hw, wx_a128 hw, wx_g92_67 hw, wx_s92_67 hw, wx_N129 hw, wx_a129 hw, wx_g92_68 hw, wx_s92_68 hw, wx_N130 hw, wx_a130 hw, wx_g92_69 hw, wx_s92_69 hw, wx_N131 hw, wx_a131 hw, wx_g92_70 hw, wx_s92_70 hw, wx_N132 hw, wx_a132 hw, wx_g92_71 hw, wx_s92_71 hw, wx_N133 hw, wx_a133 hw, wx_g92_72 hw, wx_s92_72 hw, wx_N134 hw, wx_a134 hw, wx_g92_73 hw, wx_s92_73 hw, wx_N135 hw, wx_a135 hw, wx_g92_75 hw, wx_s92_75 hw, wx_N136 hw, wx_a136 hw, List.not_mem_nil, false_implies, implies_true, nI_clamp, nI_add, Nat.reducePow, hp_bd, hp_bdi, hp_ts, hp_tn, hp_tsc, hp_tnc, Nat.reduceAdd, Nat.reduceSub, Nat.reduceMul, Nat.reduceLT, Nat.reduceLeDiff, Nat.reduceEqDiff, reduceIte, not_true_eq_false, not_false_eq_true, and_true, true_and, and_self, and_false, false_and, or_true, true_or, or_false, false_or, decide_true, decide_false, Bool.and_true, Bool.true_and, Bool.not_false, Bool.or_false, Bool.false_or, Bool.or_true, Bool.true_or, i01, k]
  have k := m129s (d := d) ok hR hb
  have cl : (nI b).toNatClampNeg = b := nI_clamp (by omega)
  have hbi : mm_inb (nI b) 6 = true := hp_inb (by omega) (by omega)
  have m0 : mm_M S 93 b = nI (ab_ki (gP G) b) := (hR.2.1.1.2.1 b hb).1
  have hk7 : ab_ki (gP G) b < 7 := (ok.1.1.2.2.2.1 b hb).1
  have e6 : (nI (ab_ki (gP G) b) = nI 6) = (ab_ki (gP G) b = 6) := propext (nI_eq (by omega) (by decide))
  by_cases ep : ab_kw 3 p = none
  · have kp := m128n (d := d + 1) (S := S) (n := 2) rfl (by decide) ep
    have eo : op_4 G (nI b) p w = (-1, G) := by unfold op_4; simp only [e, ep]
    rw [eo]
    refine oM_id hR ?_
    simp only [b135_0, b135_5, b135_8, b135_14, b135_17, b135_19, b135_25, b135_28, b135_31, b135_42, b135_45, e135, wx_o92 hw, wx_k92 hw, wx_q92 hw, wx_g92_1 hw, wx_s92_1 hw, wx_N93 hw, wx_a93 hw, wx_g92_2 hw, wx_s92_2 hw, wx_N94 hw, wx_a94 hw, wx_g92_3 hw, wx_s92_3 hw, wx_N95 hw, wx_a95 hw, wx_g92_4 hw, wx_s92_4 hw, wx_N96 hw, wx_a96 hw, wx_g92_5 hw, wx_s92_5 hw, wx_N97 hw, wx_a97 hw, wx_g92_6 hw, wx_s92_6 hw, wx_N98 hw, wx_a98 hw, wx_g92_7 hw, wx_s92_7 hw, wx_N99 hw, wx_a99 hw, wx_g92_9 hw, wx_s92_9 hw, wx_N100 hw, wx_a100 hw, wx_g92_16 hw, wx_s92_16 hw, wx_N101 hw, wx_a101 hw, wx_g92_19 hw, wx_s92_19 hw, wx_N102 hw, wx_a102 hw, wx_g92_20 hw, wx_s92_20 hw, wx_N103 hw, wx_a103 hw, wx_g92_21 hw, wx_s92_21 hw, wx_N104 hw, wx_a104 hw, wx_g92_22 hw, wx_s92_22 hw, wx_N105 hw, wx_a105 hw, wx_g92_23 hw, wx_s92_23 hw, wx_N106 hw, wx_a106 hw, wx_g92_24 hw, wx_s92_24 hw, wx_N107 hw, wx_a107 hw, wx_g92_25 hw, wx_s92_25 hw, wx_N108 hw, wx_a108 hw, wx_g92_29 hw, wx_s92_29 hw, wx_N109 hw, wx_a109 hw, wx_g92_30 hw, wx_s92_30 hw, wx_N110 hw, wx_a110 hw, wx_g92_31 hw, wx_s92_31 hw, wx_N111 hw, wx_a111 hw, wx_g92_32 hw, wx_s92_32 hw, wx_N112 hw, wx_a112 hw, wx_g92_33 hw, wx_s92_33 hw, wx_N113 hw, wx_a113 hw, wx_g92_34 hw, wx_s92_34 hw, wx_N114 hw, wx_a114 hw, wx_g92_35 hw, wx_s92_35 hw, wx_N115 hw, wx_a115 hw, wx_g92_38 hw, wx_s92_38 hw, wx_N116 hw, wx_a116 hw, wx_g92_41 hw, wx_s92_41 hw, wx_N117 hw, wx_a117 hw, wx_g92_44 hw, wx_s92_44 hw, wx_N118 hw, wx_a118 hw, wx_g92_45 hw, wx_s92_45 hw, wx_N119 hw, wx_a119 hw, wx_g92_46 hw, wx_s92_46 hw, wx_N120 hw, wx_a120 hw, wx_g92_52 hw, wx_s92_52 hw, wx_N121 hw, wx_a121 hw, wx_g92_55 hw, wx_s92_55 hw, wx_N122 hw, wx_a122 hw, wx_g92_56 hw, wx_s92_56 hw, wx_N123 hw, wx_a123 hw, wx_g92_57 hw, wx_s92_57 hw, wx_N124 hw, wx_a124 hw, wx_g92_58 hw, wx_s92_58 hw, wx_N125 hw, wx_a125 hw, wx_g92_64 hw, wx_s92_64 hw, wx_N126 hw, wx_a126 hw, wx_g92_65 hw, wx_s92_65 hw, wx_N127 hw, wx_a127 hw, wx_g92_66 hw, wx_s92_66 hw, wx_N128 hw, wx_a128 hw, wx_g92_67 hw, wx_s92_67 hw, wx_N129 hw, wx_a129 hw, wx_g92_68 hw, wx_s92_68 hw, wx_N130 hw, wx_a130 hw, wx_g92_69 hw, wx_s92_69 hw, wx_N131 hw, wx_a131 hw, wx_g92_70 hw, wx_s92_70 hw, wx_N132 hw, wx_a132 hw, wx_g92_71 hw, wx_s92_71 hw, wx_N133 hw, wx_a133 hw, wx_g92_72 hw, wx_s92_72 hw, wx_N134 hw, wx_a134 hw, wx_g92_73 hw, wx_s92_73 hw, wx_N135 hw, wx_a135 hw, wx_g92_75 hw, wx_s92_75 hw, wx_N136 hw, wx_a136 hw, List.not_mem_nil, false_implies, implies_true, nI_clamp, nI_add, Nat.reducePow, hp_bd, hp_bdi, hp_ts, hp_tn, hp_tsc, hp_tnc, Nat.reduceAdd, Nat.reduceSub, Nat.reduceMul, Nat.reduceLT, Nat.reduceLeDiff, Nat.reduceEqDiff, reduceIte, not_true_eq_false, not_false_eq_true, and_true, true_and, and_self, and_false, false_and, or_true, true_or, or_false, false_or, decide_true, decide_false, Bool.and_true, Bool.true_and, Bool.not_false, Bool.or_false, Bool.false_or, Bool.or_true, Bool.true_or, i01, k, kp]
  rcases kw_d (n := 2) (m := 3) rfl (by decide) p with ⟨z, -⟩ | ⟨z, -⟩ | ⟨p, hp, ep, rfl, -⟩
  · exact absurd z ep
  · exact absurd z ep
  have kp := m128s (d := d + 1) (S := S) (n := 2) rfl (by decide) hp
  by_cases ew : ab_kw 4 w = none
  · have kw := m128n (d := d + 1) (S := S) (n := 3) rfl (by decide) ew
    have eo : op_4 G (nI b) (nI p) w = (-2, G) := by unfold op_4; simp only [e, ep, ew]
    rw [eo]
    refine oM_id hR ?_
    simp only [b135_0, b135_5, b135_8, b135_14, b135_17, b135_19, b135_25, b135_28, b135_31, b135_42, b135_45, e135, wx_o92 hw, wx_k92 hw, wx_q92 hw, wx_g92_1 hw, wx_s92_1 hw, wx_N93 hw, wx_a93 hw, wx_g92_2 hw, wx_s92_2 hw, wx_N94 hw, wx_a94 hw, wx_g92_3 hw, wx_s92_3 hw, wx_N95 hw, wx_a95 hw, wx_g92_4 hw, wx_s92_4 hw, wx_N96 hw, wx_a96 hw, wx_g92_5 hw, wx_s92_5 hw, wx_N97 hw, wx_a97 hw, wx_g92_6 hw, wx_s92_6 hw, wx_N98 hw, wx_a98 hw, wx_g92_7 hw, wx_s92_7 hw, wx_N99 hw, wx_a99 hw, wx_g92_9 hw, wx_s92_9 hw, wx_N100 hw, wx_a100 hw, wx_g92_16 hw, wx_s92_16 hw, wx_N101 hw, wx_a101 hw, wx_g92_19 hw, wx_s92_19 hw, wx_N102 hw, wx_a102 hw, wx_g92_20 hw, wx_s92_20 hw, wx_N103 hw, wx_a103 hw, wx_g92_21 hw, wx_s92_21 hw, wx_N104 hw, wx_a104 hw, wx_g92_22 hw, wx_s92_22 hw, wx_N105 hw, wx_a105 hw, wx_g92_23 hw, wx_s92_23 hw, wx_N106 hw, wx_a106 hw, wx_g92_24 hw, wx_s92_24 hw, wx_N107 hw, wx_a107 hw, wx_g92_25 hw, wx_s92_25 hw, wx_N108 hw, wx_a108 hw, wx_g92_29 hw, wx_s92_29 hw, wx_N109 hw, wx_a109 hw, wx_g92_30 hw, wx_s92_30 hw, wx_N110 hw, wx_a110 hw, wx_g92_31 hw, wx_s92_31 hw, wx_N111 hw, wx_a111 hw, wx_g92_32 hw, wx_s92_32 hw, wx_N112 hw, wx_a112 hw, wx_g92_33 hw, wx_s92_33 hw, wx_N113 hw, wx_a113 hw, wx_g92_34 hw, wx_s92_34 hw, wx_N114 hw, wx_a114 hw, wx_g92_35 hw, wx_s92_35 hw, wx_N115 hw, wx_a115 hw, wx_g92_38 hw, wx_s92_38 hw, wx_N116 hw, wx_a116 hw, wx_g92_41 hw, wx_s92_41 hw, wx_N117 hw, wx_a117 hw, wx_g92_44 hw, wx_s92_44 hw, wx_N118 hw, wx_a118 hw, wx_g92_45 hw, wx_s92_45 hw, wx_N119 hw, wx_a119 hw, wx_g92_46 hw, wx_s92_46 hw, wx_N120 hw, wx_a120 hw, wx_g92_52 hw, wx_s92_52 hw, wx_N121 hw, wx_a121 hw, wx_g92_55 hw, wx_s92_55 hw, wx_N122 hw, wx_a122 hw, wx_g92_56 hw, wx_s92_56 hw, wx_N123 hw, wx_a123 hw, wx_g92_57 hw, wx_s92_57 hw, wx_N124 hw, wx_a124 hw, wx_g92_58 hw, wx_s92_58 hw, wx_N125 hw, wx_a125 hw, wx_g92_64 hw, wx_s92_64 hw, wx_N126 hw, wx_a126 hw, wx_g92_65 hw, wx_s92_65 hw, wx_N127 hw, wx_a127 hw, wx_g92_66 hw, wx_s92_66 hw, wx_N128 hw, wx_a128 hw, wx_g92_67 hw, wx_s92_67 hw, wx_N129 hw, wx_a129 hw, wx_g92_68 hw, wx_s92_68 hw, wx_N130 hw, wx_a130 hw, wx_g92_69 hw, wx_s92_69 hw, wx_N131 hw, wx_a131 hw, wx_g92_70 hw, wx_s92_70 hw, wx_N132 hw, wx_a132 hw, wx_g92_71 hw, wx_s92_71 hw, wx_N133 hw, wx_a133 hw, wx_g92_72 hw, wx_s92_72 hw, wx_N134 hw, wx_a134 hw, wx_g92_73 hw, wx_s92_73 hw, wx_N135 hw, wx_a135 hw, wx_g92_75 hw, wx_s92_75 hw, wx_N136 hw, wx_a136 hw, List.not_mem_nil, false_implies, implies_true, nI_clamp, nI_add, Nat.reducePow, hp_bd, hp_bdi, hp_ts, hp_tn, hp_tsc, hp_tnc, Nat.reduceAdd, Nat.reduceSub, Nat.reduceMul, Nat.reduceLT, Nat.reduceLeDiff, Nat.reduceEqDiff, reduceIte, not_true_eq_false, not_false_eq_true, and_true, true_and, and_self, and_false, false_and, or_true, true_or, or_false, false_or, decide_true, decide_false, Bool.and_true, Bool.true_and, Bool.not_false, Bool.or_false, Bool.false_or, Bool.or_true, Bool.true_or, i01, k, kp, kw]
  rcases kw_d (n := 3) (m := 4) rfl (by decide) w with ⟨z, -⟩ | ⟨z, -⟩ | ⟨w, hw4, ew, rfl, -⟩
  · exact absurd z ew
  · exact absurd z ew
  have kw := m128s (d := d + 1) (S := S) (n := 3) rfl (by decide) hw4
  by_cases h6 : ab_ki (gP G) b = 6
  · have eo : op_4 G (nI b) (nI p) (nI w) = (nI (ab_te (gP G) (3 * b + p)), gX_P G.1 (gP_te (gP G) (3 * b + p) w), G.2) := by unfold op_4; simp only [e, ep, ew, h6, if_true]
    have cl2 : (nI (3 * b + p)).toNatClampNeg = 3 * b + p := nI_clamp (by omega)
    have hbi2 : mm_inb (nI (3 * b + p)) 18 = true := hp_inb (by omega) (by omega)
    have hg : mm_M S 99 (3 * b + p) = nI (ab_te (gP G) (3 * b + p)) := hR.2.1.1.2.2.1 _ (by have hb : b < ab_kn (gx_P (gb_x G)) := hb; omega)
    rw [eo]
    refine oM_X hR (T := mm_uM S 99 (3 * b + p) (nI w)) ?_ (sf_uM (by unfold gm_now; omega)) hw (mX_te hR.2.1 rfl) rfl rfl
    simp only [b135_0, b135_5, b135_8, b135_14, b135_17, b135_19, b135_25, b135_28, b135_31, b135_42, b135_45, e135, wx_o92 hw, wx_k92 hw, wx_q92 hw, wx_g92_1 hw, wx_s92_1 hw, wx_N93 hw, wx_a93 hw, wx_g92_2 hw, wx_s92_2 hw, wx_N94 hw, wx_a94 hw, wx_g92_3 hw, wx_s92_3 hw, wx_N95 hw, wx_a95 hw, wx_g92_4 hw, wx_s92_4 hw, wx_N96 hw, wx_a96 hw, wx_g92_5 hw, wx_s92_5 hw, wx_N97 hw, wx_a97 hw, wx_g92_6 hw, wx_s92_6 hw, wx_N98 hw, wx_a98 hw, wx_g92_7 hw, wx_s92_7 hw, wx_N99 hw, wx_a99 hw, wx_g92_9 hw, wx_s92_9 hw, wx_N100 hw, wx_a100 hw, wx_g92_16 hw, wx_s92_16 hw, wx_N101 hw, wx_a101 hw, wx_g92_19 hw, wx_s92_19 hw, wx_N102 hw, wx_a102 hw, wx_g92_20 hw, wx_s92_20 hw, wx_N103 hw, wx_a103 hw, wx_g92_21 hw, wx_s92_21 hw, wx_N104 hw, wx_a104 hw, wx_g92_22 hw, wx_s92_22 hw, wx_N105 hw, wx_a105 hw, wx_g92_23 hw, wx_s92_23 hw, wx_N106 hw, wx_a106 hw, wx_g92_24 hw, wx_s92_24 hw, wx_N107 hw, wx_a107 hw, wx_g92_25 hw, wx_s92_25 hw, wx_N108 hw, wx_a108 hw, wx_g92_29 hw, wx_s92_29 hw, wx_N109 hw, wx_a109 hw, wx_g92_30 hw, wx_s92_30 hw, wx_N110 hw, wx_a110 hw, wx_g92_31 hw, wx_s92_31 hw, wx_N111 hw, wx_a111 hw, wx_g92_32 hw, wx_s92_32 hw, wx_N112 hw, wx_a112 hw, wx_g92_33 hw, wx_s92_33 hw, wx_N113 hw, wx_a113 hw, wx_g92_34 hw, wx_s92_34 hw, wx_N114 hw, wx_a114 hw, wx_g92_35 hw, wx_s92_35 hw, wx_N115 hw, wx_a115 hw, wx_g92_38 hw, wx_s92_38 hw, wx_N116 hw, wx_a116 hw, wx_g92_41 hw, wx_s92_41 hw, wx_N117 hw, wx_a117 hw, wx_g92_44 hw, wx_s92_44 hw, wx_N118 hw, wx_a118 hw, wx_g92_45 hw, wx_s92_45 hw, wx_N119 hw, wx_a119 hw, wx_g92_46 hw, wx_s92_46 hw, wx_N120 hw, wx_a120 hw, wx_g92_52 hw, wx_s92_52 hw, wx_N121 hw, wx_a121 hw, wx_g92_55 hw, wx_s92_55 hw, wx_N122 hw, wx_a122 hw, wx_g92_56 hw, wx_s92_56 hw, wx_N123 hw, wx_a123 hw, wx_g92_57 hw, wx_s92_57 hw, wx_N124 hw, wx_a124 hw, wx_g92_58 hw, wx_s92_58 hw, wx_N125 hw, wx_a125 hw, wx_g92_64 hw, wx_s92_64 hw, wx_N126 hw, wx_a126 hw, wx_g92_65 hw, wx_s92_65 hw, wx_N127 hw, wx_a127 hw, wx_g92_66 hw, wx_s92_66 hw, wx_N128 hw, wx_a128 hw, wx_g92_67 hw, wx_s92_67 hw, wx_N129 hw, wx_a129 hw, wx_g92_68 hw, wx_s92_68 hw, wx_N130 hw, wx_a130 hw, wx_g92_69 hw, wx_s92_69 hw, wx_N131 hw, wx_a131 hw, wx_g92_70 hw, wx_s92_70 hw, wx_N132 hw, wx_a132 hw, wx_g92_71 hw, wx_s92_71 hw, wx_N133 hw, wx_a133 hw, wx_g92_72 hw, wx_s92_72 hw, wx_N134 hw, wx_a134 hw, wx_g92_73 hw, wx_s92_73 hw, wx_N135 hw, wx_a135 hw, wx_g92_75 hw, wx_s92_75 hw, wx_N136 hw, wx_a136 hw, List.not_mem_nil, false_implies, implies_true, nI_clamp, nI_add, Nat.reducePow, hp_bd, hp_bdi, hp_ts, hp_tn, hp_tsc, hp_tnc, Nat.reduceAdd, Nat.reduceSub, Nat.reduceMul, Nat.reduceLT, Nat.reduceLeDiff, Nat.reduceEqDiff, reduceIte, not_true_eq_false, not_false_eq_true, and_true, true_and, and_self, and_false, false_and, or_true, true_or, or_false, false_or, decide_true, decide_false, Bool.and_true, Bool.true_and, Bool.not_false, Bool.or_false, Bool.false_or, Bool.or_true, Bool.true_or, i01, k, kp, kw, cl, hbi, m0, h6, nI_mul, cl2, hbi2, hg]
  · have eo : op_4 G (nI b) (nI p) (nI w) = (-3, G) := by unfold op_4; simp only [e, ep, ew, h6, if_false]
    rw [eo]
    refine oM_id hR ?_
    simp only [b135_0, b135_5, b135_8, b135_14, b135_17, b135_19, b135_25, b135_28, b135_31, b135_42, b135_45, e135, wx_o92 hw, wx_k92 hw, wx_q92 hw, wx_g92_1 hw, wx_s92_1 hw, wx_N93 hw, wx_a93 hw, wx_g92_2 hw, wx_s92_2 hw, wx_N94 hw, wx_a94 hw, wx_g92_3 hw, wx_s92_3 hw, wx_N95 hw, wx_a95 hw, wx_g92_4 hw, wx_s92_4 hw, wx_N96 hw, wx_a96 hw, wx_g92_5 hw, wx_s92_5 hw, wx_N97 hw, wx_a97 hw, wx_g92_6 hw, wx_s92_6 hw, wx_N98 hw, wx_a98 hw, wx_g92_7 hw, wx_s92_7 hw, wx_N99 hw, wx_a99 hw, wx_g92_9 hw, wx_s92_9 hw, wx_N100 hw, wx_a100 hw, wx_g92_16 hw, wx_s92_16 hw, wx_N101 hw, wx_a101 hw, wx_g92_19 hw, wx_s92_19 hw, wx_N102 hw, wx_a102 hw, wx_g92_20 hw, wx_s92_20 hw, wx_N103 hw, wx_a103 hw, wx_g92_21 hw, wx_s92_21 hw, wx_N104 hw, wx_a104 hw, wx_g92_22 hw, wx_s92_22 hw, wx_N105 hw, wx_a105 hw, wx_g92_23 hw, wx_s92_23 hw, wx_N106 hw, wx_a106 hw, wx_g92_24 hw, wx_s92_24 hw, wx_N107 hw, wx_a107 hw, wx_g92_25 hw, wx_s92_25 hw, wx_N108 hw, wx_a108 hw, wx_g92_29 hw, wx_s92_29 hw, wx_N109 hw, wx_a109 hw, wx_g92_30 hw, wx_s92_30 hw, wx_N110 hw, wx_a110 hw, wx_g92_31 hw, wx_s92_31 hw, wx_N111 hw, wx_a111 hw, wx_g92_32 hw, wx_s92_32 hw, wx_N112 hw, wx_a112 hw, wx_g92_33 hw, wx_s92_33 hw, wx_N113 hw, wx_a113 hw, wx_g92_34 hw, wx_s92_34 hw, wx_N114 hw, wx_a114 hw, wx_g92_35 hw, wx_s92_35 hw, wx_N115 hw, wx_a115 hw, wx_g92_38 hw, wx_s92_38 hw, wx_N116 hw, wx_a116 hw, wx_g92_41 hw, wx_s92_41 hw, wx_N117 hw, wx_a117 hw, wx_g92_44 hw, wx_s92_44 hw, wx_N118 hw, wx_a118 hw, wx_g92_45 hw, wx_s92_45 hw, wx_N119 hw, wx_a119 hw, wx_g92_46 hw, wx_s92_46 hw, wx_N120 hw, wx_a120 hw, wx_g92_52 hw, wx_s92_52 hw, wx_N121 hw, wx_a121 hw, wx_g92_55 hw, wx_s92_55 hw, wx_N122 hw, wx_a122 hw, wx_g92_56 hw, wx_s92_56 hw, wx_N123 hw, wx_a123 hw, wx_g92_57 hw, wx_s92_57 hw, wx_N124 hw, wx_a124 hw, wx_g92_58 hw, wx_s92_58 hw, wx_N125 hw, wx_a125 hw, wx_g92_64 hw, wx_s92_64 hw, wx_N126 hw, wx_a126 hw, wx_g92_65 hw, wx_s92_65 hw, wx_N127 hw, wx_a127 hw, wx_g92_66 hw, wx_s92_66 hw, wx_N128 hw, wx_a128 hw, wx_g92_67 hw, wx_s92_67 hw, wx_N129 hw, wx_a129 hw, wx_g92_68 hw, wx_s92_68 hw, wx_N130 hw, wx_a130 hw, wx_g92_69 hw, wx_s92_69 hw, wx_N131 hw, wx_a131 hw, wx_g92_70 hw, wx_s92_70 hw, wx_N132 hw, wx_a132 hw, wx_g92_71 hw, wx_s92_71 hw, wx_N133 hw, wx_a133 hw, wx_g92_72 hw, wx_s92_72 hw, wx_N134 hw, wx_a134 hw, wx_g92_73 hw, wx_s92_73 hw, wx_N135 hw, wx_a135 hw, wx_g92_75 hw, wx_s92_75 hw, wx_N136 hw, wx_a136 hw, List.not_mem_nil, false_implies, implies_true, nI_clamp, nI_add, Nat.reducePow, hp_bd, hp_bdi, hp_ts, hp_tn, hp_tsc, hp_tnc, Nat.reduceAdd, Nat.reduceSub, Nat.reduceMul, Nat.reduceLT, Nat.reduceLeDiff, Nat.reduceEqDiff, reduceIte, not_true_eq_false, not_false_eq_true, and_true, true_and, and_self, and_false, false_and, or_true, true_or, or_false, false_or, decide_true, decide_false, Bool.and_true, Bool.true_and, Bool.not_false, Bool.or_false, Bool.false_or, Bool.or_true, Bool.true_or, i01, k, kp, kw, cl, hbi, m0, e6, h6]
theorem m_5 (ok : gb_ok G) (hR : RM S G) : oM S (d + 2) 136 [.ref 92, .int x] (.int (op_5 G x).1) (op_5 G x).2 := by
  have hw := hR.1
  have hk : gK G ≤ 6 := ok.1.1.1
  have hA := RM_A ok hR
  rcases kw_c hk x with ⟨e, h⟩ | ⟨b, hb, e, rfl⟩
  · have k := m129n (d := d) ok hR e
    have eo : op_5 G x = (-1, G) := by unfold op_5; simp only [e]
    rw [eo]
    refine oM_id hR ?_
    simp only [b136_0, b136_5, b136_8, b136_10, b136_15, b136_20, b136_23, b136_35, b136_44, e136, wx_o92 hw, wx_k92 hw, wx_q92 hw, wx_g92_1 hw, wx_s92_1 hw, wx_N93 hw, wx_a93 hw, wx_g92_2 hw, wx_s92_2 hw, wx_N94 hw, wx_a94 hw, wx_g92_3 hw, wx_s92_3 hw, wx_N95 hw, wx_a95 hw, wx_g92_4 hw, wx_s92_4 hw, wx_N96 hw, wx_a96 hw, wx_g92_5 hw, wx_s92_5 hw, wx_N97 hw, wx_a97 hw, wx_g92_6 hw, wx_s92_6 hw, wx_N98 hw, wx_a98 hw, wx_g92_7 hw, wx_s92_7 hw, wx_N99 hw, wx_a99 hw, wx_g92_9 hw, wx_s92_9 hw, wx_N100 hw, wx_a100 hw, wx_g92_16 hw, wx_s92_16 hw, wx_N101 hw, wx_a101 hw, wx_g92_19 hw, wx_s92_19 hw, wx_N102 hw, wx_a102 hw, wx_g92_20 hw, wx_s92_20 hw, wx_N103 hw, wx_a103 hw, wx_g92_21 hw, wx_s92_21 hw, wx_N104 hw, wx_a104 hw, wx_g92_22 hw, wx_s92_22 hw, wx_N105 hw, wx_a105 hw, wx_g92_23 hw, wx_s92_23 hw, wx_N106 hw, wx_a106 hw, wx_g92_24 hw, wx_s92_24 hw, wx_N107 hw, wx_a107 hw, wx_g92_25 hw, wx_s92_25 hw, wx_N108 hw, wx_a108 hw, wx_g92_29 hw, wx_s92_29 hw, wx_N109 hw, wx_a109 hw, wx_g92_30 hw, wx_s92_30 hw, wx_N110 hw, wx_a110 hw, wx_g92_31 hw, wx_s92_31 hw, wx_N111 hw, wx_a111 hw, wx_g92_32 hw, wx_s92_32 hw, wx_N112 hw, wx_a112 hw, wx_g92_33 hw, wx_s92_33 hw, wx_N113 hw, wx_a113 hw, wx_g92_34 hw, wx_s92_34 hw, wx_N114 hw, wx_a114 hw, wx_g92_35 hw, wx_s92_35 hw, wx_N115 hw, wx_a115 hw, wx_g92_38 hw, wx_s92_38 hw, wx_N116 hw, wx_a116 hw, wx_g92_41 hw, wx_s92_41 hw, wx_N117 hw, wx_a117 hw, wx_g92_44 hw, wx_s92_44 hw, wx_N118 hw, wx_a118 hw, wx_g92_45 hw, wx_s92_45 hw, wx_N119 hw, wx_a119 hw, wx_g92_46 hw, wx_s92_46 hw, wx_N120 hw, wx_a120 hw, wx_g92_52 hw, wx_s92_52 hw, wx_N121 hw, wx_a121 hw, wx_g92_55 hw, wx_s92_55 hw, wx_N122 hw, wx_a122 hw, wx_g92_56 hw, wx_s92_56 hw, wx_N123 hw, wx_a123 hw, wx_g92_57 hw, wx_s92_57 hw, wx_N124 hw, wx_a124 hw, wx_g92_58 hw, wx_s92_58 hw, wx_N125 hw, wx_a125 hw, wx_g92_64 hw, wx_s92_64 hw, wx_N126 hw, wx_a126 hw, wx_g92_65 hw, wx_s92_65 hw, wx_N127 hw, wx_a127 hw, wx_g92_66 hw, wx_s92_66 hw, wx_N128 hw, wx_a128 hw, wx_g92_67 hw, wx_s92_67 hw, wx_N129 hw, wx_a129 hw, wx_g92_68 hw, wx_s92_68 hw, wx_N130 hw, wx_a130 hw, wx_g92_69 hw, wx_s92_69 hw, wx_N131 hw, wx_a131 hw, wx_g92_70 hw, wx_s92_70 hw, wx_N132 hw, wx_a132 hw, wx_g92_71 hw, wx_s92_71 hw, wx_N133 hw, wx_a133 hw, wx_g92_72 hw, wx_s92_72 hw, wx_N134 hw, wx_a134 hw, wx_g92_73 hw, wx_s92_73 hw, wx_N135 hw, wx_a135 hw, wx_g92_75 hw, wx_s92_75 hw, wx_N136 hw, wx_a136 hw, List.not_mem_nil, false_implies, implies_true, nI_clamp, nI_add, Nat.reducePow, hp_bd, hp_bdi, hp_ts, hp_tn, hp_tsc, hp_tnc, Nat.reduceAdd, Nat.reduceSub, Nat.reduceMul, Nat.reduceLT, Nat.reduceLeDiff, Nat.reduceEqDiff, reduceIte, not_true_eq_false, not_false_eq_true, and_true, true_and, and_self, and_false, false_and, or_true, true_or, or_false, false_or, decide_true, decide_false, Bool.and_true, Bool.true_and, Bool.not_false, Bool.or_false, Bool.false_or, Bool.or_true, Bool.true_or, i01, k]
  have k := m129s (d := d) ok hR hb
  have k130 := s130 (d := d + 1) (b := b) hA (by omega)
  have h8 : mm_M S 92 8 = nI (ab_row (gD G)).length := hR.2.1.2.1.1
  by_cases hm : b ∈ ab_row (gD G)
  · have eo : op_5 G (nI b) = (-3, G) := by unfold op_5; simp only [e, hm, if_true]
    have hn : ¬ (md_fo (ab_at b (ab_row (gD G))) = -5) := by rw [at_neg hA]; exact fun h => h hm
    rw [eo]
    refine oM_id hR ?_
    simp only [b136_0, b136_5, b136_8, b136_10, b136_15, b136_20, b136_23, b136_35, b136_44, e136, wx_o92 hw, wx_k92 hw, wx_q92 hw, wx_g92_1 hw, wx_s92_1 hw, wx_N93 hw, wx_a93 hw, wx_g92_2 hw, wx_s92_2 hw, wx_N94 hw, wx_a94 hw, wx_g92_3 hw, wx_s92_3 hw, wx_N95 hw, wx_a95 hw, wx_g92_4 hw, wx_s92_4 hw, wx_N96 hw, wx_a96 hw, wx_g92_5 hw, wx_s92_5 hw, wx_N97 hw, wx_a97 hw, wx_g92_6 hw, wx_s92_6 hw, wx_N98 hw, wx_a98 hw, wx_g92_7 hw, wx_s92_7 hw, wx_N99 hw, wx_a99 hw, wx_g92_9 hw, wx_s92_9 hw, wx_N100 hw, wx_a100 hw, wx_g92_16 hw, wx_s92_16 hw, wx_N101 hw, wx_a101 hw, wx_g92_19 hw, wx_s92_19 hw, wx_N102 hw, wx_a102 hw, wx_g92_20 hw, wx_s92_20 hw, wx_N103 hw, wx_a103 hw, wx_g92_21 hw, wx_s92_21 hw, wx_N104 hw, wx_a104 hw, wx_g92_22 hw, wx_s92_22 hw, wx_N105 hw, wx_a105 hw, wx_g92_23 hw, wx_s92_23 hw, wx_N106 hw, wx_a106 hw, wx_g92_24 hw, wx_s92_24 hw, wx_N107 hw, wx_a107 hw, wx_g92_25 hw, wx_s92_25 hw, wx_N108 hw, wx_a108 hw, wx_g92_29 hw, wx_s92_29 hw, wx_N109 hw, wx_a109 hw, wx_g92_30 hw, wx_s92_30 hw, wx_N110 hw, wx_a110 hw, wx_g92_31 hw, wx_s92_31 hw, wx_N111 hw, wx_a111 hw, wx_g92_32 hw, wx_s92_32 hw, wx_N112 hw, wx_a112 hw, wx_g92_33 hw, wx_s92_33 hw, wx_N113 hw, wx_a113 hw, wx_g92_34 hw, wx_s92_34 hw, wx_N114 hw, wx_a114 hw, wx_g92_35 hw, wx_s92_35 hw, wx_N115 hw, wx_a115 hw, wx_g92_38 hw, wx_s92_38 hw, wx_N116 hw, wx_a116 hw, wx_g92_41 hw, wx_s92_41 hw, wx_N117 hw, wx_a117 hw, wx_g92_44 hw, wx_s92_44 hw, wx_N118 hw, wx_a118 hw, wx_g92_45 hw, wx_s92_45 hw, wx_N119 hw, wx_a119 hw, wx_g92_46 hw, wx_s92_46 hw, wx_N120 hw, wx_a120 hw, wx_g92_52 hw, wx_s92_52 hw, wx_N121 hw, wx_a121 hw, wx_g92_55 hw, wx_s92_55 hw, wx_N122 hw, wx_a122 hw, wx_g92_56 hw, wx_s92_56 hw, wx_N123 hw, wx_a123 hw, wx_g92_57 hw, wx_s92_57 hw, wx_N124 hw, wx_a124 hw, wx_g92_58 hw, wx_s92_58 hw, wx_N125 hw, wx_a125 hw, wx_g92_64 hw, wx_s92_64 hw, wx_N126 hw, wx_a126 hw, wx_g92_65 hw, wx_s92_65 hw, wx_N127 hw, wx_a127 hw, wx_g92_66 hw, wx_s92_66 hw, wx_N128 hw, wx_a128 hw, wx_g92_67 hw, wx_s92_67 hw, wx_N129 hw, wx_a129 hw, wx_g92_68 hw, wx_s92_68 hw, wx_N130 hw, wx_a130 hw, wx_g92_69 hw, wx_s92_69 hw, wx_N131 hw, wx_a131 hw, wx_g92_70 hw, wx_s92_70 hw, wx_N132 hw, wx_a132 hw, wx_g92_71 hw, wx_s92_71 hw, wx_N133 hw, wx_a133 hw, wx_g92_72 hw, wx_s92_72 hw, wx_N134 hw, wx_a134 hw, wx_g92_73 hw, wx_s92_73 hw, wx_N135 hw, wx_a135 hw, wx_g92_75 hw, wx_s92_75 hw, wx_N136 hw, wx_a136 hw, List.not_mem_nil, false_implies, implies_true, nI_clamp, nI_add, Nat.reducePow, hp_bd, hp_bdi, hp_ts, hp_tn, hp_tsc, hp_tnc, Nat.reduceAdd, Nat.reduceSub, Nat.reduceMul, Nat.reduceLT, Nat.reduceLeDiff, Nat.reduceEqDiff, reduceIte, not_true_eq_false, not_false_eq_true, and_true, true_and, and_self, and_false, false_and, or_true, true_or, or_false, false_or, decide_true, decide_false, Bool.and_true, Bool.true_and, Bool.not_false, Bool.or_false, Bool.false_or, Bool.or_true, Bool.true_or, i01, k, k130, hn]
  · have eo : op_5 G (nI b) = (nI (ab_row (gD G)).length, gX_D G.1 (gD_row (gD G) (ab_row (gD G) ++ [b])), G.2) := by unfold op_5; simp only [e, hm, if_false]
    have hn : md_fo (ab_at b (ab_row (gD G))) = -5 := by rw [at_neg hA]; exact hm
    have oD := okD_back ok hb hm
    have hl2 : (ab_row (gD G)).length + 1 ≤ 6 := by
      have := row_le ok.1.1 oD
      have e2 : ab_row (gD_row (gD G) (ab_row (gD G) ++ [b])) = ab_row (gD G) ++ [b] := rfl
      rw [e2, List.length_append] at this
      exact this
    have cl : (nI (ab_row (gD G)).length).toNatClampNeg = (ab_row (gD G)).length := nI_clamp (by omega)
    have hbi : mm_inb (nI (ab_row (gD G)).length) 6 = true := hp_inb (by omega) (by omega)
    have sb : nI ((ab_row (gD G)).length + 1) - nI 1 = nI (ab_row (gD G)).length := by rw [pk_sub (by omega), Nat.add_sub_cancel]
    have f : sf_f gm_d S (mm_uM (mm_uM S 100 (ab_row (gD G)).length (nI b)) 92 8 (nI ((ab_row (gD G)).length + 1))) := sf_tr (sf_uM (by unfold gm_d; omega)) (sf_uM (by unfold gm_d; omega))
    rw [eo]
    refine oM_X hR (T := mm_uM (mm_uM S 100 (ab_row (gD G)).length (nI b)) 92 8 (nI ((ab_row (gD G)).length + 1))) ?_ (gmd_now f) hw (mX_D f hR.2.1 ?_) rfl rfl
    · simp only [b136_0, b136_5, b136_8, b136_10, b136_15, b136_20, b136_23, b136_35, b136_44, e136, wx_o92 hw, wx_k92 hw, wx_q92 hw, wx_g92_1 hw, wx_s92_1 hw, wx_N93 hw, wx_a93 hw, wx_g92_2 hw, wx_s92_2 hw, wx_N94 hw, wx_a94 hw, wx_g92_3 hw, wx_s92_3 hw, wx_N95 hw, wx_a95 hw, wx_g92_4 hw, wx_s92_4 hw, wx_N96 hw, wx_a96 hw, wx_g92_5 hw, wx_s92_5 hw, wx_N97 hw, wx_a97 hw, wx_g92_6 hw, wx_s92_6 hw, wx_N98 hw, wx_a98 hw, wx_g92_7 hw, wx_s92_7 hw, wx_N99 hw, wx_a99 hw, wx_g92_9 hw, wx_s92_9 hw, wx_N100 hw, wx_a100 hw, wx_g92_16 hw, wx_s92_16 hw, wx_N101 hw, wx_a101 hw, wx_g92_19 hw, wx_s92_19 hw, wx_N102 hw, wx_a102 hw, wx_g92_20 hw, wx_s92_20 hw, wx_N103 hw, wx_a103 hw, wx_g92_21 hw, wx_s92_21 hw, wx_N104 hw, wx_a104 hw, wx_g92_22 hw, wx_s92_22 hw, wx_N105 hw, wx_a105 hw, wx_g92_23 hw, wx_s92_23 hw, wx_N106 hw, wx_a106 hw, wx_g92_24 hw, wx_s92_24 hw, wx_N107 hw, wx_a107 hw, wx_g92_25 hw, wx_s92_25 hw, wx_N108 hw, wx_a108 hw, wx_g92_29 hw, wx_s92_29 hw, wx_N109 hw, wx_a109 hw, wx_g92_30 hw, wx_s92_30 hw, wx_N110 hw, wx_a110 hw, wx_g92_31 hw, wx_s92_31 hw, wx_N111 hw, wx_a111 hw, wx_g92_32 hw, wx_s92_32 hw, wx_N112 hw, wx_a112 hw, wx_g92_33 hw, wx_s92_33 hw, wx_N113 hw, wx_a113 hw, wx_g92_34 hw, wx_s92_34 hw, wx_N114 hw, wx_a114 hw, wx_g92_35 hw, wx_s92_35 hw, wx_N115 hw, wx_a115 hw, wx_g92_38 hw, wx_s92_38 hw, wx_N116 hw, wx_a116 hw, wx_g92_41 hw, wx_s92_41 hw, wx_N117 hw, wx_a117 hw, wx_g92_44 hw, wx_s92_44 hw, wx_N118 hw, wx_a118 hw, wx_g92_45 hw, wx_s92_45 hw, wx_N119 hw, wx_a119 hw, wx_g92_46 hw, wx_s92_46 hw, wx_N120 hw, wx_a120 hw, wx_g92_52 hw, wx_s92_52 hw, wx_N121 hw, wx_a121 hw, wx_g92_55 hw, wx_s92_55 hw, wx_N122 hw, wx_a122 hw, wx_g92_56 hw, wx_s92_56 hw, wx_N123 hw, wx_a123 hw, wx_g92_57 hw, wx_s92_57 hw, wx_N124 hw, wx_a124 hw, wx_g92_58 hw, wx_s92_58 hw, wx_N125 hw, wx_a125 hw, wx_g92_64 hw, wx_s92_64 hw, wx_N126 hw, wx_a126 hw, wx_g92_65 hw, wx_s92_65 hw, wx_N127 hw, wx_a127 hw, wx_g92_66 hw, wx_s92_66 hw, wx_N128 hw, wx_a128 hw, wx_g92_67 hw, wx_s92_67 hw, wx_N129 hw, wx_a129 hw, wx_g92_68 hw, wx_s92_68 hw, wx_N130 hw, wx_a130 hw, wx_g92_69 hw, wx_s92_69 hw, wx_N131 hw, wx_a131 hw, wx_g92_70 hw, wx_s92_70 hw, wx_N132 hw, wx_a132 hw, wx_g92_71 hw, wx_s92_71 hw, wx_N133 hw, wx_a133 hw, wx_g92_72 hw, wx_s92_72 hw, wx_N134 hw, wx_a134 hw, wx_g92_73 hw, wx_s92_73 hw, wx_N135 hw, wx_a135 hw, wx_g92_75 hw, wx_s92_75 hw, wx_N136 hw, wx_a136 hw, List.not_mem_nil, false_implies, implies_true, nI_clamp, nI_add, Nat.reducePow, hp_bd, hp_bdi, hp_ts, hp_tn, hp_tsc, hp_tnc, Nat.reduceAdd, Nat.reduceSub, Nat.reduceMul, Nat.reduceLT, Nat.reduceLeDiff, Nat.reduceEqDiff, reduceIte, not_true_eq_false, not_false_eq_true, and_true, true_and, and_self, and_false, false_and, or_true, true_or, or_false, false_or, decide_true, decide_false, Bool.and_true, Bool.true_and, Bool.not_false, Bool.or_false, Bool.false_or, Bool.or_true, Bool.true_or, hp_MuM, hp_LuL, hp_RuR, hp_McpM, hp_LcpL, hp_LuM, hp_RuM, hp_KuM, hp_NuM, hp_nuM, hp_zuM, hp_ouM, hp_auM, hp_kuM, hp_guM, hp_MuL, hp_RuL, hp_KuL, hp_NuL, hp_nuL, hp_zuL, hp_ouL, hp_auL, hp_kuL, hp_guL, hp_MuR, hp_LuR, hp_KuR, hp_NuR, hp_nuR, hp_zuR, hp_ouR, hp_auR, hp_kuR, hp_LcpM, hp_RcpM, hp_KcpM, hp_NcpM, hp_ncpM, hp_zcpM, hp_ocpM, hp_acpM, hp_kcpM, hp_gcpM, hp_McpL, hp_RcpL, hp_KcpL, hp_NcpL, hp_ncpL, hp_zcpL, hp_ocpL, hp_acpL, hp_kcpL, hp_gcpL, hp_MwM, hp_LwM, hp_RwM, hp_KwM, hp_NwM, hp_nwM, hp_zwM, hp_owM, hp_awM, hp_kwM, hp_gwM, hp_MwR, hp_LwR, hp_RwR, hp_KwR, hp_NwR, hp_nwR, hp_zwR, hp_owR, hp_awR, hp_kwR, hp_MwL, hp_LwL, hp_RwL, hp_KwL, hp_NwL, hp_nwL, hp_zwL, hp_owL, hp_awL, hp_kwL, hp_gwL, hp_w2M, hp_w2R, hp_w2L, i01, k, k130, hn, h8, cl, hbi, sb]
    · obtain ⟨h1, h2, h3, h4, h5, h6, h7, h8⟩ := hR.2.1.2.1
      refine ⟨?_, fun p hp => ?_, fun b hb => (rdn (by omega)).trans ((rdn (by omega)).trans (h3 b hb)), fun b hb => (rdn (by omega)).trans ((rdn (by omega)).trans (h4 b hb)), (rdn (by omega)).trans ((rdn (by omega)).trans h5), (rdn (by omega)).trans ((rdn (by omega)).trans h6), (rdn (by omega)).trans ((rdn (by omega)).trans h7), (rdn (by omega)).trans ((rdn (by omega)).trans h8)⟩
      · rw [rds]
        show _ = nI (ab_row (gD G) ++ [b]).length
        rw [List.length_append]; rfl
      · have hp : p < (ab_row (gD G) ++ [b]).length := hp
        rw [List.length_append] at hp
        rw [rdn (by omega), rdk]
        show _ = nI ((ab_row (gD G) ++ [b]).getD p 0)
        by_cases e : p = (ab_row (gD G)).length
        · rw [if_pos e, e, List.getD_eq_getElem?_getD, List.getElem?_append_right (Nat.le_refl _), Nat.sub_self]; rfl
        · have hp2 : p < (ab_row (gD G)).length := by
            have : [b].length = 1 := rfl
            omega
          rw [if_neg e, List.getD_eq_getElem?_getD, List.getElem?_append_left hp2, ← List.getD_eq_getElem?_getD]
          exact h2 p hp2
theorem m_6 (ok : gb_ok G) (hR : RM S G) : oM S (d + 1) 137 [.ref 92, .int x, .int y] (.int (op_6 G x y).1) (op_6 G x y).2 := by
  have hw := hR.1
  have h12 : mm_M S 92 10 = nI (ab_pr (gD G)) := hR.2.1.2.1.2.2.2.2.1
  have h13 : mm_M S 92 11 = nI (ab_lo (gD G)) := hR.2.1.2.1.2.2.2.2.2.1
  obtain ⟨d1, d2, d3, d4, d5, d6, d7, d8⟩ := hR.2.1.2.1
  have n01 : ¬ nI 0 = nI 1 := by decide
  by_cases x0 : x = nI 0
  · subst x0
    have k2 := m128s (d := d) (S := S) (n := 1) (m := 2) (j := 0) rfl (by decide) (by decide)
    by_cases ey : ab_kw 1000 y = none
    · have ky := m128n (d := d) (S := S) (n := 999) rfl (by decide) ey
      have eo : op_6 G (nI 0) y = (-2, G) := by unfold op_6; simp only [ey, if_true]
      rw [eo]
      refine oM_id hR ?_
      simp only [b137_0, b137_6, b137_9, b137_11, b137_17, b137_23, b137_28, b137_31, b137_34, b137_38, b137_45, b137_55, b137_59, b137_72, b137_76, e137, wx_o92 hw, wx_k92 hw, wx_q92 hw, wx_g92_1 hw, wx_s92_1 hw, wx_N93 hw, wx_a93 hw, wx_g92_2 hw, wx_s92_2 hw, wx_N94 hw, wx_a94 hw, wx_g92_3 hw, wx_s92_3 hw, wx_N95 hw, wx_a95 hw, wx_g92_4 hw, wx_s92_4 hw, wx_N96 hw, wx_a96 hw, wx_g92_5 hw, wx_s92_5 hw, wx_N97 hw, wx_a97 hw, wx_g92_6 hw, wx_s92_6 hw, wx_N98 hw, wx_a98 hw, wx_g92_7 hw, wx_s92_7 hw, wx_N99 hw, wx_a99 hw, wx_g92_9 hw, wx_s92_9 hw, wx_N100 hw, wx_a100 hw, wx_g92_16 hw, wx_s92_16 hw, wx_N101 hw, wx_a101 hw, wx_g92_19 hw, wx_s92_19 hw, wx_N102 hw, wx_a102 hw, wx_g92_20 hw, wx_s92_20 hw, wx_N103 hw, wx_a103 hw, wx_g92_21 hw, wx_s92_21 hw, wx_N104 hw, wx_a104 hw, wx_g92_22 hw, wx_s92_22 hw, wx_N105 hw, wx_a105 hw, wx_g92_23 hw, wx_s92_23 hw, wx_N106 hw, wx_a106 hw, wx_g92_24 hw, wx_s92_24 hw, wx_N107 hw, wx_a107 hw, wx_g92_25 hw, wx_s92_25 hw, wx_N108 hw, wx_a108 hw, wx_g92_29 hw, wx_s92_29 hw, wx_N109 hw, wx_a109 hw, wx_g92_30 hw, wx_s92_30 hw, wx_N110 hw, wx_a110 hw, wx_g92_31 hw, wx_s92_31 hw, wx_N111 hw, wx_a111 hw, wx_g92_32 hw, wx_s92_32 hw, wx_N112 hw, wx_a112 hw, wx_g92_33 hw, wx_s92_33 hw, wx_N113 hw, wx_a113 hw, wx_g92_34 hw, wx_s92_34 hw, wx_N114 hw, wx_a114 hw, wx_g92_35 hw, wx_s92_35 hw, wx_N115 hw, wx_a115 hw, wx_g92_38 hw, wx_s92_38 hw, wx_N116 hw, wx_a116 hw, wx_g92_41 hw, wx_s92_41 hw, wx_N117 hw, wx_a117 hw, wx_g92_44 hw, wx_s92_44 hw, wx_N118 hw, wx_a118 hw, wx_g92_45 hw, wx_s92_45 hw, wx_N119 hw, wx_a119 hw, wx_g92_46 hw, wx_s92_46 hw, wx_N120 hw, wx_a120 hw, wx_g92_52 hw, wx_s92_52 hw, wx_N121 hw, wx_a121 hw, wx_g92_55 hw, wx_s92_55 hw, wx_N122 hw, wx_a122 hw, wx_g92_56 hw, wx_s92_56 hw, wx_N123 hw, wx_a123 hw, wx_g92_57 hw, wx_s92_57 hw, wx_N124 hw, wx_a124 hw, wx_g92_58 hw, wx_s92_58 hw, wx_N125 hw, wx_a125 hw, wx_g92_64 hw, wx_s92_64 hw, wx_N126 hw, wx_a126 hw, wx_g92_65 hw, wx_s92_65 hw, wx_N127 hw, wx_a127 hw, wx_g92_66 hw, wx_s92_66 hw, wx_N128 hw, wx_a128 hw, wx_g92_67 hw, wx_s92_67 hw, wx_N129 hw, wx_a129 hw, wx_g92_68 hw, wx_s92_68 hw, wx_N130 hw, wx_a130 hw, wx_g92_69 hw, wx_s92_69 hw, wx_N131 hw, wx_a131 hw, wx_g92_70 hw, wx_s92_70 hw, wx_N132 hw, wx_a132 hw, wx_g92_71 hw, wx_s92_71 hw, wx_N133 hw, wx_a133 hw, wx_g92_72 hw, wx_s92_72 hw, wx_N134 hw, wx_a134 hw, wx_g92_73 hw, wx_s92_73 hw, wx_N135 hw, wx_a135 hw, wx_g92_75 hw, wx_s92_75 hw, wx_N136 hw, wx_a136 hw, List.not_mem_nil, false_implies, implies_true, nI_clamp, nI_add, Nat.reducePow, hp_bd, hp_bdi, hp_ts, hp_tn, hp_tsc, hp_tnc, Nat.reduceAdd, Nat.reduceSub, Nat.reduceMul, Nat.reduceLT, Nat.reduceLeDiff, Nat.reduceEqDiff, reduceIte, not_true_eq_false, not_false_eq_true, and_true, true_and, and_self, and_false, false_and, or_true, true_or, or_false, false_or, decide_true, decide_false, Bool.and_true, Bool.true_and, Bool.not_false, Bool.or_false, Bool.false_or, Bool.or_true, Bool.true_or, i01, k2, ky]
    rcases kw_d (n := 999) (m := 1000) rfl (by decide) y with ⟨z, -⟩ | ⟨z, -⟩ | ⟨n, hn, ey, rfl, -⟩
    · exact absurd z ey
    · exact absurd z ey
    have ky := m128s (d := d) (S := S) (n := 999) rfl (by decide) hn
    have eo : op_6 G (nI 0) (nI n) = (nI (ab_pr (gD G)), gX_D G.1 (gD_pr (gD G) n), G.2) := by unfold op_6; simp only [ey, if_true]
    have f : sf_f gm_d S (mm_uM (mm_uM S 92 10 (nI n)) 92 11 (nI (ab_lo (gD G)))) := sf_tr (sf_uM (by unfold gm_d; omega)) (sf_uM (by unfold gm_d; omega))
    rw [eo]
    refine oM_X hR (T := mm_uM (mm_uM S 92 10 (nI n)) 92 11 (nI (ab_lo (gD G)))) ?_ (gmd_now f) hw (mX_D f hR.2.1 ⟨(rdn (by omega)).trans ((rdn (by omega)).trans d1), fun p hp => (rdn (by omega)).trans ((rdn (by omega)).trans (d2 p hp)), fun p hp => (rdn (by omega)).trans ((rdn (by omega)).trans (d3 p hp)), fun p hp => (rdn (by omega)).trans ((rdn (by omega)).trans (d4 p hp)), (rdn (by omega)).trans rds, rds, (rdn (by omega)).trans ((rdn (by omega)).trans d7), (rdn (by omega)).trans ((rdn (by omega)).trans d8)⟩) rfl rfl
    simp only [b137_0, b137_6, b137_9, b137_11, b137_17, b137_23, b137_28, b137_31, b137_34, b137_38, b137_45, b137_55, b137_59, b137_72, b137_76, e137, wx_o92 hw, wx_k92 hw, wx_q92 hw, wx_g92_1 hw, wx_s92_1 hw, wx_N93 hw, wx_a93 hw, wx_g92_2 hw, wx_s92_2 hw, wx_N94 hw, wx_a94 hw, wx_g92_3 hw, wx_s92_3 hw, wx_N95 hw, wx_a95 hw, wx_g92_4 hw, wx_s92_4 hw, wx_N96 hw, wx_a96 hw, wx_g92_5 hw, wx_s92_5 hw, wx_N97 hw, wx_a97 hw, wx_g92_6 hw, wx_s92_6 hw, wx_N98 hw, wx_a98 hw, wx_g92_7 hw, wx_s92_7 hw, wx_N99 hw, wx_a99 hw, wx_g92_9 hw, wx_s92_9 hw, wx_N100 hw, wx_a100 hw, wx_g92_16 hw, wx_s92_16 hw, wx_N101 hw, wx_a101 hw, wx_g92_19 hw, wx_s92_19 hw, wx_N102 hw, wx_a102 hw, wx_g92_20 hw, wx_s92_20 hw, wx_N103 hw, wx_a103 hw, wx_g92_21 hw, wx_s92_21 hw, wx_N104 hw, wx_a104 hw, wx_g92_22 hw, wx_s92_22 hw, wx_N105 hw, wx_a105 hw, wx_g92_23 hw, wx_s92_23 hw, wx_N106 hw, wx_a106 hw, wx_g92_24 hw, wx_s92_24 hw, wx_N107 hw, wx_a107 hw, wx_g92_25 hw, wx_s92_25 hw, wx_N108 hw, wx_a108 hw, wx_g92_29 hw, wx_s92_29 hw, wx_N109 hw, wx_a109 hw, wx_g92_30 hw, wx_s92_30 hw, wx_N110 hw, wx_a110 hw, wx_g92_31 hw, wx_s92_31 hw, wx_N111 hw, wx_a111 hw, wx_g92_32 hw, wx_s92_32 hw, wx_N112 hw, wx_a112 hw, wx_g92_33 hw, wx_s92_33 hw, wx_N113 hw, wx_a113 hw, wx_g92_34 hw, wx_s92_34 hw, wx_N114 hw, wx_a114 hw, wx_g92_35 hw, wx_s92_35 hw, wx_N115 hw, wx_a115 hw, wx_g92_38 hw, wx_s92_38 hw, wx_N116 hw, wx_a116 hw, wx_g92_41 hw, wx_s92_41 hw, wx_N117 hw, wx_a117 hw, wx_g92_44 hw, wx_s92_44 hw, wx_N118 hw, wx_a118 hw, wx_g92_45 hw, wx_s92_45 hw, wx_N119 hw, wx_a119 hw, wx_g92_46 hw, wx_s92_46 hw, wx_N120 hw, wx_a120 hw, wx_g92_52 hw, wx_s92_52 hw, wx_N121 hw, wx_a121 hw, wx_g92_55 hw, wx_s92_55 hw, wx_N122 hw, wx_a122 hw, wx_g92_56 hw, wx_s92_56 hw, wx_N123 hw, wx_a123 hw, wx_g92_57 hw, wx_s92_57 hw, wx_N124 hw, wx_a124 hw, wx_g92_58 hw, wx_s92_58 hw, wx_N125 hw, wx_a125 hw, wx_g92_64 hw, wx_s92_64 hw, wx_N126 hw, wx_a126 hw, wx_g92_65 hw, wx_s92_65 hw, wx_N127 hw, wx_a127 hw, wx_g92_66 hw, wx_s92_66 hw, wx_N128 hw, wx_a128 hw, wx_g92_67 hw, wx_s92_67 hw, wx_N129 hw, wx_a129 hw, wx_g92_68 hw, wx_s92_68 hw, wx_N130 hw, wx_a130 hw, wx_g92_69 hw, wx_s92_69 hw, wx_N131 hw, wx_a131 hw, wx_g92_70 hw, wx_s92_70 hw, wx_N132 hw, wx_a132 hw, wx_g92_71 hw, wx_s92_71 hw, wx_N133 hw, wx_a133 hw, wx_g92_72 hw, wx_s92_72 hw, wx_N134 hw, wx_a134 hw, wx_g92_73 hw, wx_s92_73 hw, wx_N135 hw, wx_a135 hw, wx_g92_75 hw, wx_s92_75 hw, wx_N136 hw, wx_a136 hw, List.not_mem_nil, false_implies, implies_true, nI_clamp, nI_add, Nat.reducePow, hp_bd, hp_bdi, hp_ts, hp_tn, hp_tsc, hp_tnc, Nat.reduceAdd, Nat.reduceSub, Nat.reduceMul, Nat.reduceLT, Nat.reduceLeDiff, Nat.reduceEqDiff, reduceIte, not_true_eq_false, not_false_eq_true, and_true, true_and, and_self, and_false, false_and, or_true, true_or, or_false, false_or, decide_true, decide_false, Bool.and_true, Bool.true_and, Bool.not_false, Bool.or_false, Bool.false_or, Bool.or_true, Bool.true_or, hp_MuM, hp_LuL, hp_RuR, hp_McpM, hp_LcpL, hp_LuM, hp_RuM, hp_KuM, hp_NuM, hp_nuM, hp_zuM, hp_ouM, hp_auM, hp_kuM, hp_guM, hp_MuL, hp_RuL, hp_KuL, hp_NuL, hp_nuL, hp_zuL, hp_ouL, hp_auL, hp_kuL, hp_guL, hp_MuR, hp_LuR, hp_KuR, hp_NuR, hp_nuR, hp_zuR, hp_ouR, hp_auR, hp_kuR, hp_LcpM, hp_RcpM, hp_KcpM, hp_NcpM, hp_ncpM, hp_zcpM, hp_ocpM, hp_acpM, hp_kcpM, hp_gcpM, hp_McpL, hp_RcpL, hp_KcpL, hp_NcpL, hp_ncpL, hp_zcpL, hp_ocpL, hp_acpL, hp_kcpL, hp_gcpL, hp_MwM, hp_LwM, hp_RwM, hp_KwM, hp_NwM, hp_nwM, hp_zwM, hp_owM, hp_awM, hp_kwM, hp_gwM, hp_MwR, hp_LwR, hp_RwR, hp_KwR, hp_NwR, hp_nwR, hp_zwR, hp_owR, hp_awR, hp_kwR, hp_MwL, hp_LwL, hp_RwL, hp_KwL, hp_NwL, hp_nwL, hp_zwL, hp_owL, hp_awL, hp_kwL, hp_gwL, hp_w2M, hp_w2R, hp_w2L, i01, k2, ky, h12, h13, n01]
  by_cases x1 : x = nI 1
  · subst x1
    have k2 := m128s (d := d) (S := S) (n := 1) (m := 2) (j := 1) rfl (by decide) (by decide)
    by_cases ey : ab_kw 10 y = none
    · have ky := m128n (d := d) (S := S) (n := 9) rfl (by decide) ey
      have eo : op_6 G (nI 1) y = (-2, G) := by unfold op_6; simp only [ey, i01, if_true, if_false]
      rw [eo]
      refine oM_id hR ?_
      simp only [b137_0, b137_6, b137_9, b137_11, b137_17, b137_23, b137_28, b137_31, b137_34, b137_38, b137_45, b137_55, b137_59, b137_72, b137_76, e137, wx_o92 hw, wx_k92 hw, wx_q92 hw, wx_g92_1 hw, wx_s92_1 hw, wx_N93 hw, wx_a93 hw, wx_g92_2 hw, wx_s92_2 hw, wx_N94 hw, wx_a94 hw, wx_g92_3 hw, wx_s92_3 hw, wx_N95 hw, wx_a95 hw, wx_g92_4 hw, wx_s92_4 hw, wx_N96 hw, wx_a96 hw, wx_g92_5 hw, wx_s92_5 hw, wx_N97 hw, wx_a97 hw, wx_g92_6 hw, wx_s92_6 hw, wx_N98 hw, wx_a98 hw, wx_g92_7 hw, wx_s92_7 hw, wx_N99 hw, wx_a99 hw, wx_g92_9 hw, wx_s92_9 hw, wx_N100 hw, wx_a100 hw, wx_g92_16 hw, wx_s92_16 hw, wx_N101 hw, wx_a101 hw, wx_g92_19 hw, wx_s92_19 hw, wx_N102 hw, wx_a102 hw, wx_g92_20 hw, wx_s92_20 hw, wx_N103 hw, wx_a103 hw, wx_g92_21 hw, wx_s92_21 hw, wx_N104 hw, wx_a104 hw, wx_g92_22 hw, wx_s92_22 hw, wx_N105 hw, wx_a105 hw, wx_g92_23 hw, wx_s92_23 hw, wx_N106 hw, wx_a106 hw, wx_g92_24 hw, wx_s92_24 hw, wx_N107 hw, wx_a107 hw, wx_g92_25 hw, wx_s92_25 hw, wx_N108 hw, wx_a108 hw, wx_g92_29 hw, wx_s92_29 hw, wx_N109 hw, wx_a109 hw, wx_g92_30 hw, wx_s92_30 hw, wx_N110 hw, wx_a110 hw, wx_g92_31 hw, wx_s92_31 hw, wx_N111 hw, wx_a111 hw, wx_g92_32 hw, wx_s92_32 hw, wx_N112 hw, wx_a112 hw, wx_g92_33 hw, wx_s92_33 hw, wx_N113 hw, wx_a113 hw, wx_g92_34 hw, wx_s92_34 hw, wx_N114 hw, wx_a114 hw, wx_g92_35 hw, wx_s92_35 hw, wx_N115 hw, wx_a115 hw, wx_g92_38 hw, wx_s92_38 hw, wx_N116 hw, wx_a116 hw, wx_g92_41 hw, wx_s92_41 hw, wx_N117 hw, wx_a117 hw, wx_g92_44 hw, wx_s92_44 hw, wx_N118 hw, wx_a118 hw, wx_g92_45 hw, wx_s92_45 hw, wx_N119 hw, wx_a119 hw, wx_g92_46 hw, wx_s92_46 hw, wx_N120 hw, wx_a120 hw, wx_g92_52 hw, wx_s92_52 hw, wx_N121 hw, wx_a121 hw, wx_g92_55 hw, wx_s92_55 hw, wx_N122 hw, wx_a122 hw, wx_g92_56 hw, wx_s92_56 hw, wx_N123 hw, wx_a123 hw, wx_g92_57 hw, wx_s92_57 hw, wx_N124 hw, wx_a124 hw, wx_g92_58 hw, wx_s92_58 hw, wx_N125 hw, wx_a125 hw, wx_g92_64 hw, wx_s92_64 hw, wx_N126 hw, wx_a126 hw, wx_g92_65 hw, wx_s92_65 hw, wx_N127 hw, wx_a127 hw, wx_g92_66 hw, wx_s92_66 hw, wx_N128 hw, wx_a128 hw, wx_g92_67 hw, wx_s92_67 hw, wx_N129 hw, wx_a129 hw, wx_g92_68 hw, wx_s92_68 hw, wx_N130 hw, wx_a130 hw, wx_g92_69 hw, wx_s92_69 hw, wx_N131 hw, wx_a131 hw, wx_g92_70 hw, wx_s92_70 hw, wx_N132 hw, wx_a132 hw, wx_g92_71 hw, wx_s92_71 hw, wx_N133 hw, wx_a133 hw, wx_g92_72 hw, wx_s92_72 hw, wx_N134 hw, wx_a134 hw, wx_g92_73 hw, wx_s92_73 hw, wx_N135 hw, wx_a135 hw, wx_g92_75 hw, wx_s92_75 hw, wx_N136 hw, wx_a136 hw, List.not_mem_nil, false_implies, implies_true, nI_clamp, nI_add, Nat.reducePow, hp_bd, hp_bdi, hp_ts, hp_tn, hp_tsc, hp_tnc, Nat.reduceAdd, Nat.reduceSub, Nat.reduceMul, Nat.reduceLT, Nat.reduceLeDiff, Nat.reduceEqDiff, reduceIte, not_true_eq_false, not_false_eq_true, and_true, true_and, and_self, and_false, false_and, or_true, true_or, or_false, false_or, decide_true, decide_false, Bool.and_true, Bool.true_and, Bool.not_false, Bool.or_false, Bool.false_or, Bool.or_true, Bool.true_or, i01, k2, ky]
    rcases kw_d (n := 9) (m := 10) rfl (by decide) y with ⟨z, -⟩ | ⟨z, -⟩ | ⟨n, hn, ey, rfl, -⟩
    · exact absurd z ey
    · exact absurd z ey
    have ky := m128s (d := d) (S := S) (n := 9) rfl (by decide) hn
    have eo : op_6 G (nI 1) (nI n) = (nI (ab_lo (gD G)), gX_D G.1 (gD_lo (gD G) n), G.2) := by unfold op_6; simp only [ey, i01, if_true, if_false]
    have f : sf_f gm_d S (mm_uM (mm_uM S 92 10 (nI (ab_pr (gD G)))) 92 11 (nI n)) := sf_tr (sf_uM (by unfold gm_d; omega)) (sf_uM (by unfold gm_d; omega))
    rw [eo]
    refine oM_X hR (T := mm_uM (mm_uM S 92 10 (nI (ab_pr (gD G)))) 92 11 (nI n)) ?_ (gmd_now f) hw (mX_D f hR.2.1 ⟨(rdn (by omega)).trans ((rdn (by omega)).trans d1), fun p hp => (rdn (by omega)).trans ((rdn (by omega)).trans (d2 p hp)), fun p hp => (rdn (by omega)).trans ((rdn (by omega)).trans (d3 p hp)), fun p hp => (rdn (by omega)).trans ((rdn (by omega)).trans (d4 p hp)), (rdn (by omega)).trans rds, rds, (rdn (by omega)).trans ((rdn (by omega)).trans d7), (rdn (by omega)).trans ((rdn (by omega)).trans d8)⟩) rfl rfl
    simp only [b137_0, b137_6, b137_9, b137_11, b137_17, b137_23, b137_28, b137_31, b137_34, b137_38, b137_45, b137_55, b137_59, b137_72, b137_76, e137, wx_o92 hw, wx_k92 hw, wx_q92 hw, wx_g92_1 hw, wx_s92_1 hw, wx_N93 hw, wx_a93 hw, wx_g92_2 hw, wx_s92_2 hw, wx_N94 hw, wx_a94 hw, wx_g92_3 hw, wx_s92_3 hw, wx_N95 hw, wx_a95 hw, wx_g92_4 hw, wx_s92_4 hw, wx_N96 hw, wx_a96 hw, wx_g92_5 hw, wx_s92_5 hw, wx_N97 hw, wx_a97 hw, wx_g92_6 hw, wx_s92_6 hw, wx_N98 hw, wx_a98 hw, wx_g92_7 hw, wx_s92_7 hw, wx_N99 hw, wx_a99 hw, wx_g92_9 hw, wx_s92_9 hw, wx_N100 hw, wx_a100 hw, wx_g92_16 hw, wx_s92_16 hw, wx_N101 hw, wx_a101 hw, wx_g92_19 hw, wx_s92_19 hw, wx_N102 hw, wx_a102 hw, wx_g92_20 hw, wx_s92_20 hw, wx_N103 hw, wx_a103 hw, wx_g92_21 hw, wx_s92_21 hw, wx_N104 hw, wx_a104 hw, wx_g92_22 hw, wx_s92_22 hw, wx_N105 hw, wx_a105 hw, wx_g92_23 hw, wx_s92_23 hw, wx_N106 hw, wx_a106 hw, wx_g92_24 hw, wx_s92_24 hw, wx_N107 hw, wx_a107 hw, wx_g92_25 hw, wx_s92_25 hw, wx_N108 hw, wx_a108 hw, wx_g92_29 hw, wx_s92_29 hw, wx_N109 hw, wx_a109 hw, wx_g92_30 hw, wx_s92_30 hw, wx_N110 hw, wx_a110 hw, wx_g92_31 hw, wx_s92_31 hw, wx_N111 hw, wx_a111 hw, wx_g92_32 hw, wx_s92_32 hw, wx_N112 hw, wx_a112 hw, wx_g92_33 hw, wx_s92_33 hw, wx_N113 hw, wx_a113 hw, wx_g92_34 hw, wx_s92_34 hw, wx_N114 hw, wx_a114 hw, wx_g92_35 hw, wx_s92_35 hw, wx_N115 hw, wx_a115 hw, wx_g92_38 hw, wx_s92_38 hw, wx_N116 hw, wx_a116 hw, wx_g92_41 hw, wx_s92_41 hw, wx_N117 hw, wx_a117 hw, wx_g92_44 hw, wx_s92_44 hw, wx_N118 hw, wx_a118 hw, wx_g92_45 hw, wx_s92_45 hw, wx_N119 hw, wx_a119 hw, wx_g92_46 hw, wx_s92_46 hw, wx_N120 hw, wx_a120 hw, wx_g92_52 hw, wx_s92_52 hw, wx_N121 hw, wx_a121 hw, wx_g92_55 hw, wx_s92_55 hw, wx_N122 hw, wx_a122 hw, wx_g92_56 hw, wx_s92_56 hw, wx_N123 hw, wx_a123 hw, wx_g92_57 hw, wx_s92_57 hw, wx_N124 hw, wx_a124 hw, wx_g92_58 hw, wx_s92_58 hw, wx_N125 hw, wx_a125 hw, wx_g92_64 hw, wx_s92_64 hw, wx_N126 hw, wx_a126 hw, wx_g92_65 hw, wx_s92_65 hw, wx_N127 hw, wx_a127 hw, wx_g92_66 hw, wx_s92_66 hw, wx_N128 hw, wx_a128 hw, wx_g92_67 hw, wx_s92_67 hw, wx_N129 hw, wx_a129 hw, wx_g92_68 hw, wx_s92_68 hw, wx_N130 hw, wx_a130 hw, wx_g92_69 hw, wx_s92_69 hw, wx_N131 hw, wx_a131 hw, wx_g92_70 hw, wx_s92_70 hw, wx_N132 hw, wx_a132 hw, wx_g92_71 hw, wx_s92_71 hw, wx_N133 hw, wx_a133 hw, wx_g92_72 hw, wx_s92_72 hw, wx_N134 hw, wx_a134 hw, wx_g92_73 hw, wx_s92_73 hw, wx_N135 hw, wx_a135 hw, wx_g92_75 hw, wx_s92_75 hw, wx_N136 hw, wx_a136 hw, List.not_mem_nil, false_implies, implies_true, nI_clamp, nI_add, Nat.reducePow, hp_bd, hp_bdi, hp_ts, hp_tn, hp_tsc, hp_tnc, Nat.reduceAdd, Nat.reduceSub, Nat.reduceMul, Nat.reduceLT, Nat.reduceLeDiff, Nat.reduceEqDiff, reduceIte, not_true_eq_false, not_false_eq_true, and_true, true_and, and_self, and_false, false_and, or_true, true_or, or_false, false_or, decide_true, decide_false, Bool.and_true, Bool.true_and, Bool.not_false, Bool.or_false, Bool.false_or, Bool.or_true, Bool.true_or, hp_MuM, hp_LuL, hp_RuR, hp_McpM, hp_LcpL, hp_LuM, hp_RuM, hp_KuM, hp_NuM, hp_nuM, hp_zuM, hp_ouM, hp_auM, hp_kuM, hp_guM, hp_MuL, hp_RuL, hp_KuL, hp_NuL, hp_nuL, hp_zuL, hp_ouL, hp_auL, hp_kuL, hp_guL, hp_MuR, hp_LuR, hp_KuR, hp_NuR, hp_nuR, hp_zuR, hp_ouR, hp_auR, hp_kuR, hp_LcpM, hp_RcpM, hp_KcpM, hp_NcpM, hp_ncpM, hp_zcpM, hp_ocpM, hp_acpM, hp_kcpM, hp_gcpM, hp_McpL, hp_RcpL, hp_KcpL, hp_NcpL, hp_ncpL, hp_zcpL, hp_ocpL, hp_acpL, hp_kcpL, hp_gcpL, hp_MwM, hp_LwM, hp_RwM, hp_KwM, hp_NwM, hp_nwM, hp_zwM, hp_owM, hp_awM, hp_kwM, hp_gwM, hp_MwR, hp_LwR, hp_RwR, hp_KwR, hp_NwR, hp_nwR, hp_zwR, hp_owR, hp_awR, hp_kwR, hp_MwL, hp_LwL, hp_RwL, hp_KwL, hp_NwL, hp_nwL, hp_zwL, hp_owL, hp_awL, hp_kwL, hp_gwL, hp_w2M, hp_w2R, hp_w2L, i01, k2, ky, h12, h13]
  have eo : op_6 G x y = (-1, G) := by unfold op_6; simp only [x0, x1, if_false]
  have ex : ab_kw 2 x = none := by
    rcases kw_d (n := 1) (m := 2) rfl (by decide) x with ⟨z, -⟩ | ⟨z, -⟩ | ⟨n, hn, z, e, -⟩
    · exact z
    · exact z
    · rcases (by omega : n = 0 ∨ n = 1) with rfl | rfl
      · exact absurd e x0
      · exact absurd e x1
  have k2 := m128n (d := d) (S := S) (n := 1) (m := 2) rfl (by decide) ex
  rw [eo]
  refine oM_id hR ?_
  simp only [b137_0, b137_6, b137_9, b137_11, b137_17, b137_23, b137_28, b137_31, b137_34, b137_38, b137_45, b137_55, b137_59, b137_72, b137_76, e137, wx_o92 hw, wx_k92 hw, wx_q92 hw, wx_g92_1 hw, wx_s92_1 hw, wx_N93 hw, wx_a93 hw, wx_g92_2 hw, wx_s92_2 hw, wx_N94 hw, wx_a94 hw, wx_g92_3 hw, wx_s92_3 hw, wx_N95 hw, wx_a95 hw, wx_g92_4 hw, wx_s92_4 hw, wx_N96 hw, wx_a96 hw, wx_g92_5 hw, wx_s92_5 hw, wx_N97 hw, wx_a97 hw, wx_g92_6 hw, wx_s92_6 hw, wx_N98 hw, wx_a98 hw, wx_g92_7 hw, wx_s92_7 hw, wx_N99 hw, wx_a99 hw, wx_g92_9 hw, wx_s92_9 hw, wx_N100 hw, wx_a100 hw, wx_g92_16 hw, wx_s92_16 hw, wx_N101 hw, wx_a101 hw, wx_g92_19 hw, wx_s92_19 hw, wx_N102 hw, wx_a102 hw, wx_g92_20 hw, wx_s92_20 hw, wx_N103 hw, wx_a103 hw, wx_g92_21 hw, wx_s92_21 hw, wx_N104 hw, wx_a104 hw, wx_g92_22 hw, wx_s92_22 hw, wx_N105 hw, wx_a105 hw, wx_g92_23 hw, wx_s92_23 hw, wx_N106 hw, wx_a106 hw, wx_g92_24 hw, wx_s92_24 hw, wx_N107 hw, wx_a107 hw, wx_g92_25 hw, wx_s92_25 hw, wx_N108 hw, wx_a108 hw, wx_g92_29 hw, wx_s92_29 hw, wx_N109 hw, wx_a109 hw, wx_g92_30 hw, wx_s92_30 hw, wx_N110 hw, wx_a110 hw, wx_g92_31 hw, wx_s92_31 hw, wx_N111 hw, wx_a111 hw, wx_g92_32 hw, wx_s92_32 hw, wx_N112 hw, wx_a112 hw, wx_g92_33 hw, wx_s92_33 hw, wx_N113 hw, wx_a113 hw, wx_g92_34 hw, wx_s92_34 hw, wx_N114 hw, wx_a114 hw, wx_g92_35 hw, wx_s92_35 hw, wx_N115 hw, wx_a115 hw, wx_g92_38 hw, wx_s92_38 hw, wx_N116 hw, wx_a116 hw, wx_g92_41 hw, wx_s92_41 hw, wx_N117 hw, wx_a117 hw, wx_g92_44 hw, wx_s92_44 hw, wx_N118 hw, wx_a118 hw, wx_g92_45 hw, wx_s92_45 hw, wx_N119 hw, wx_a119 hw, wx_g92_46 hw, wx_s92_46 hw, wx_N120 hw, wx_a120 hw, wx_g92_52 hw, wx_s92_52 hw, wx_N121 hw, wx_a121 hw, wx_g92_55 hw, wx_s92_55 hw, wx_N122 hw, wx_a122 hw, wx_g92_56 hw, wx_s92_56 hw, wx_N123 hw, wx_a123 hw, wx_g92_57 hw, wx_s92_57 hw, wx_N124 hw, wx_a124 hw, wx_g92_58 hw, wx_s92_58 hw, wx_N125 hw, wx_a125 hw, wx_g92_64 hw, wx_s92_64 hw, wx_N126 hw, wx_a126 hw, wx_g92_65 hw, wx_s92_65 hw, wx_N127 hw, wx_a127 hw, wx_g92_66 hw, wx_s92_66 hw, wx_N128 hw, wx_a128 hw, wx_g92_67 hw, wx_s92_67 hw, wx_N129 hw, wx_a129 hw, wx_g92_68 hw, wx_s92_68 hw, wx_N130 hw, wx_a130 hw, wx_g92_69 hw, wx_s92_69 hw, wx_N131 hw, wx_a131 hw, wx_g92_70 hw, wx_s92_70 hw, wx_N132 hw, wx_a132 hw, wx_g92_71 hw, wx_s92_71 hw, wx_N133 hw, wx_a133 hw, wx_g92_72 hw, wx_s92_72 hw, wx_N134 hw, wx_a134 hw, wx_g92_73 hw, wx_s92_73 hw, wx_N135 hw, wx_a135 hw, wx_g92_75 hw, wx_s92_75 hw, wx_N136 hw, wx_a136 hw, List.not_mem_nil, false_implies, implies_true, nI_clamp, nI_add, Nat.reducePow, hp_bd, hp_bdi, hp_ts, hp_tn, hp_tsc, hp_tnc, Nat.reduceAdd, Nat.reduceSub, Nat.reduceMul, Nat.reduceLT, Nat.reduceLeDiff, Nat.reduceEqDiff, reduceIte, not_true_eq_false, not_false_eq_true, and_true, true_and, and_self, and_false, false_and, or_true, true_or, or_false, false_or, decide_true, decide_false, Bool.and_true, Bool.true_and, Bool.not_false, Bool.or_false, Bool.false_or, Bool.or_true, Bool.true_or, i01, k2]
theorem RM_t {l : List Nat} {F : Nat → Nat → Prop} (h : sf_f F S T) (hF : ∀ c j, F c j → (c = 92 ∧ j = 26) ∨ c = 108) (hw : mm_W T) (ok : gb_ok G) (hR : RM S G) (ht : gm_t T l) : RM T (gS_t G l) := by
  obtain ⟨-, h1, h2, h3, h4, h5, h6, h7⟩ := hR
  have g : ∀ c j, ¬ ((c = 92 ∧ j = 26) ∨ c = 108) → mm_M T c j = mm_M S c j := fun c j q => (h.1 c j (fun e => q (hF c j e))).1
  exact ⟨hw, mt_X ok.1.1.1 (row_le ok.1.1 ok.1.2.1) (fun c j q => g c j (by unfold nX at q; omega)) h1, mt_i (fun c j q => g c j (by omega)) h2, mt_s (fun c j q => g c j (by omega)) h3, ht, mt_p (fun c j q => g c j (by omega)) (fun j => (h.1 112 j (fun e => by have := hF _ _ e; omega)).2.1) h5, mt_r (fun c j q => g c j (by omega)) h6, mt_c (fun c j q => g c j (by omega)) h7⟩
theorem m_7 (ok : gb_ok G) (hR : RM S G) : oM S (d + 1) 138 [.ref 92, .int x] (.int (op_7 G x).1) (op_7 G x).2 := by
  have hw := hR.1
  have hl := ok.2.2.2.2.1
  obtain ⟨ht, ht2⟩ := hR.2.2.2.2.1
  by_cases ex : ab_kw 128 x = none
  · have kx := m128n (d := d) (S := S) (n := 127) rfl (by decide) ex
    have eo : op_7 G x = (-2, G) := by unfold op_7; simp only [ex]
    rw [eo]
    refine oM_id hR ?_
    simp only [b138_0, b138_7, b138_10, b138_13, b138_22, b138_25, b138_37, b138_46, e138, wx_o92 hw, wx_k92 hw, wx_q92 hw, wx_g92_1 hw, wx_s92_1 hw, wx_N93 hw, wx_a93 hw, wx_g92_2 hw, wx_s92_2 hw, wx_N94 hw, wx_a94 hw, wx_g92_3 hw, wx_s92_3 hw, wx_N95 hw, wx_a95 hw, wx_g92_4 hw, wx_s92_4 hw, wx_N96 hw, wx_a96 hw, wx_g92_5 hw, wx_s92_5 hw, wx_N97 hw, wx_a97 hw, wx_g92_6 hw, wx_s92_6 hw, wx_N98 hw, wx_a98 hw, wx_g92_7 hw, wx_s92_7 hw, wx_N99 hw, wx_a99 hw, wx_g92_9 hw, wx_s92_9 hw, wx_N100 hw, wx_a100 hw, wx_g92_16 hw, wx_s92_16 hw, wx_N101 hw, wx_a101 hw, wx_g92_19 hw, wx_s92_19 hw, wx_N102 hw, wx_a102 hw, wx_g92_20 hw, wx_s92_20 hw, wx_N103 hw, wx_a103 hw, wx_g92_21 hw, wx_s92_21 hw, wx_N104 hw, wx_a104 hw, wx_g92_22 hw, wx_s92_22 hw, wx_N105 hw, wx_a105 hw, wx_g92_23 hw, wx_s92_23 hw, wx_N106 hw, wx_a106 hw, wx_g92_24 hw, wx_s92_24 hw, wx_N107 hw, wx_a107 hw, wx_g92_25 hw, wx_s92_25 hw, wx_N108 hw, wx_a108 hw, wx_g92_29 hw, wx_s92_29 hw, wx_N109 hw, wx_a109 hw, wx_g92_30 hw, wx_s92_30 hw, wx_N110 hw, wx_a110 hw, wx_g92_31 hw, wx_s92_31 hw, wx_N111 hw, wx_a111 hw, wx_g92_32 hw, wx_s92_32 hw, wx_N112 hw, wx_a112 hw, wx_g92_33 hw, wx_s92_33 hw, wx_N113 hw, wx_a113 hw, wx_g92_34 hw, wx_s92_34 hw, wx_N114 hw, wx_a114 hw, wx_g92_35 hw, wx_s92_35 hw, wx_N115 hw, wx_a115 hw, wx_g92_38 hw, wx_s92_38 hw, wx_N116 hw, wx_a116 hw, wx_g92_41 hw, wx_s92_41 hw, wx_N117 hw, wx_a117 hw, wx_g92_44 hw, wx_s92_44 hw, wx_N118 hw, wx_a118 hw, wx_g92_45 hw, wx_s92_45 hw, wx_N119 hw, wx_a119 hw, wx_g92_46 hw, wx_s92_46 hw, wx_N120 hw, wx_a120 hw, wx_g92_52 hw, wx_s92_52 hw, wx_N121 hw, wx_a121 hw, wx_g92_55 hw, wx_s92_55 hw, wx_N122 hw, wx_a122 hw, wx_g92_56 hw, wx_s92_56 hw, wx_N123 hw, wx_a123 hw, wx_g92_57 hw, wx_s92_57 hw, wx_N124 hw, wx_a124 hw, wx_g92_58 hw, wx_s92_58 hw, wx_N125 hw, wx_a125 hw, wx_g92_64 hw, wx_s92_64 hw, wx_N126 hw, wx_a126 hw, wx_g92_65 hw, wx_s92_65 hw, wx_N127 hw, wx_a127 hw, wx_g92_66 hw, wx_s92_66 hw, wx_N128 hw, wx_a128 hw, wx_g92_67 hw, wx_s92_67 hw, wx_N129 hw, wx_a129 hw, wx_g92_68 hw, wx_s92_68 hw, wx_N130 hw, wx_a130 hw, wx_g92_69 hw, wx_s92_69 hw, wx_N131 hw, wx_a131 hw, wx_g92_70 hw, wx_s92_70 hw, wx_N132 hw, wx_a132 hw, wx_g92_71 hw, wx_s92_71 hw, wx_N133 hw, wx_a133 hw, wx_g92_72 hw, wx_s92_72 hw, wx_N134 hw, wx_a134 hw, wx_g92_73 hw, wx_s92_73 hw, wx_N135 hw, wx_a135 hw, wx_g92_75 hw, wx_s92_75 hw, wx_N136 hw, wx_a136 hw, List.not_mem_nil, false_implies, implies_true, nI_clamp, nI_add, Nat.reducePow, hp_bd, hp_bdi, hp_ts, hp_tn, hp_tsc, hp_tnc, Nat.reduceAdd, Nat.reduceSub, Nat.reduceMul, Nat.reduceLT, Nat.reduceLeDiff, Nat.reduceEqDiff, reduceIte, not_true_eq_false, not_false_eq_true, and_true, true_and, and_self, and_false, false_and, or_true, true_or, or_false, false_or, decide_true, decide_false, Bool.and_true, Bool.true_and, Bool.not_false, Bool.or_false, Bool.false_or, Bool.or_true, Bool.true_or, i01, kx]
  rcases kw_d (n := 127) (m := 128) rfl (by decide) x with ⟨z, -⟩ | ⟨z, -⟩ | ⟨n, hn, ex, rfl, -⟩
  · exact absurd z ex
  · exact absurd z ex
  have kx := m128s (d := d) (S := S) (n := 127) rfl (by decide) hn
  have e1 : (nI (gb_t G).length = nI 100) = ((gb_t G).length = 100) := propext (nI_eq (by omega) (by decide))
  by_cases hf : (gb_t G).length = 100
  · have eo : op_7 G (nI n) = (-4, G) := by unfold op_7; simp only [ex, hf, if_true]
    rw [eo]
    refine oM_id hR ?_
    simp only [b138_0, b138_7, b138_10, b138_13, b138_22, b138_25, b138_37, b138_46, e138, wx_o92 hw, wx_k92 hw, wx_q92 hw, wx_g92_1 hw, wx_s92_1 hw, wx_N93 hw, wx_a93 hw, wx_g92_2 hw, wx_s92_2 hw, wx_N94 hw, wx_a94 hw, wx_g92_3 hw, wx_s92_3 hw, wx_N95 hw, wx_a95 hw, wx_g92_4 hw, wx_s92_4 hw, wx_N96 hw, wx_a96 hw, wx_g92_5 hw, wx_s92_5 hw, wx_N97 hw, wx_a97 hw, wx_g92_6 hw, wx_s92_6 hw, wx_N98 hw, wx_a98 hw, wx_g92_7 hw, wx_s92_7 hw, wx_N99 hw, wx_a99 hw, wx_g92_9 hw, wx_s92_9 hw, wx_N100 hw, wx_a100 hw, wx_g92_16 hw, wx_s92_16 hw, wx_N101 hw, wx_a101 hw, wx_g92_19 hw, wx_s92_19 hw, wx_N102 hw, wx_a102 hw, wx_g92_20 hw, wx_s92_20 hw, wx_N103 hw, wx_a103 hw, wx_g92_21 hw, wx_s92_21 hw, wx_N104 hw, wx_a104 hw, wx_g92_22 hw, wx_s92_22 hw, wx_N105 hw, wx_a105 hw, wx_g92_23 hw, wx_s92_23 hw, wx_N106 hw, wx_a106 hw, wx_g92_24 hw, wx_s92_24 hw, wx_N107 hw, wx_a107 hw, wx_g92_25 hw, wx_s92_25 hw, wx_N108 hw, wx_a108 hw, wx_g92_29 hw, wx_s92_29 hw, wx_N109 hw, wx_a109 hw, wx_g92_30 hw, wx_s92_30 hw, wx_N110 hw, wx_a110 hw, wx_g92_31 hw, wx_s92_31 hw, wx_N111 hw, wx_a111 hw, wx_g92_32 hw, wx_s92_32 hw, wx_N112 hw, wx_a112 hw, wx_g92_33 hw, wx_s92_33 hw, wx_N113 hw, wx_a113 hw, wx_g92_34 hw, wx_s92_34 hw, wx_N114 hw, wx_a114 hw, wx_g92_35 hw, wx_s92_35 hw, wx_N115 hw, wx_a115 hw, wx_g92_38 hw, wx_s92_38 hw, wx_N116 hw, wx_a116 hw, wx_g92_41 hw, wx_s92_41 hw, wx_N117 hw, wx_a117 hw, wx_g92_44 hw, wx_s92_44 hw, wx_N118 hw, wx_a118 hw, wx_g92_45 hw, wx_s92_45 hw, wx_N119 hw, wx_a119 hw, wx_g92_46 hw, wx_s92_46 hw, wx_N120 hw, wx_a120 hw, wx_g92_52 hw, wx_s92_52 hw, wx_N121 hw, wx_a121 hw, wx_g92_55 hw, wx_s92_55 hw, wx_N122 hw, wx_a122 hw, wx_g92_56 hw, wx_s92_56 hw, wx_N123 hw, wx_a123 hw, wx_g92_57 hw, wx_s92_57 hw, wx_N124 hw, wx_a124 hw, wx_g92_58 hw, wx_s92_58 hw, wx_N125 hw, wx_a125 hw, wx_g92_64 hw, wx_s92_64 hw, wx_N126 hw, wx_a126 hw, wx_g92_65 hw, wx_s92_65 hw, wx_N127 hw, wx_a127 hw, wx_g92_66 hw, wx_s92_66 hw, wx_N128 hw, wx_a128 hw, wx_g92_67 hw, wx_s92_67 hw, wx_N129 hw, wx_a129 hw, wx_g92_68 hw, wx_s92_68 hw, wx_N130 hw, wx_a130 hw, wx_g92_69 hw, wx_s92_69 hw, wx_N131 hw, wx_a131 hw, wx_g92_70 hw, wx_s92_70 hw, wx_N132 hw, wx_a132 hw, wx_g92_71 hw, wx_s92_71 hw, wx_N133 hw, wx_a133 hw, wx_g92_72 hw, wx_s92_72 hw, wx_N134 hw, wx_a134 hw, wx_g92_73 hw, wx_s92_73 hw, wx_N135 hw, wx_a135 hw, wx_g92_75 hw, wx_s92_75 hw, wx_N136 hw, wx_a136 hw, List.not_mem_nil, false_implies, implies_true, nI_clamp, nI_add, Nat.reducePow, hp_bd, hp_bdi, hp_ts, hp_tn, hp_tsc, hp_tnc, Nat.reduceAdd, Nat.reduceSub, Nat.reduceMul, Nat.reduceLT, Nat.reduceLeDiff, Nat.reduceEqDiff, reduceIte, not_true_eq_false, not_false_eq_true, and_true, true_and, and_self, and_false, false_and, or_true, true_or, or_false, false_or, decide_true, decide_false, Bool.and_true, Bool.true_and, Bool.not_false, Bool.or_false, Bool.false_or, Bool.or_true, Bool.true_or, i01, kx, ht, e1, hf]
  · have eo : op_7 G (nI n) = (nI ((gb_t G).length + 1), gS_t G (gb_t G ++ [n])) := by unfold op_7; simp only [ex, hf, if_false]
    have cl : (nI (gb_t G).length).toNatClampNeg = (gb_t G).length := nI_clamp (by omega)
    have hbi : mm_inb (nI (gb_t G).length) 100 = true := hp_inb (by omega) (by omega)
    have fT : sf_f (fun c j => (c = 92 ∧ j = 26) ∨ c = 108) S (mm_uM (mm_uM S 108 (gb_t G).length (nI n)) 92 26 (nI ((gb_t G).length + 1))) := sf_tr (sf_uM (Or.inr rfl)) (sf_uM (Or.inl ⟨rfl, rfl⟩))
    rw [eo]
    refine ⟨mm_uM (mm_uM S 108 (gb_t G).length (nI n)) 92 26 (nI ((gb_t G).length + 1)), ?_, RM_t fT (fun c j h => h) hw ok hR ⟨?_, fun i hi => ?_⟩, sf_mo fT (fun c j (h : (c = 92 ∧ j = 26) ∨ c = 108) => by unfold gm_0; omega), rfl, rfl⟩
    · simp only [b138_0, b138_7, b138_10, b138_13, b138_22, b138_25, b138_37, b138_46, e138, wx_o92 hw, wx_k92 hw, wx_q92 hw, wx_g92_1 hw, wx_s92_1 hw, wx_N93 hw, wx_a93 hw, wx_g92_2 hw, wx_s92_2 hw, wx_N94 hw, wx_a94 hw, wx_g92_3 hw, wx_s92_3 hw, wx_N95 hw, wx_a95 hw, wx_g92_4 hw, wx_s92_4 hw, wx_N96 hw, wx_a96 hw, wx_g92_5 hw, wx_s92_5 hw, wx_N97 hw, wx_a97 hw, wx_g92_6 hw, wx_s92_6 hw, wx_N98 hw, wx_a98 hw, wx_g92_7 hw, wx_s92_7 hw, wx_N99 hw, wx_a99 hw, wx_g92_9 hw, wx_s92_9 hw, wx_N100 hw, wx_a100 hw, wx_g92_16 hw, wx_s92_16 hw, wx_N101 hw, wx_a101 hw, wx_g92_19 hw, wx_s92_19 hw, wx_N102 hw, wx_a102 hw, wx_g92_20 hw, wx_s92_20 hw, wx_N103 hw, wx_a103 hw, wx_g92_21 hw, wx_s92_21 hw, wx_N104 hw, wx_a104 hw, wx_g92_22 hw, wx_s92_22 hw, wx_N105 hw, wx_a105 hw, wx_g92_23 hw, wx_s92_23 hw, wx_N106 hw, wx_a106 hw, wx_g92_24 hw, wx_s92_24 hw, wx_N107 hw, wx_a107 hw, wx_g92_25 hw, wx_s92_25 hw, wx_N108 hw, wx_a108 hw, wx_g92_29 hw, wx_s92_29 hw, wx_N109 hw, wx_a109 hw, wx_g92_30 hw, wx_s92_30 hw, wx_N110 hw, wx_a110 hw, wx_g92_31 hw, wx_s92_31 hw, wx_N111 hw, wx_a111 hw, wx_g92_32 hw, wx_s92_32 hw, wx_N112 hw, wx_a112 hw, wx_g92_33 hw, wx_s92_33 hw, wx_N113 hw, wx_a113 hw, wx_g92_34 hw, wx_s92_34 hw, wx_N114 hw, wx_a114 hw, wx_g92_35 hw, wx_s92_35 hw, wx_N115 hw, wx_a115 hw, wx_g92_38 hw, wx_s92_38 hw, wx_N116 hw, wx_a116 hw, wx_g92_41 hw, wx_s92_41 hw, wx_N117 hw, wx_a117 hw, wx_g92_44 hw, wx_s92_44 hw, wx_N118 hw, wx_a118 hw, wx_g92_45 hw, wx_s92_45 hw, wx_N119 hw, wx_a119 hw, wx_g92_46 hw, wx_s92_46 hw, wx_N120 hw, wx_a120 hw, wx_g92_52 hw, wx_s92_52 hw, wx_N121 hw, wx_a121 hw, wx_g92_55 hw, wx_s92_55 hw, wx_N122 hw, wx_a122 hw, wx_g92_56 hw, wx_s92_56 hw, wx_N123 hw, wx_a123 hw, wx_g92_57 hw, wx_s92_57 hw, wx_N124 hw, wx_a124 hw, wx_g92_58 hw, wx_s92_58 hw, wx_N125 hw, wx_a125 hw, wx_g92_64 hw, wx_s92_64 hw, wx_N126 hw, wx_a126 hw, wx_g92_65 hw, wx_s92_65 hw, wx_N127 hw, wx_a127 hw, wx_g92_66 hw, wx_s92_66 hw, wx_N128 hw, wx_a128 hw, wx_g92_67 hw, wx_s92_67 hw, wx_N129 hw, wx_a129 hw, wx_g92_68 hw, wx_s92_68 hw, wx_N130 hw, wx_a130 hw, wx_g92_69 hw, wx_s92_69 hw, wx_N131 hw, wx_a131 hw, wx_g92_70 hw, wx_s92_70 hw, wx_N132 hw, wx_a132 hw, wx_g92_71 hw, wx_s92_71 hw, wx_N133 hw, wx_a133 hw, wx_g92_72 hw, wx_s92_72 hw, wx_N134 hw, wx_a134 hw, wx_g92_73 hw, wx_s92_73 hw, wx_N135 hw, wx_a135 hw, wx_g92_75 hw, wx_s92_75 hw, wx_N136 hw, wx_a136 hw, List.not_mem_nil, false_implies, implies_true, nI_clamp, nI_add, Nat.reducePow, hp_bd, hp_bdi, hp_ts, hp_tn, hp_tsc, hp_tnc, Nat.reduceAdd, Nat.reduceSub, Nat.reduceMul, Nat.reduceLT, Nat.reduceLeDiff, Nat.reduceEqDiff, reduceIte, not_true_eq_false, not_false_eq_true, and_true, true_and, and_self, and_false, false_and, or_true, true_or, or_false, false_or, decide_true, decide_false, Bool.and_true, Bool.true_and, Bool.not_false, Bool.or_false, Bool.false_or, Bool.or_true, Bool.true_or, hp_MuM, hp_LuL, hp_RuR, hp_McpM, hp_LcpL, hp_LuM, hp_RuM, hp_KuM, hp_NuM, hp_nuM, hp_zuM, hp_ouM, hp_auM, hp_kuM, hp_guM, hp_MuL, hp_RuL, hp_KuL, hp_NuL, hp_nuL, hp_zuL, hp_ouL, hp_auL, hp_kuL, hp_guL, hp_MuR, hp_LuR, hp_KuR, hp_NuR, hp_nuR, hp_zuR, hp_ouR, hp_auR, hp_kuR, hp_LcpM, hp_RcpM, hp_KcpM, hp_NcpM, hp_ncpM, hp_zcpM, hp_ocpM, hp_acpM, hp_kcpM, hp_gcpM, hp_McpL, hp_RcpL, hp_KcpL, hp_NcpL, hp_ncpL, hp_zcpL, hp_ocpL, hp_acpL, hp_kcpL, hp_gcpL, hp_MwM, hp_LwM, hp_RwM, hp_KwM, hp_NwM, hp_nwM, hp_zwM, hp_owM, hp_awM, hp_kwM, hp_gwM, hp_MwR, hp_LwR, hp_RwR, hp_KwR, hp_NwR, hp_nwR, hp_zwR, hp_owR, hp_awR, hp_kwR, hp_MwL, hp_LwL, hp_RwL, hp_KwL, hp_NwL, hp_nwL, hp_zwL, hp_owL, hp_awL, hp_kwL, hp_gwL, hp_w2M, hp_w2R, hp_w2L, i01, kx, ht, e1, hf, cl, hbi]
    · rw [rds, List.length_append]; rfl
    · rw [List.length_append] at hi
      rw [rdn (by omega), rdk]
      by_cases e : i = (gb_t G).length
      · rw [if_pos e, e, List.getD_eq_getElem?_getD, List.getElem?_append_right (Nat.le_refl _), Nat.sub_self]; rfl
      · have hi2 : i < (gb_t G).length := by
          have : [n].length = 1 := rfl
          omega
        rw [if_neg e, List.getD_eq_getElem?_getD, List.getElem?_append_left hi2, ← List.getD_eq_getElem?_getD]
        exact ht2 i hi2
theorem m_2 (ok : gb_ok G) (hR : RM S G) : oM S (d + 2) 133 [.ref 92, .int x] (.int (an_2 G x)) G := by
  have hw := hR.1
  have hk : gK G ≤ 6 := ok.1.1.1
  refine oM_id hR ?_
  unfold an_2
  rcases kw_c hk x with ⟨e, h⟩ | ⟨b, hb, e, rfl⟩
  · have k := m129n (d := d) ok hR e
    rw [e]
    simp only [b133_0, b133_5, b133_8, b133_17, e133, wx_o92 hw, wx_k92 hw, wx_q92 hw, wx_g92_1 hw, wx_s92_1 hw, wx_N93 hw, wx_a93 hw, wx_g92_2 hw, wx_s92_2 hw, wx_N94 hw, wx_a94 hw, wx_g92_3 hw, wx_s92_3 hw, wx_N95 hw, wx_a95 hw, wx_g92_4 hw, wx_s92_4 hw, wx_N96 hw, wx_a96 hw, wx_g92_5 hw, wx_s92_5 hw, wx_N97 hw, wx_a97 hw, wx_g92_6 hw, wx_s92_6 hw, wx_N98 hw, wx_a98 hw, wx_g92_7 hw, wx_s92_7 hw, wx_N99 hw, wx_a99 hw, wx_g92_9 hw, wx_s92_9 hw, wx_N100 hw, wx_a100 hw, wx_g92_16 hw, wx_s92_16 hw, wx_N101 hw, wx_a101 hw, wx_g92_19 hw, wx_s92_19 hw, wx_N102 hw, wx_a102 hw, wx_g92_20 hw, wx_s92_20 hw, wx_N103 hw, wx_a103 hw, wx_g92_21 hw, wx_s92_21 hw, wx_N104 hw, wx_a104 hw, wx_g92_22 hw, wx_s92_22 hw, wx_N105 hw, wx_a105 hw, wx_g92_23 hw, wx_s92_23 hw, wx_N106 hw, wx_a106 hw, wx_g92_24 hw, wx_s92_24 hw, wx_N107 hw, wx_a107 hw, wx_g92_25 hw, wx_s92_25 hw, wx_N108 hw, wx_a108 hw, wx_g92_29 hw, wx_s92_29 hw, wx_N109 hw, wx_a109 hw, wx_g92_30 hw, wx_s92_30 hw, wx_N110 hw, wx_a110 hw, wx_g92_31 hw, wx_s92_31 hw, wx_N111 hw, wx_a111 hw, wx_g92_32 hw, wx_s92_32 hw, wx_N112 hw, wx_a112 hw, wx_g92_33 hw, wx_s92_33 hw, wx_N113 hw, wx_a113 hw, wx_g92_34 hw, wx_s92_34 hw, wx_N114 hw, wx_a114 hw, wx_g92_35 hw, wx_s92_35 hw, wx_N115 hw, wx_a115 hw, wx_g92_38 hw, wx_s92_38 hw, wx_N116 hw, wx_a116 hw, wx_g92_41 hw, wx_s92_41 hw, wx_N117 hw, wx_a117 hw, wx_g92_44 hw, wx_s92_44 hw, wx_N118 hw, wx_a118 hw, wx_g92_45 hw, wx_s92_45 hw, wx_N119 hw, wx_a119 hw, wx_g92_46 hw, wx_s92_46 hw, wx_N120 hw, wx_a120 hw, wx_g92_52 hw, wx_s92_52 hw, wx_N121 hw, wx_a121 hw, wx_g92_55 hw, wx_s92_55 hw, wx_N122 hw, wx_a122 hw, wx_g92_56 hw, wx_s92_56 hw, wx_N123 hw, wx_a123 hw, wx_g92_57 hw, wx_s92_57 hw, wx_N124 hw, wx_a124 hw, wx_g92_58 hw, wx_s92_58 hw, wx_N125 hw, wx_a125 hw, wx_g92_64 hw, wx_s92_64 hw, wx_N126 hw, wx_a126 hw, wx_g92_65 hw, wx_s92_65 hw, wx_N127 hw, wx_a127 hw, wx_g92_66 hw, wx_s92_66 hw, wx_N128 hw, wx_a128 hw, wx_g92_67 hw, wx_s92_67 hw, wx_N129 hw, wx_a129 hw, wx_g92_68 hw, wx_s92_68 hw, wx_N130 hw, wx_a130 hw, wx_g92_69 hw, wx_s92_69 hw, wx_N131 hw, wx_a131 hw, wx_g92_70 hw, wx_s92_70 hw, wx_N132 hw, wx_a132 hw, wx_g92_71 hw, wx_s92_71 hw, wx_N133 hw, wx_a133 hw, wx_g92_72 hw, wx_s92_72 hw, wx_N134 hw, wx_a134 hw, wx_g92_73 hw, wx_s92_73 hw, wx_N135 hw, wx_a135 hw, wx_g92_75 hw, wx_s92_75 hw, wx_N136 hw, wx_a136 hw, List.not_mem_nil, false_implies, implies_true, nI_clamp, nI_add, Nat.reducePow, hp_bd, hp_bdi, hp_ts, hp_tn, hp_tsc, hp_tnc, Nat.reduceAdd, Nat.reduceSub, Nat.reduceMul, Nat.reduceLT, Nat.reduceLeDiff, Nat.reduceEqDiff, reduceIte, not_true_eq_false, not_false_eq_true, and_true, true_and, and_self, and_false, false_and, or_true, true_or, or_false, false_or, decide_true, decide_false, Bool.and_true, Bool.true_and, Bool.not_false, Bool.or_false, Bool.false_or, Bool.or_true, Bool.true_or, i01, k]
  · have k := m129s (d := d) ok hR hb
    have cl : (nI b).toNatClampNeg = b := nI_clamp (by omega)
    have hbi : mm_inb (nI b) 6 = true := hp_inb (by omega) (by omega)
    have hg : mm_M S 98 b = ab_ga (gD G) b := hR.2.1.2.1.2.2.2.1 b hb
    rw [e]
    simp only [b133_0, b133_5, b133_8, b133_17, e133, wx_o92 hw, wx_k92 hw, wx_q92 hw, wx_g92_1 hw, wx_s92_1 hw, wx_N93 hw, wx_a93 hw, wx_g92_2 hw, wx_s92_2 hw, wx_N94 hw, wx_a94 hw, wx_g92_3 hw, wx_s92_3 hw, wx_N95 hw, wx_a95 hw, wx_g92_4 hw, wx_s92_4 hw, wx_N96 hw, wx_a96 hw, wx_g92_5 hw, wx_s92_5 hw, wx_N97 hw, wx_a97 hw, wx_g92_6 hw, wx_s92_6 hw, wx_N98 hw, wx_a98 hw, wx_g92_7 hw, wx_s92_7 hw, wx_N99 hw, wx_a99 hw, wx_g92_9 hw, wx_s92_9 hw, wx_N100 hw, wx_a100 hw, wx_g92_16 hw, wx_s92_16 hw, wx_N101 hw, wx_a101 hw, wx_g92_19 hw, wx_s92_19 hw, wx_N102 hw, wx_a102 hw, wx_g92_20 hw, wx_s92_20 hw, wx_N103 hw, wx_a103 hw, wx_g92_21 hw, wx_s92_21 hw, wx_N104 hw, wx_a104 hw, wx_g92_22 hw, wx_s92_22 hw, wx_N105 hw, wx_a105 hw, wx_g92_23 hw, wx_s92_23 hw, wx_N106 hw, wx_a106 hw, wx_g92_24 hw, wx_s92_24 hw, wx_N107 hw, wx_a107 hw, wx_g92_25 hw, wx_s92_25 hw, wx_N108 hw, wx_a108 hw, wx_g92_29 hw, wx_s92_29 hw, wx_N109 hw, wx_a109 hw, wx_g92_30 hw, wx_s92_30 hw, wx_N110 hw, wx_a110 hw, wx_g92_31 hw, wx_s92_31 hw, wx_N111 hw, wx_a111 hw, wx_g92_32 hw, wx_s92_32 hw, wx_N112 hw, wx_a112 hw, wx_g92_33 hw, wx_s92_33 hw, wx_N113 hw, wx_a113 hw, wx_g92_34 hw, wx_s92_34 hw, wx_N114 hw, wx_a114 hw, wx_g92_35 hw, wx_s92_35 hw, wx_N115 hw, wx_a115 hw, wx_g92_38 hw, wx_s92_38 hw, wx_N116 hw, wx_a116 hw, wx_g92_41 hw, wx_s92_41 hw, wx_N117 hw, wx_a117 hw, wx_g92_44 hw, wx_s92_44 hw, wx_N118 hw, wx_a118 hw, wx_g92_45 hw, wx_s92_45 hw, wx_N119 hw, wx_a119 hw, wx_g92_46 hw, wx_s92_46 hw, wx_N120 hw, wx_a120 hw, wx_g92_52 hw, wx_s92_52 hw, wx_N121 hw, wx_a121 hw, wx_g92_55 hw, wx_s92_55 hw, wx_N122 hw, wx_a122 hw, wx_g92_56 hw, wx_s92_56 hw, wx_N123 hw, wx_a123 hw, wx_g92_57 hw, wx_s92_57 hw, wx_N124 hw, wx_a124 hw, wx_g92_58 hw, wx_s92_58 hw, wx_N125 hw, wx_a125 hw, wx_g92_64 hw, wx_s92_64 hw, wx_N126 hw, wx_a126 hw, wx_g92_65 hw, wx_s92_65 hw, wx_N127 hw, wx_a127 hw, wx_g92_66 hw, wx_s92_66 hw, wx_N128 hw, wx_a128 hw, wx_g92_67 hw, wx_s92_67 hw, wx_N129 hw, wx_a129 hw, wx_g92_68 hw, wx_s92_68 hw, wx_N130 hw, wx_a130 hw, wx_g92_69 hw, wx_s92_69 hw, wx_N131 hw, wx_a131 hw, wx_g92_70 hw, wx_s92_70 hw, wx_N132 hw, wx_a132 hw, wx_g92_71 hw, wx_s92_71 hw, wx_N133 hw, wx_a133 hw, wx_g92_72 hw, wx_s92_72 hw, wx_N134 hw, wx_a134 hw, wx_g92_73 hw, wx_s92_73 hw, wx_N135 hw, wx_a135 hw, wx_g92_75 hw, wx_s92_75 hw, wx_N136 hw, wx_a136 hw, List.not_mem_nil, false_implies, implies_true, nI_clamp, nI_add, Nat.reducePow, hp_bd, hp_bdi, hp_ts, hp_tn, hp_tsc, hp_tnc, Nat.reduceAdd, Nat.reduceSub, Nat.reduceMul, Nat.reduceLT, Nat.reduceLeDiff, Nat.reduceEqDiff, reduceIte, not_true_eq_false, not_false_eq_true, and_true, true_and, and_self, and_false, false_and, or_true, true_or, or_false, false_or, decide_true, decide_false, Bool.and_true, Bool.true_and, Bool.not_false, Bool.or_false, Bool.false_or, Bool.or_true, Bool.true_or, i01, k, cl, hbi, hg]
theorem mq_F (h : md_q S T) : sf_f gm_F S T := ⟨fun c j hc => ⟨h.2 c j (fun e => hc (by unfold gm_F; omega)), by rw [h.1]; rfl, by rw [h.1]; rfl⟩, fun c _ => ⟨by rw [h.1]; rfl, by rw [h.1]; rfl⟩, by rw [h.1]; exact Nat.le_refl _⟩
theorem oM_mq (ok : gb_ok G) (hR : RM S G) {y : Nat} {as : List Value} {v : Value} (h : mm_cl d y as S = some (some v, T)) (hq : md_q S T) : oM S d y as v G := oM_q ok hR h (mq_F hq) (mq_W hq hR.1) (by rw [hq.1]; rfl) (by rw [hq.1]; rfl)
theorem m_1 (ok : gb_ok G) (hR : RM S G) : oM S (d + 5) 132 [.ref 92, .int x, .int w] (.int (an_1 G x w)) G := by
  have hw := hR.1
  have hk : gK G ≤ 6 := ok.1.1.1
  have hA := RM_A ok hR
  unfold an_1
  rcases kw_c hk x with ⟨e, h⟩ | ⟨b, hb, e, rfl⟩
  · have k := m129n (d := d + 3) ok hR e
    rw [e]
    refine oM_id hR ?_
    simp only [b132_0, b132_5, b132_8, b132_12, b132_13, b132_64, b132_71, b132_78, b132_85, b132_92, b132_99, b132_104, b132_105, b132_110, b132_111, b132_116, b132_117, b132_128, b132_167, b132_170, e132, wx_o92 hw, wx_k92 hw, wx_q92 hw, wx_g92_1 hw, wx_s92_1 hw, wx_N93 hw, wx_a93 hw, wx_g92_2 hw, wx_s92_2 hw, wx_N94 hw, wx_a94 hw, wx_g92_3 hw, wx_s92_3 hw, wx_N95 hw, wx_a95 hw, wx_g92_4 hw, wx_s92_4 hw, wx_N96 hw, wx_a96 hw, wx_g92_5 hw, wx_s92_5 hw, wx_N97 hw, wx_a97 hw, wx_g92_6 hw, wx_s92_6 hw, wx_N98 hw, wx_a98 hw, wx_g92_7 hw, wx_s92_7 hw, wx_N99 hw, wx_a99 hw, wx_g92_9 hw, wx_s92_9 hw, wx_N100 hw, wx_a100 hw, wx_g92_16 hw, wx_s92_16 hw, wx_N101 hw, wx_a101 hw, wx_g92_19 hw, wx_s92_19 hw, wx_N102 hw, wx_a102 hw, wx_g92_20 hw, wx_s92_20 hw, wx_N103 hw, wx_a103 hw, wx_g92_21 hw, wx_s92_21 hw, wx_N104 hw, wx_a104 hw, wx_g92_22 hw, wx_s92_22 hw, wx_N105 hw, wx_a105 hw, wx_g92_23 hw, wx_s92_23 hw, wx_N106 hw, wx_a106 hw, wx_g92_24 hw, wx_s92_24 hw, wx_N107 hw, wx_a107 hw, wx_g92_25 hw, wx_s92_25 hw, wx_N108 hw, wx_a108 hw, wx_g92_29 hw, wx_s92_29 hw, wx_N109 hw, wx_a109 hw, wx_g92_30 hw, wx_s92_30 hw, wx_N110 hw, wx_a110 hw, wx_g92_31 hw, wx_s92_31 hw, wx_N111 hw, wx_a111 hw, wx_g92_32 hw, wx_s92_32 hw, wx_N112 hw, wx_a112 hw, wx_g92_33 hw, wx_s92_33 hw, wx_N113 hw, wx_a113 hw, wx_g92_34 hw, wx_s92_34 hw, wx_N114 hw, wx_a114 hw, wx_g92_35 hw, wx_s92_35 hw, wx_N115 hw, wx_a115 hw, wx_g92_38 hw, wx_s92_38 hw, wx_N116 hw, wx_a116 hw, wx_g92_41 hw, wx_s92_41 hw, wx_N117 hw, wx_a117 hw, wx_g92_44 hw, wx_s92_44 hw, wx_N118 hw, wx_a118 hw, wx_g92_45 hw, wx_s92_45 hw, wx_N119 hw, wx_a119 hw, wx_g92_46 hw, wx_s92_46 hw, wx_N120 hw, wx_a120 hw, wx_g92_52 hw, wx_s92_52 hw, wx_N121 hw, wx_a121 hw, wx_g92_55 hw, wx_s92_55 hw, wx_N122 hw, wx_a122 hw, wx_g92_56 hw, wx_s92_56 hw, wx_N123 hw, wx_a123 hw, wx_g92_57 hw, wx_s92_57 hw, wx_N124 hw, wx_a124 hw, wx_g92_58 hw, wx_s92_58 hw, wx_N125 hw, wx_a125 hw, wx_g92_64 hw, wx_s92_64 hw, wx_N126 hw, wx_a126 hw, wx_g92_65 hw, wx_s92_65 hw, wx_N127 hw, wx_a127 hw, wx_g92_66 hw, wx_s92_66 hw, wx_N128 hw, wx_a128 hw, wx_g92_67 hw, wx_s92_67 hw, wx_N129 hw, wx_a129 hw, wx_g92_68 hw, wx_s92_68 hw, wx_N130 hw, wx_a130 hw, wx_g92_69 hw, wx_s92_69 hw, wx_N131 hw, wx_a131 hw, wx_g92_70 hw, wx_s92_70 hw, wx_N132 hw, wx_a132 hw, wx_g92_71 hw, wx_s92_71 hw, wx_N133 hw, wx_a133 hw, wx_g92_72 hw, wx_s92_72 hw, wx_N134 hw, wx_a134 hw, wx_g92_73 hw, wx_s92_73 hw, wx_N135 hw, wx_a135 hw, wx_g92_75 hw, wx_s92_75 hw, wx_N136 hw, wx_a136 hw, List.not_mem_nil, false_implies, implies_true, nI_clamp, nI_add, Nat.reducePow, hp_bd, hp_bdi, hp_ts, hp_tn, hp_tsc, hp_tnc, Nat.reduceAdd, Nat.reduceSub, Nat.reduceMul, Nat.reduceLT, Nat.reduceLeDiff, Nat.reduceEqDiff, reduceIte, not_true_eq_false, not_false_eq_true, and_true, true_and, and_self, and_false, false_and, or_true, true_or, or_false, false_or, decide_true, decide_false, Bool.and_true, Bool.true_and, Bool.not_false, Bool.or_false, Bool.false_or, Bool.or_true, Bool.true_or, i01, k]
  have k := m129s (d := d + 3) ok hR hb
  have cl : (nI b).toNatClampNeg = b := nI_clamp (by omega)
  have hbi : mm_inb (nI b) 6 = true := hp_inb (by omega) (by omega)
  obtain ⟨p1, p2, p3, p4⟩ := hR.2.1.1.2.1 b hb
  have d3 := hR.2.1.2.1.2.2.1 b hb
  have hk7 : ab_ki (gP G) b < 7 := (ok.1.1.2.2.2.1 b hb).1
  have k130 := s130 (d := d + 4) (b := b) hA (by omega)
  rw [e]
  have st : mm_cl (d + 5) 132 [.ref 92, .int (nI b), .int w] S = mm_ex (d + 5) 132 13 [.ref 92, .int (nI b), .int w] [.int w] S := by
    rw [e132, b132_0 (wx_k92 hw), k, hp_bd, hp_ts, b132_5, if_neg i01, b132_12]
  rw [b132_13] at st
  simp only
  by_cases w0 : w = nI 0
  · rw [if_pos w0] at st ⊢
    refine oM_id hR ?_
    rw [st]
    simp only [b132_64, wx_o92 hw, wx_k92 hw, wx_q92 hw, wx_g92_1 hw, wx_s92_1 hw, wx_N93 hw, wx_a93 hw, wx_g92_2 hw, wx_s92_2 hw, wx_N94 hw, wx_a94 hw, wx_g92_3 hw, wx_s92_3 hw, wx_N95 hw, wx_a95 hw, wx_g92_4 hw, wx_s92_4 hw, wx_N96 hw, wx_a96 hw, wx_g92_5 hw, wx_s92_5 hw, wx_N97 hw, wx_a97 hw, wx_g92_6 hw, wx_s92_6 hw, wx_N98 hw, wx_a98 hw, wx_g92_7 hw, wx_s92_7 hw, wx_N99 hw, wx_a99 hw, wx_g92_9 hw, wx_s92_9 hw, wx_N100 hw, wx_a100 hw, wx_g92_16 hw, wx_s92_16 hw, wx_N101 hw, wx_a101 hw, wx_g92_19 hw, wx_s92_19 hw, wx_N102 hw, wx_a102 hw, wx_g92_20 hw, wx_s92_20 hw, wx_N103 hw, wx_a103 hw, wx_g92_21 hw, wx_s92_21 hw, wx_N104 hw, wx_a104 hw, wx_g92_22 hw, wx_s92_22 hw, wx_N105 hw, wx_a105 hw, wx_g92_23 hw, wx_s92_23 hw, wx_N106 hw, wx_a106 hw, wx_g92_24 hw, wx_s92_24 hw, wx_N107 hw, wx_a107 hw, wx_g92_25 hw, wx_s92_25 hw, wx_N108 hw, wx_a108 hw, wx_g92_29 hw, wx_s92_29 hw, wx_N109 hw, wx_a109 hw, wx_g92_30 hw, wx_s92_30 hw, wx_N110 hw, wx_a110 hw, wx_g92_31 hw, wx_s92_31 hw, wx_N111 hw, wx_a111 hw, wx_g92_32 hw, wx_s92_32 hw, wx_N112 hw, wx_a112 hw, wx_g92_33 hw, wx_s92_33 hw, wx_N113 hw, wx_a113 hw, wx_g92_34 hw, wx_s92_34 hw, wx_N114 hw, wx_a114 hw, wx_g92_35 hw, wx_s92_35 hw, wx_N115 hw, wx_a115 hw, wx_g92_38 hw, wx_s92_38 hw, wx_N116 hw, wx_a116 hw, wx_g92_41 hw, wx_s92_41 hw, wx_N117 hw, wx_a117 hw, wx_g92_44 hw, wx_s92_44 hw, wx_N118 hw, wx_a118 hw, wx_g92_45 hw, wx_s92_45 hw, wx_N119 hw, wx_a119 hw, wx_g92_46 hw, wx_s92_46 hw, wx_N120 hw, wx_a120 hw, wx_g92_52 hw, wx_s92_52 hw, wx_N121 hw, wx_a121 hw, wx_g92_55 hw, wx_s92_55 hw, wx_N122 hw, wx_a122 hw, wx_g92_56 hw, wx_s92_56 hw, wx_N123 hw, wx_a123 hw, wx_g92_57 hw, wx_s92_57 hw, wx_N124 hw, wx_a124 hw, wx_g92_58 hw, wx_s92_58 hw, wx_N125 hw, wx_a125 hw, wx_g92_64 hw, wx_s92_64 hw, wx_N126 hw, wx_a126 hw, wx_g92_65 hw, wx_s92_65 hw, wx_N127 hw, wx_a127 hw, wx_g92_66 hw, wx_s92_66 hw, wx_N128 hw, wx_a128 hw, wx_g92_67 hw, wx_s92_67 hw, wx_N129 hw, wx_a129 hw, wx_g92_68 hw, wx_s92_68 hw, wx_N130 hw, wx_a130 hw, wx_g92_69 hw, wx_s92_69 hw, wx_N131 hw, wx_a131 hw, wx_g92_70 hw, wx_s92_70 hw, wx_N132 hw, wx_a132 hw, wx_g92_71 hw, wx_s92_71 hw, wx_N133 hw, wx_a133 hw, wx_g92_72 hw, wx_s92_72 hw, wx_N134 hw, wx_a134 hw, wx_g92_73 hw, wx_s92_73 hw, wx_N135 hw, wx_a135 hw, wx_g92_75 hw, wx_s92_75 hw, wx_N136 hw, wx_a136 hw, List.not_mem_nil, false_implies, implies_true, nI_clamp, nI_add, Nat.reducePow, hp_bd, hp_bdi, hp_ts, hp_tn, hp_tsc, hp_tnc, Nat.reduceAdd, Nat.reduceSub, Nat.reduceMul, Nat.reduceLT, Nat.reduceLeDiff, Nat.reduceEqDiff, reduceIte, not_true_eq_false, not_false_eq_true, and_true, true_and, and_self, and_false, false_and, or_true, true_or, or_false, false_or, decide_true, decide_false, Bool.and_true, Bool.true_and, Bool.not_false, Bool.or_false, Bool.false_or, Bool.or_true, Bool.true_or, cl, hbi, p1]
    rfl
  rw [if_neg w0] at st ⊢
  by_cases w1 : w = nI 1
  · rw [if_pos w1] at st ⊢
    refine oM_id hR ?_
    rw [st]
    simp only [b132_71, wx_o92 hw, wx_k92 hw, wx_q92 hw, wx_g92_1 hw, wx_s92_1 hw, wx_N93 hw, wx_a93 hw, wx_g92_2 hw, wx_s92_2 hw, wx_N94 hw, wx_a94 hw, wx_g92_3 hw, wx_s92_3 hw, wx_N95 hw, wx_a95 hw, wx_g92_4 hw, wx_s92_4 hw, wx_N96 hw, wx_a96 hw, wx_g92_5 hw, wx_s92_5 hw, wx_N97 hw, wx_a97 hw, wx_g92_6 hw, wx_s92_6 hw, wx_N98 hw, wx_a98 hw, wx_g92_7 hw, wx_s92_7 hw, wx_N99 hw, wx_a99 hw, wx_g92_9 hw, wx_s92_9 hw, wx_N100 hw, wx_a100 hw, wx_g92_16 hw, wx_s92_16 hw, wx_N101 hw, wx_a101 hw, wx_g92_19 hw, wx_s92_19 hw, wx_N102 hw, wx_a102 hw, wx_g92_20 hw, wx_s92_20 hw, wx_N103 hw, wx_a103 hw, wx_g92_21 hw, wx_s92_21 hw, wx_N104 hw, wx_a104 hw, wx_g92_22 hw, wx_s92_22 hw, wx_N105 hw, wx_a105 hw, wx_g92_23 hw, wx_s92_23 hw, wx_N106 hw, wx_a106 hw, wx_g92_24 hw, wx_s92_24 hw, wx_N107 hw, wx_a107 hw, wx_g92_25 hw, wx_s92_25 hw, wx_N108 hw, wx_a108 hw, wx_g92_29 hw, wx_s92_29 hw, wx_N109 hw, wx_a109 hw, wx_g92_30 hw, wx_s92_30 hw, wx_N110 hw, wx_a110 hw, wx_g92_31 hw, wx_s92_31 hw, wx_N111 hw, wx_a111 hw, wx_g92_32 hw, wx_s92_32 hw, wx_N112 hw, wx_a112 hw, wx_g92_33 hw, wx_s92_33 hw, wx_N113 hw, wx_a113 hw, wx_g92_34 hw, wx_s92_34 hw, wx_N114 hw, wx_a114 hw, wx_g92_35 hw, wx_s92_35 hw, wx_N115 hw, wx_a115 hw, wx_g92_38 hw, wx_s92_38 hw, wx_N116 hw, wx_a116 hw, wx_g92_41 hw, wx_s92_41 hw, wx_N117 hw, wx_a117 hw, wx_g92_44 hw, wx_s92_44 hw, wx_N118 hw, wx_a118 hw, wx_g92_45 hw, wx_s92_45 hw, wx_N119 hw, wx_a119 hw, wx_g92_46 hw, wx_s92_46 hw, wx_N120 hw, wx_a120 hw, wx_g92_52 hw, wx_s92_52 hw, wx_N121 hw, wx_a121 hw, wx_g92_55 hw, wx_s92_55 hw, wx_N122 hw, wx_a122 hw, wx_g92_56 hw, wx_s92_56 hw, wx_N123 hw, wx_a123 hw, wx_g92_57 hw, wx_s92_57 hw, wx_N124 hw, wx_a124 hw, wx_g92_58 hw, wx_s92_58 hw, wx_N125 hw, wx_a125 hw, wx_g92_64 hw, wx_s92_64 hw, wx_N126 hw, wx_a126 hw, wx_g92_65 hw, wx_s92_65 hw, wx_N127 hw, wx_a127 hw, wx_g92_66 hw, wx_s92_66 hw, wx_N128 hw, wx_a128 hw, wx_g92_67 hw, wx_s92_67 hw, wx_N129 hw, wx_a129 hw, wx_g92_68 hw, wx_s92_68 hw, wx_N130 hw, wx_a130 hw, wx_g92_69 hw, wx_s92_69 hw, wx_N131 hw, wx_a131 hw, wx_g92_70 hw, wx_s92_70 hw, wx_N132 hw, wx_a132 hw, wx_g92_71 hw, wx_s92_71 hw, wx_N133 hw, wx_a133 hw, wx_g92_72 hw, wx_s92_72 hw, wx_N134 hw, wx_a134 hw, wx_g92_73 hw, wx_s92_73 hw, wx_N135 hw, wx_a135 hw, wx_g92_75 hw, wx_s92_75 hw, wx_N136 hw, wx_a136 hw, List.not_mem_nil, false_implies, implies_true, nI_clamp, nI_add, Nat.reducePow, hp_bd, hp_bdi, hp_ts, hp_tn, hp_tsc, hp_tnc, Nat.reduceAdd, Nat.reduceSub, Nat.reduceMul, Nat.reduceLT, Nat.reduceLeDiff, Nat.reduceEqDiff, reduceIte, not_true_eq_false, not_false_eq_true, and_true, true_and, and_self, and_false, false_and, or_true, true_or, or_false, false_or, decide_true, decide_false, Bool.and_true, Bool.true_and, Bool.not_false, Bool.or_false, Bool.false_or, Bool.or_true, Bool.true_or, cl, hbi, p2]
    rfl
  rw [if_neg w1] at st ⊢
  by_cases w2 : w = nI 2
  · rw [if_pos w2] at st ⊢
    refine oM_id hR ?_
    rw [st]
    simp only [b132_78, wx_o92 hw, wx_k92 hw, wx_q92 hw, wx_g92_1 hw, wx_s92_1 hw, wx_N93 hw, wx_a93 hw, wx_g92_2 hw, wx_s92_2 hw, wx_N94 hw, wx_a94 hw, wx_g92_3 hw, wx_s92_3 hw, wx_N95 hw, wx_a95 hw, wx_g92_4 hw, wx_s92_4 hw, wx_N96 hw, wx_a96 hw, wx_g92_5 hw, wx_s92_5 hw, wx_N97 hw, wx_a97 hw, wx_g92_6 hw, wx_s92_6 hw, wx_N98 hw, wx_a98 hw, wx_g92_7 hw, wx_s92_7 hw, wx_N99 hw, wx_a99 hw, wx_g92_9 hw, wx_s92_9 hw, wx_N100 hw, wx_a100 hw, wx_g92_16 hw, wx_s92_16 hw, wx_N101 hw, wx_a101 hw, wx_g92_19 hw, wx_s92_19 hw, wx_N102 hw, wx_a102 hw, wx_g92_20 hw, wx_s92_20 hw, wx_N103 hw, wx_a103 hw, wx_g92_21 hw, wx_s92_21 hw, wx_N104 hw, wx_a104 hw, wx_g92_22 hw, wx_s92_22 hw, wx_N105 hw, wx_a105 hw, wx_g92_23 hw, wx_s92_23 hw, wx_N106 hw, wx_a106 hw, wx_g92_24 hw, wx_s92_24 hw, wx_N107 hw, wx_a107 hw, wx_g92_25 hw, wx_s92_25 hw, wx_N108 hw, wx_a108 hw, wx_g92_29 hw, wx_s92_29 hw, wx_N109 hw, wx_a109 hw, wx_g92_30 hw, wx_s92_30 hw, wx_N110 hw, wx_a110 hw, wx_g92_31 hw, wx_s92_31 hw, wx_N111 hw, wx_a111 hw, wx_g92_32 hw, wx_s92_32 hw, wx_N112 hw, wx_a112 hw, wx_g92_33 hw, wx_s92_33 hw, wx_N113 hw, wx_a113 hw, wx_g92_34 hw, wx_s92_34 hw, wx_N114 hw, wx_a114 hw, wx_g92_35 hw, wx_s92_35 hw, wx_N115 hw, wx_a115 hw, wx_g92_38 hw, wx_s92_38 hw, wx_N116 hw, wx_a116 hw, wx_g92_41 hw, wx_s92_41 hw, wx_N117 hw, wx_a117 hw, wx_g92_44 hw, wx_s92_44 hw, wx_N118 hw, wx_a118 hw, wx_g92_45 hw, wx_s92_45 hw, wx_N119 hw, wx_a119 hw, wx_g92_46 hw, wx_s92_46 hw, wx_N120 hw, wx_a120 hw, wx_g92_52 hw, wx_s92_52 hw, wx_N121 hw, wx_a121 hw, wx_g92_55 hw, wx_s92_55 hw, wx_N122 hw, wx_a122 hw, wx_g92_56 hw, wx_s92_56 hw, wx_N123 hw, wx_a123 hw, wx_g92_57 hw, wx_s92_57 hw, wx_N124 hw, wx_a124 hw, wx_g92_58 hw, wx_s92_58 hw, wx_N125 hw, wx_a125 hw, wx_g92_64 hw, wx_s92_64 hw, wx_N126 hw, wx_a126 hw, wx_g92_65 hw, wx_s92_65 hw, wx_N127 hw, wx_a127 hw, wx_g92_66 hw, wx_s92_66 hw, wx_N128 hw, wx_a128 hw, wx_g92_67 hw, wx_s92_67 hw, wx_N129 hw, wx_a129 hw, wx_g92_68 hw, wx_s92_68 hw, wx_N130 hw, wx_a130 hw, wx_g92_69 hw, wx_s92_69 hw, wx_N131 hw, wx_a131 hw, wx_g92_70 hw, wx_s92_70 hw, wx_N132 hw, wx_a132 hw, wx_g92_71 hw, wx_s92_71 hw, wx_N133 hw, wx_a133 hw, wx_g92_72 hw, wx_s92_72 hw, wx_N134 hw, wx_a134 hw, wx_g92_73 hw, wx_s92_73 hw, wx_N135 hw, wx_a135 hw, wx_g92_75 hw, wx_s92_75 hw, wx_N136 hw, wx_a136 hw, List.not_mem_nil, false_implies, implies_true, nI_clamp, nI_add, Nat.reducePow, hp_bd, hp_bdi, hp_ts, hp_tn, hp_tsc, hp_tnc, Nat.reduceAdd, Nat.reduceSub, Nat.reduceMul, Nat.reduceLT, Nat.reduceLeDiff, Nat.reduceEqDiff, reduceIte, not_true_eq_false, not_false_eq_true, and_true, true_and, and_self, and_false, false_and, or_true, true_or, or_false, false_or, decide_true, decide_false, Bool.and_true, Bool.true_and, Bool.not_false, Bool.or_false, Bool.false_or, Bool.or_true, Bool.true_or, cl, hbi, p3]
    rfl
  rw [if_neg w2] at st ⊢
  by_cases w3 : w = nI 3
  · rw [if_pos w3] at st ⊢
    refine oM_id hR ?_
    rw [st]
    simp only [b132_85, wx_o92 hw, wx_k92 hw, wx_q92 hw, wx_g92_1 hw, wx_s92_1 hw, wx_N93 hw, wx_a93 hw, wx_g92_2 hw, wx_s92_2 hw, wx_N94 hw, wx_a94 hw, wx_g92_3 hw, wx_s92_3 hw, wx_N95 hw, wx_a95 hw, wx_g92_4 hw, wx_s92_4 hw, wx_N96 hw, wx_a96 hw, wx_g92_5 hw, wx_s92_5 hw, wx_N97 hw, wx_a97 hw, wx_g92_6 hw, wx_s92_6 hw, wx_N98 hw, wx_a98 hw, wx_g92_7 hw, wx_s92_7 hw, wx_N99 hw, wx_a99 hw, wx_g92_9 hw, wx_s92_9 hw, wx_N100 hw, wx_a100 hw, wx_g92_16 hw, wx_s92_16 hw, wx_N101 hw, wx_a101 hw, wx_g92_19 hw, wx_s92_19 hw, wx_N102 hw, wx_a102 hw, wx_g92_20 hw, wx_s92_20 hw, wx_N103 hw, wx_a103 hw, wx_g92_21 hw, wx_s92_21 hw, wx_N104 hw, wx_a104 hw, wx_g92_22 hw, wx_s92_22 hw, wx_N105 hw, wx_a105 hw, wx_g92_23 hw, wx_s92_23 hw, wx_N106 hw, wx_a106 hw, wx_g92_24 hw, wx_s92_24 hw, wx_N107 hw, wx_a107 hw, wx_g92_25 hw, wx_s92_25 hw, wx_N108 hw, wx_a108 hw, wx_g92_29 hw, wx_s92_29 hw, wx_N109 hw, wx_a109 hw, wx_g92_30 hw, wx_s92_30 hw, wx_N110 hw, wx_a110 hw, wx_g92_31 hw, wx_s92_31 hw, wx_N111 hw, wx_a111 hw, wx_g92_32 hw, wx_s92_32 hw, wx_N112 hw, wx_a112 hw, wx_g92_33 hw, wx_s92_33 hw, wx_N113 hw, wx_a113 hw, wx_g92_34 hw, wx_s92_34 hw, wx_N114 hw, wx_a114 hw, wx_g92_35 hw, wx_s92_35 hw, wx_N115 hw, wx_a115 hw, wx_g92_38 hw, wx_s92_38 hw, wx_N116 hw, wx_a116 hw, wx_g92_41 hw, wx_s92_41 hw, wx_N117 hw, wx_a117 hw, wx_g92_44 hw, wx_s92_44 hw, wx_N118 hw, wx_a118 hw, wx_g92_45 hw, wx_s92_45 hw, wx_N119 hw, wx_a119 hw, wx_g92_46 hw, wx_s92_46 hw, wx_N120 hw, wx_a120 hw, wx_g92_52 hw, wx_s92_52 hw, wx_N121 hw, wx_a121 hw, wx_g92_55 hw, wx_s92_55 hw, wx_N122 hw, wx_a122 hw, wx_g92_56 hw, wx_s92_56 hw, wx_N123 hw, wx_a123 hw, wx_g92_57 hw, wx_s92_57 hw, wx_N124 hw, wx_a124 hw, wx_g92_58 hw, wx_s92_58 hw, wx_N125 hw, wx_a125 hw, wx_g92_64 hw, wx_s92_64 hw, wx_N126 hw, wx_a126 hw, wx_g92_65 hw, wx_s92_65 hw, wx_N127 hw, wx_a127 hw, wx_g92_66 hw, wx_s92_66 hw, wx_N128 hw, wx_a128 hw, wx_g92_67 hw, wx_s92_67 hw, wx_N129 hw, wx_a129 hw, wx_g92_68 hw, wx_s92_68 hw, wx_N130 hw, wx_a130 hw, wx_g92_69 hw, wx_s92_69 hw, wx_N131 hw, wx_a131 hw, wx_g92_70 hw, wx_s92_70 hw, wx_N132 hw, wx_a132 hw, wx_g92_71 hw, wx_s92_71 hw, wx_N133 hw, wx_a133 hw, wx_g92_72 hw, wx_s92_72 hw, wx_N134 hw, wx_a134 hw, wx_g92_73 hw, wx_s92_73 hw, wx_N135 hw, wx_a135 hw, wx_g92_75 hw, wx_s92_75 hw, wx_N136 hw, wx_a136 hw, List.not_mem_nil, false_implies, implies_true, nI_clamp, nI_add, Nat.reducePow, hp_bd, hp_bdi, hp_ts, hp_tn, hp_tsc, hp_tnc, Nat.reduceAdd, Nat.reduceSub, Nat.reduceMul, Nat.reduceLT, Nat.reduceLeDiff, Nat.reduceEqDiff, reduceIte, not_true_eq_false, not_false_eq_true, and_true, true_and, and_self, and_false, false_and, or_true, true_or, or_false, false_or, decide_true, decide_false, Bool.and_true, Bool.true_and, Bool.not_false, Bool.or_false, Bool.false_or, Bool.or_true, Bool.true_or, cl, hbi, p4]
    rfl
  rw [if_neg w3] at st ⊢
  by_cases w4 : w = nI 4
  · rw [if_pos w4] at st ⊢
    refine oM_id hR ?_
    rw [st]
    simp only [b132_92, wx_o92 hw, wx_k92 hw, wx_q92 hw, wx_g92_1 hw, wx_s92_1 hw, wx_N93 hw, wx_a93 hw, wx_g92_2 hw, wx_s92_2 hw, wx_N94 hw, wx_a94 hw, wx_g92_3 hw, wx_s92_3 hw, wx_N95 hw, wx_a95 hw, wx_g92_4 hw, wx_s92_4 hw, wx_N96 hw, wx_a96 hw, wx_g92_5 hw, wx_s92_5 hw, wx_N97 hw, wx_a97 hw, wx_g92_6 hw, wx_s92_6 hw, wx_N98 hw, wx_a98 hw, wx_g92_7 hw, wx_s92_7 hw, wx_N99 hw, wx_a99 hw, wx_g92_9 hw, wx_s92_9 hw, wx_N100 hw, wx_a100 hw, wx_g92_16 hw, wx_s92_16 hw, wx_N101 hw, wx_a101 hw, wx_g92_19 hw, wx_s92_19 hw, wx_N102 hw, wx_a102 hw, wx_g92_20 hw, wx_s92_20 hw, wx_N103 hw, wx_a103 hw, wx_g92_21 hw, wx_s92_21 hw, wx_N104 hw, wx_a104 hw, wx_g92_22 hw, wx_s92_22 hw, wx_N105 hw, wx_a105 hw, wx_g92_23 hw, wx_s92_23 hw, wx_N106 hw, wx_a106 hw, wx_g92_24 hw, wx_s92_24 hw, wx_N107 hw, wx_a107 hw, wx_g92_25 hw, wx_s92_25 hw, wx_N108 hw, wx_a108 hw, wx_g92_29 hw, wx_s92_29 hw, wx_N109 hw, wx_a109 hw, wx_g92_30 hw, wx_s92_30 hw, wx_N110 hw, wx_a110 hw, wx_g92_31 hw, wx_s92_31 hw, wx_N111 hw, wx_a111 hw, wx_g92_32 hw, wx_s92_32 hw, wx_N112 hw, wx_a112 hw, wx_g92_33 hw, wx_s92_33 hw, wx_N113 hw, wx_a113 hw, wx_g92_34 hw, wx_s92_34 hw, wx_N114 hw, wx_a114 hw, wx_g92_35 hw, wx_s92_35 hw, wx_N115 hw, wx_a115 hw, wx_g92_38 hw, wx_s92_38 hw, wx_N116 hw, wx_a116 hw, wx_g92_41 hw, wx_s92_41 hw, wx_N117 hw, wx_a117 hw, wx_g92_44 hw, wx_s92_44 hw, wx_N118 hw, wx_a118 hw, wx_g92_45 hw, wx_s92_45 hw, wx_N119 hw, wx_a119 hw, wx_g92_46 hw, wx_s92_46 hw, wx_N120 hw, wx_a120 hw, wx_g92_52 hw, wx_s92_52 hw, wx_N121 hw, wx_a121 hw, wx_g92_55 hw, wx_s92_55 hw, wx_N122 hw, wx_a122 hw, wx_g92_56 hw, wx_s92_56 hw, wx_N123 hw, wx_a123 hw, wx_g92_57 hw, wx_s92_57 hw, wx_N124 hw, wx_a124 hw, wx_g92_58 hw, wx_s92_58 hw, wx_N125 hw, wx_a125 hw, wx_g92_64 hw, wx_s92_64 hw, wx_N126 hw, wx_a126 hw, wx_g92_65 hw, wx_s92_65 hw, wx_N127 hw, wx_a127 hw, wx_g92_66 hw, wx_s92_66 hw, wx_N128 hw, wx_a128 hw, wx_g92_67 hw, wx_s92_67 hw, wx_N129 hw, wx_a129 hw, wx_g92_68 hw, wx_s92_68 hw, wx_N130 hw, wx_a130 hw, wx_g92_69 hw, wx_s92_69 hw, wx_N131 hw, wx_a131 hw, wx_g92_70 hw, wx_s92_70 hw, wx_N132 hw, wx_a132 hw, wx_g92_71 hw, wx_s92_71 hw, wx_N133 hw, wx_a133 hw, wx_g92_72 hw, wx_s92_72 hw, wx_N134 hw, wx_a134 hw, wx_g92_73 hw, wx_s92_73 hw, wx_N135 hw, wx_a135 hw, wx_g92_75 hw, wx_s92_75 hw, wx_N136 hw, wx_a136 hw, List.not_mem_nil, false_implies, implies_true, nI_clamp, nI_add, Nat.reducePow, hp_bd, hp_bdi, hp_ts, hp_tn, hp_tsc, hp_tnc, Nat.reduceAdd, Nat.reduceSub, Nat.reduceMul, Nat.reduceLT, Nat.reduceLeDiff, Nat.reduceEqDiff, reduceIte, not_true_eq_false, not_false_eq_true, and_true, true_and, and_self, and_false, false_and, or_true, true_or, or_false, false_or, decide_true, decide_false, Bool.and_true, Bool.true_and, Bool.not_false, Bool.or_false, Bool.false_or, Bool.or_true, Bool.true_or, cl, hbi, d3]
    rfl
  rw [if_neg w4] at st ⊢
  by_cases w5 : w = nI 5
  · rw [if_pos w5] at st ⊢
    refine oM_id hR ?_
    rw [st, b132_99 (wx_k92 hw), k130, hp_bd, hp_ts, b132_104]
  rw [if_neg w5] at st ⊢
  by_cases w6 : w = nI 6
  · rw [if_pos w6] at st ⊢
    obtain ⟨T, g1, g2⟩ := s156 (d := d) hA hb
    refine oM_mq ok hR (T := T) ?_ g2
    rw [st, b132_105 (wx_k92 hw), g1, hp_bd, hp_ts, b132_110]
  rw [if_neg w6] at st ⊢
  by_cases w7 : w = nI 7
  · rw [if_pos w7] at st ⊢
    obtain ⟨T, g1, g2⟩ := s157 (d := d) hA hb
    refine oM_mq ok hR (T := T) ?_ g2
    rw [st, b132_111 (wx_k92 hw), g1, hp_bd, hp_ts, b132_116]
  rw [if_neg w7] at st ⊢
  by_cases w8 : w = nI 8
  · rw [if_pos w8] at st ⊢
    have e6 : (nI (ab_ki (gP G) b) = nI 6) = (ab_ki (gP G) b = 6) := propext (nI_eq (by omega) (by decide))
    have p1 : mm_M S 93 b = nI (ab_ki (gP G) b) := p1
    refine oM_id hR ?_
    rw [st]
    by_cases h6 : ab_ki (gP G) b = 6
    · have t0 : mm_M S 99 (3 * b) = nI (ab_te (gP G) (3 * b)) := hR.2.1.1.2.2.1 _ (by have hb : b < ab_kn (gx_P (gb_x G)) := hb; omega)
      have t1 : mm_M S 99 (3 * b + 1) = nI (ab_te (gP G) (3 * b + 1)) := hR.2.1.1.2.2.1 _ (by have hb : b < ab_kn (gx_P (gb_x G)) := hb; omega)
      have t2 : mm_M S 99 (3 * b + 2) = nI (ab_te (gP G) (3 * b + 2)) := hR.2.1.1.2.2.1 _ (by have hb : b < ab_kn (gx_P (gb_x G)) := hb; omega)
      have c0 : (nI (3 * b)).toNatClampNeg = 3 * b := nI_clamp (by omega)
      have c1 : (nI (3 * b + 1)).toNatClampNeg = 3 * b + 1 := nI_clamp (by omega)
      have c2 : (nI (3 * b + 2)).toNatClampNeg = 3 * b + 2 := nI_clamp (by omega)
      have j0 : mm_inb (nI (3 * b)) 18 = true := hp_inb (by omega) (by omega)
      have j1 : mm_inb (nI (3 * b + 1)) 18 = true := hp_inb (by omega) (by omega)
      have j2 : mm_inb (nI (3 * b + 2)) 18 = true := hp_inb (by omega) (by omega)
      rw [if_pos h6]
      simp only [b132_117, b132_128, wx_o92 hw, wx_k92 hw, wx_q92 hw, wx_g92_1 hw, wx_s92_1 hw, wx_N93 hw, wx_a93 hw, wx_g92_2 hw, wx_s92_2 hw, wx_N94 hw, wx_a94 hw, wx_g92_3 hw, wx_s92_3 hw, wx_N95 hw, wx_a95 hw, wx_g92_4 hw, wx_s92_4 hw, wx_N96 hw, wx_a96 hw, wx_g92_5 hw, wx_s92_5 hw, wx_N97 hw, wx_a97 hw, wx_g92_6 hw, wx_s92_6 hw, wx_N98 hw, wx_a98 hw, wx_g92_7 hw, wx_s92_7 hw, wx_N99 hw, wx_a99 hw, wx_g92_9 hw, wx_s92_9 hw, wx_N100 hw, wx_a100 hw, wx_g92_16 hw, wx_s92_16 hw, wx_N101 hw, wx_a101 hw, wx_g92_19 hw, wx_s92_19 hw, wx_N102 hw, wx_a102 hw, wx_g92_20 hw, wx_s92_20 hw, wx_N103 hw, wx_a103 hw, wx_g92_21 hw, wx_s92_21 hw, wx_N104 hw, wx_a104 hw, wx_g92_22 hw, wx_s92_22 hw, wx_N105 hw, wx_a105 hw, wx_g92_23 hw, wx_s92_23 hw, wx_N106 hw, wx_a106 hw, wx_g92_24 hw, wx_s92_24 hw, wx_N107 hw, wx_a107 hw, wx_g92_25 hw, wx_s92_25 hw, wx_N108 hw, wx_a108 hw, wx_g92_29 hw, wx_s92_29 hw, wx_N109 hw, wx_a109 hw, wx_g92_30 hw, wx_s92_30 hw, wx_N110 hw, wx_a110 hw, wx_g92_31 hw, wx_s92_31 hw, wx_N111 hw, wx_a111 hw, wx_g92_32 hw, wx_s92_32 hw, wx_N112 hw, wx_a112 hw, wx_g92_33 hw, wx_s92_33 hw, wx_N113 hw, wx_a113 hw, wx_g92_34 hw, wx_s92_34 hw, wx_N114 hw, wx_a114 hw, wx_g92_35 hw, wx_s92_35 hw, wx_N115 hw, wx_a115 hw, wx_g92_38 hw, wx_s92_38 hw, wx_N116 hw, wx_a116 hw, wx_g92_41 hw, wx_s92_41 hw, wx_N117 hw, wx_a117 hw, wx_g92_44 hw, wx_s92_44 hw, wx_N118 hw, wx_a118 hw, wx_g92_45 hw, wx_s92_45 hw, wx_N119 hw, wx_a119 hw, wx_g92_46 hw, wx_s92_46 hw, wx_N120 hw, wx_a120 hw, wx_g92_52 hw, wx_s92_52 hw, wx_N121 hw, wx_a121 hw, wx_g92_55 hw, wx_s92_55 hw, wx_N122 hw, wx_a122 hw, wx_g92_56 hw, wx_s92_56 hw, wx_N123 hw, wx_a123 hw, wx_g92_57 hw, wx_s92_57 hw, wx_N124 hw, wx_a124 hw, wx_g92_58 hw, wx_s92_58 hw, wx_N125 hw, wx_a125 hw, wx_g92_64 hw, wx_s92_64 hw, wx_N126 hw, wx_a126 hw, wx_g92_65 hw, wx_s92_65 hw, wx_N127 hw, wx_a127 hw, wx_g92_66 hw, wx_s92_66 hw, wx_N128 hw, wx_a128 hw, wx_g92_67 hw, wx_s92_67 hw, wx_N129 hw, wx_a129 hw, wx_g92_68 hw, wx_s92_68 hw, wx_N130 hw, wx_a130 hw, wx_g92_69 hw, wx_s92_69 hw, wx_N131 hw, wx_a131 hw, wx_g92_70 hw, wx_s92_70 hw, wx_N132 hw, wx_a132 hw, wx_g92_71 hw, wx_s92_71 hw, wx_N133 hw, wx_a133 hw, wx_g92_72 hw, wx_s92_72 hw, wx_N134 hw, wx_a134 hw, wx_g92_73 hw, wx_s92_73 hw, wx_N135 hw, wx_a135 hw, wx_g92_75 hw, wx_s92_75 hw, wx_N136 hw, wx_a136 hw, List.not_mem_nil, false_implies, implies_true, nI_clamp, nI_add, Nat.reducePow, hp_bd, hp_bdi, hp_ts, hp_tn, hp_tsc, hp_tnc, Nat.reduceAdd, Nat.reduceSub, Nat.reduceMul, Nat.reduceLT, Nat.reduceLeDiff, Nat.reduceEqDiff, reduceIte, not_true_eq_false, not_false_eq_true, and_true, true_and, and_self, and_false, false_and, or_true, true_or, or_false, false_or, decide_true, decide_false, Bool.and_true, Bool.true_and, Bool.not_false, Bool.or_false, Bool.false_or, Bool.or_true, Bool.true_or, cl, hbi, p1, h6, nI_mul, c0, c1, c2, j0, j1, j2, t0, t1, t2]
    · rw [if_neg h6]
      simp only [b132_117, b132_167, wx_o92 hw, wx_k92 hw, wx_q92 hw, wx_g92_1 hw, wx_s92_1 hw, wx_N93 hw, wx_a93 hw, wx_g92_2 hw, wx_s92_2 hw, wx_N94 hw, wx_a94 hw, wx_g92_3 hw, wx_s92_3 hw, wx_N95 hw, wx_a95 hw, wx_g92_4 hw, wx_s92_4 hw, wx_N96 hw, wx_a96 hw, wx_g92_5 hw, wx_s92_5 hw, wx_N97 hw, wx_a97 hw, wx_g92_6 hw, wx_s92_6 hw, wx_N98 hw, wx_a98 hw, wx_g92_7 hw, wx_s92_7 hw, wx_N99 hw, wx_a99 hw, wx_g92_9 hw, wx_s92_9 hw, wx_N100 hw, wx_a100 hw, wx_g92_16 hw, wx_s92_16 hw, wx_N101 hw, wx_a101 hw, wx_g92_19 hw, wx_s92_19 hw, wx_N102 hw, wx_a102 hw, wx_g92_20 hw, wx_s92_20 hw, wx_N103 hw, wx_a103 hw, wx_g92_21 hw, wx_s92_21 hw, wx_N104 hw, wx_a104 hw, wx_g92_22 hw, wx_s92_22 hw, wx_N105 hw, wx_a105 hw, wx_g92_23 hw, wx_s92_23 hw, wx_N106 hw, wx_a106 hw, wx_g92_24 hw, wx_s92_24 hw, wx_N107 hw, wx_a107 hw, wx_g92_25 hw, wx_s92_25 hw, wx_N108 hw, wx_a108 hw, wx_g92_29 hw, wx_s92_29 hw, wx_N109 hw, wx_a109 hw, wx_g92_30 hw, wx_s92_30 hw, wx_N110 hw, wx_a110 hw, wx_g92_31 hw, wx_s92_31 hw, wx_N111 hw, wx_a111 hw, wx_g92_32 hw, wx_s92_32 hw, wx_N112 hw, wx_a112 hw, wx_g92_33 hw, wx_s92_33 hw, wx_N113 hw, wx_a113 hw, wx_g92_34 hw, wx_s92_34 hw, wx_N114 hw, wx_a114 hw, wx_g92_35 hw, wx_s92_35 hw, wx_N115 hw, wx_a115 hw, wx_g92_38 hw, wx_s92_38 hw, wx_N116 hw, wx_a116 hw, wx_g92_41 hw, wx_s92_41 hw, wx_N117 hw, wx_a117 hw, wx_g92_44 hw, wx_s92_44 hw, wx_N118 hw, wx_a118 hw, wx_g92_45 hw, wx_s92_45 hw, wx_N119 hw, wx_a119 hw, wx_g92_46 hw, wx_s92_46 hw, wx_N120 hw, wx_a120 hw, wx_g92_52 hw, wx_s92_52 hw, wx_N121 hw, wx_a121 hw, wx_g92_55 hw, wx_s92_55 hw, wx_N122 hw, wx_a122 hw, wx_g92_56 hw, wx_s92_56 hw, wx_N123 hw, wx_a123 hw, wx_g92_57 hw, wx_s92_57 hw, wx_N124 hw, wx_a124 hw, wx_g92_58 hw, wx_s92_58 hw, wx_N125 hw, wx_a125 hw, wx_g92_64 hw, wx_s92_64 hw, wx_N126 hw, wx_a126 hw, wx_g92_65 hw, wx_s92_65 hw, wx_N127 hw, wx_a127 hw, wx_g92_66 hw, wx_s92_66 hw, wx_N128 hw, wx_a128 hw, wx_g92_67 hw, wx_s92_67 hw, wx_N129 hw, wx_a129 hw, wx_g92_68 hw, wx_s92_68 hw, wx_N130 hw, wx_a130 hw, wx_g92_69 hw, wx_s92_69 hw, wx_N131 hw, wx_a131 hw, wx_g92_70 hw, wx_s92_70 hw, wx_N132 hw, wx_a132 hw, wx_g92_71 hw, wx_s92_71 hw, wx_N133 hw, wx_a133 hw, wx_g92_72 hw, wx_s92_72 hw, wx_N134 hw, wx_a134 hw, wx_g92_73 hw, wx_s92_73 hw, wx_N135 hw, wx_a135 hw, wx_g92_75 hw, wx_s92_75 hw, wx_N136 hw, wx_a136 hw, List.not_mem_nil, false_implies, implies_true, nI_clamp, nI_add, Nat.reducePow, hp_bd, hp_bdi, hp_ts, hp_tn, hp_tsc, hp_tnc, Nat.reduceAdd, Nat.reduceSub, Nat.reduceMul, Nat.reduceLT, Nat.reduceLeDiff, Nat.reduceEqDiff, reduceIte, not_true_eq_false, not_false_eq_true, and_true, true_and, and_self, and_false, false_and, or_true, true_or, or_false, false_or, decide_true, decide_false, Bool.and_true, Bool.true_and, Bool.not_false, Bool.or_false, Bool.false_or, Bool.or_true, Bool.true_or, cl, hbi, p1, e6, h6]
  rw [if_neg w8] at st ⊢
  refine oM_id hR ?_
  rw [st, b132_170]
theorem m_9 (ok : gb_ok G) (hR : RM S G) : oM S (d + 1) 159 [.ref 92, .int w] (.int (an_9 G w)) G := by
  have hw := hR.1
  have hA := RM_A ok hR
  refine oM_id hR ?_
  obtain ⟨h1, h2, h3, h4, h5, h6, h7, h8⟩ := hR.2.1.2.1
  have hl := row_le hA.2.2.2.1 hA.2.2.2.2
  unfold an_9
  rw [e159, b159_0, b159_1]
  by_cases w0 : w = nI 0
  · have k := s158_2 (d := d) hA
    rw [if_pos w0, if_pos w0, b159_56 (wx_k92 hw), w0, show nI 0 + nI 2 = nI 2 from rfl, k, hp_bd, hp_ts, b159_63]
  rw [if_neg w0, if_neg w0]
  by_cases w1 : w = nI 1
  · have k := s158_3 (d := d) hA
    rw [if_pos w1, if_pos w1, b159_56 (wx_k92 hw), w1, show nI 1 + nI 2 = nI 3 from rfl, k, hp_bd, hp_ts, b159_63]
  rw [if_neg w1, if_neg w1]
  by_cases w2 : w = nI 2
  · have k := s158_4 (d := d) hA
    rw [if_pos w2, if_pos w2, b159_56 (wx_k92 hw), w2, show nI 2 + nI 2 = nI 4 from rfl, k, hp_bd, hp_ts, b159_63]
  rw [if_neg w2, if_neg w2]
  by_cases w3 : w = nI 3
  · have k := s158_5 (d := d) hA
    rw [if_pos w3, if_pos w3, b159_56 (wx_k92 hw), w3, show nI 3 + nI 2 = nI 5 from rfl, k, hp_bd, hp_ts, b159_63]
  rw [if_neg w3, if_neg w3]
  by_cases w4 : w = nI 4
  · rw [if_pos w4, if_pos w4, b159_64 (wx_o92 hw), h5]; rfl
  rw [if_neg w4, if_neg w4]
  by_cases w5 : w = nI 5
  · rw [if_pos w5, if_pos w5, b159_69 (wx_o92 hw), h6]; rfl
  rw [if_neg w5, if_neg w5]
  by_cases w6 : w = nI 6
  · rw [if_pos w6, if_pos w6, b159_74 (wx_o92 hw), h7]; rfl
  rw [if_neg w6, if_neg w6]
  by_cases w7 : w = nI 7
  · rw [if_pos w7, if_pos w7, b159_79 (wx_o92 hw), h8]; rfl
  rw [if_neg w7, if_neg w7]
  by_cases w8 : w = nI 8
  · rw [if_pos w8, if_pos w8, b159_84 (wx_o92 hw), h1]; rfl
  rw [if_neg w8, if_neg w8]
  by_cases w9 : w = nI 9
  · have h1 : mm_M S 92 8 = nI (ab_row (gD G)).length := h1
    rw [if_pos w9, if_pos w9, b159_89 (wx_o92 hw), h1]
    by_cases h0 : (ab_row (gD G)).length = 0
    · rw [if_pos (by rw [h0]), if_pos h0, b159_96]
    · have g := h2 0 (by have : ¬ (ab_row (gx_D (gb_x G))).length = 0 := h0; omega)
      rw [if_neg (fun e => h0 ((nI_eq (by omega) (by decide)).mp e)), if_neg h0, b159_101 (wx_o92 hw) (wx_s92_9 hw) (by rw [wx_g92_9 hw, wx_N100 hw]; decide) (by rw [wx_g92_9 hw]; exact wx_a100 hw), wx_g92_9 hw, nI_clamp (by decide), g]
      rfl
  rw [if_neg w9, if_neg w9, b159_108]
theorem m_11 (ok : gb_ok G) (hR : RM S G) : oM S (d + 9) 170 [.ref 92] (.int (op_11 G).1) (op_11 G).2 := by
  have hw := hR.1
  have hA := RM_A ok hR
  have k20 := s168w (d := d + 8) hA
  cases hc : ab_com (gD G) with
  | false =>
    have eo : op_11 G = (nI 0, G) := by unfold op_11; rw [hc, if_neg (by decide)]
    rw [eo]
    refine oM_id hR ?_
    rw [e170, b170_0 (wx_k92 hw), k20, hp_bd, hp_ts, b170_4, hc, if_pos (by decide), b170_7]
  | true =>
    have eo : op_11 G = (nI (ab_ha (gP G) (gD G)), gX_D G.1 (ab_turn (gP G) (gD G)), G.2) := by unfold op_11; rw [hc, if_pos rfl]
    obtain ⟨b, r, U, T, g1, g2, g3, g4, g5, g6, g7, -, -⟩ := s169t (d := d) hA hc
    have f := sf_md g6
    have wU := mq_W g4 hw
    rw [eo]
    refine oM_X hR (T := T) ?_ (gmd_now (mdc_d f)) g7.1 (mX_D (mdc_d f) hR.2.1 g7.2.2.1) ?_ ?_
    · rw [e170, b170_0 (wx_k92 hw), k20, hp_bd, hp_ts, b170_4, hc, if_neg (by decide), b170_9 (wx_o92 hw) (wx_s92_9 hw) (by rw [wx_g92_9 hw, wx_N100 hw]; decide) (by rw [wx_g92_9 hw]; exact wx_a100 hw) (wx_k92 hw), wx_g92_9 hw, nI_clamp (by decide), g2, g3, hp_bd, hp_ts, b170_19 (wx_k92 wU), g5, hp_bd, hp_tn, b170_25]
    · rw [g6.1]; rfl
    · rw [g6.1]; rfl
theorem mX_u (h : sf_f (fun c j => (c = 92 ∧ (j = 14 ∨ j = 15)) ∨ c = 101) S T) (ok : gb_ok G) (hR : RM S G) : md_P T (gP G) ∧ md_D T (gK G) (gD G) ∧ mm_M T 92 18 = gm_ho (gx_h G.1) ∧ mm_M T 92 27 = -1 := by
  obtain ⟨⟨p1, p2, p3, ⟨q, p4⟩, p5⟩, ⟨h1, h2, h3, h4, h5, h6, h7, h8⟩, q1, q2, q3, q4, q5⟩ := hR.2.1
  have g : ∀ c j, ¬ ((c = 92 ∧ (j = 14 ∨ j = 15)) ∨ c = 101) → mm_M T c j = mm_M S c j := fun c j q => (h.1 c j q).1
  refine ⟨⟨(g _ _ (by omega)).trans p1, fun c hc => ?_, fun i hi => (g _ _ (by omega)).trans (p3 i hi), ⟨q, mf_sh (fun c i a b => g _ _ (by omega)) (g _ _ (by omega)) p4⟩, ?_⟩, ⟨(g _ _ (by omega)).trans h1, fun p hp => (g _ _ (by omega)).trans (h2 p hp), fun p hp => (g _ _ (by omega)).trans (h3 p hp), fun p hp => (g _ _ (by omega)).trans (h4 p hp), (g _ _ (by omega)).trans h5, (g _ _ (by omega)).trans h6, (g _ _ (by omega)).trans h7, (g _ _ (by omega)).trans h8⟩, (g _ _ (by omega)).trans q4, (g _ _ (by omega)).trans q5⟩
  · obtain ⟨a1, a2, a3, a4⟩ := p2 c hc
    exact ⟨(g _ _ (by omega)).trans a1, (g _ _ (by omega)).trans a2, (g _ _ (by omega)).trans a3, (g _ _ (by omega)).trans a4⟩
  · rw [g _ _ (by omega)]; exact p5
theorem m_20 (ok : gb_ok G) (hR : RM S G) : oM S (d + 1) 187 [.ref 92, .int x] (.int (op_20 G x).1) (op_20 G x).2 := by
  have hw := hR.1
  have h16 : mm_M S 92 14 = nI (gx_s G.1) := hR.2.1.2.2.1
  by_cases ex : ab_kw 11 x = none
  · have kx := m128n (d := d) (S := S) (n := 10) rfl (by decide) ex
    have eo : op_20 G x = (-2, G) := by unfold op_20; simp only [ex]
    rw [eo]
    refine oM_id hR ?_
    simp only [b187_0, b187_7, b187_10, b187_13, e187, wx_o92 hw, wx_k92 hw, wx_q92 hw, wx_g92_1 hw, wx_s92_1 hw, wx_N93 hw, wx_a93 hw, wx_g92_2 hw, wx_s92_2 hw, wx_N94 hw, wx_a94 hw, wx_g92_3 hw, wx_s92_3 hw, wx_N95 hw, wx_a95 hw, wx_g92_4 hw, wx_s92_4 hw, wx_N96 hw, wx_a96 hw, wx_g92_5 hw, wx_s92_5 hw, wx_N97 hw, wx_a97 hw, wx_g92_6 hw, wx_s92_6 hw, wx_N98 hw, wx_a98 hw, wx_g92_7 hw, wx_s92_7 hw, wx_N99 hw, wx_a99 hw, wx_g92_9 hw, wx_s92_9 hw, wx_N100 hw, wx_a100 hw, wx_g92_16 hw, wx_s92_16 hw, wx_N101 hw, wx_a101 hw, wx_g92_19 hw, wx_s92_19 hw, wx_N102 hw, wx_a102 hw, wx_g92_20 hw, wx_s92_20 hw, wx_N103 hw, wx_a103 hw, wx_g92_21 hw, wx_s92_21 hw, wx_N104 hw, wx_a104 hw, wx_g92_22 hw, wx_s92_22 hw, wx_N105 hw, wx_a105 hw, wx_g92_23 hw, wx_s92_23 hw, wx_N106 hw, wx_a106 hw, wx_g92_24 hw, wx_s92_24 hw, wx_N107 hw, wx_a107 hw, wx_g92_25 hw, wx_s92_25 hw, wx_N108 hw, wx_a108 hw, wx_g92_29 hw, wx_s92_29 hw, wx_N109 hw, wx_a109 hw, wx_g92_30 hw, wx_s92_30 hw, wx_N110 hw, wx_a110 hw, wx_g92_31 hw, wx_s92_31 hw, wx_N111 hw, wx_a111 hw, wx_g92_32 hw, wx_s92_32 hw, wx_N112 hw, wx_a112 hw, wx_g92_33 hw, wx_s92_33 hw, wx_N113 hw, wx_a113 hw, wx_g92_34 hw, wx_s92_34 hw, wx_N114 hw, wx_a114 hw, wx_g92_35 hw, wx_s92_35 hw, wx_N115 hw, wx_a115 hw, wx_g92_38 hw, wx_s92_38 hw, wx_N116 hw, wx_a116 hw, wx_g92_41 hw, wx_s92_41 hw, wx_N117 hw, wx_a117 hw, wx_g92_44 hw, wx_s92_44 hw, wx_N118 hw, wx_a118 hw, wx_g92_45 hw, wx_s92_45 hw, wx_N119 hw, wx_a119 hw, wx_g92_46 hw, wx_s92_46 hw, wx_N120 hw, wx_a120 hw, wx_g92_52 hw, wx_s92_52 hw, wx_N121 hw, wx_a121 hw, wx_g92_55 hw, wx_s92_55 hw, wx_N122 hw, wx_a122 hw, wx_g92_56 hw, wx_s92_56 hw, wx_N123 hw, wx_a123 hw, wx_g92_57 hw, wx_s92_57 hw, wx_N124 hw, wx_a124 hw, wx_g92_58 hw, wx_s92_58 hw, wx_N125 hw, wx_a125 hw, wx_g92_64 hw, wx_s92_64 hw, wx_N126 hw, wx_a126 hw, wx_g92_65 hw, wx_s92_65 hw, wx_N127 hw, wx_a127 hw, wx_g92_66 hw, wx_s92_66 hw, wx_N128 hw, wx_a128 hw, wx_g92_67 hw, wx_s92_67 hw, wx_N129 hw, wx_a129 hw, wx_g92_68 hw, wx_s92_68 hw, wx_N130 hw, wx_a130 hw, wx_g92_69 hw, wx_s92_69 hw, wx_N131 hw, wx_a131 hw, wx_g92_70 hw, wx_s92_70 hw, wx_N132 hw, wx_a132 hw, wx_g92_71 hw, wx_s92_71 hw, wx_N133 hw, wx_a133 hw, wx_g92_72 hw, wx_s92_72 hw, wx_N134 hw, wx_a134 hw, wx_g92_73 hw, wx_s92_73 hw, wx_N135 hw, wx_a135 hw, wx_g92_75 hw, wx_s92_75 hw, wx_N136 hw, wx_a136 hw, List.not_mem_nil, false_implies, implies_true, nI_clamp, nI_add, Nat.reducePow, hp_bd, hp_bdi, hp_ts, hp_tn, hp_tsc, hp_tnc, Nat.reduceAdd, Nat.reduceSub, Nat.reduceMul, Nat.reduceLT, Nat.reduceLeDiff, Nat.reduceEqDiff, reduceIte, not_true_eq_false, not_false_eq_true, and_true, true_and, and_self, and_false, false_and, or_true, true_or, or_false, false_or, decide_true, decide_false, Bool.and_true, Bool.true_and, Bool.not_false, Bool.or_false, Bool.false_or, Bool.or_true, Bool.true_or, i01, kx]
  rcases kw_d (n := 10) (m := 11) rfl (by decide) x with ⟨z, -⟩ | ⟨z, -⟩ | ⟨n, hn, ex, rfl, -⟩
  · exact absurd z ex
  · exact absurd z ex
  have kx := m128s (d := d) (S := S) (n := 10) rfl (by decide) hn
  have eo : op_20 G (nI n) = (nI (gx_s G.1), gX_s G.1 n, G.2) := by unfold op_20; simp only [ex]
  have f : sf_f (fun c j => (c = 92 ∧ (j = 14 ∨ j = 15)) ∨ c = 101) S (mm_uM S 92 14 (nI n)) := sf_uM (Or.inl ⟨rfl, Or.inl rfl⟩)
  obtain ⟨g1, g2, g3, g4⟩ := mX_u f ok hR
  rw [eo]
  refine oM_X hR (T := mm_uM S 92 14 (nI n)) ?_ (sf_uM (by unfold gm_now; omega)) hw ⟨g1, g2, rds, (rdn (by omega)).trans hR.2.1.2.2.2.1, fun i hi => (rdn (by omega)).trans (hR.2.1.2.2.2.2.1 i hi), g3, g4⟩ rfl rfl
  simp only [b187_0, b187_7, b187_10, b187_13, e187, wx_o92 hw, wx_k92 hw, wx_q92 hw, wx_g92_1 hw, wx_s92_1 hw, wx_N93 hw, wx_a93 hw, wx_g92_2 hw, wx_s92_2 hw, wx_N94 hw, wx_a94 hw, wx_g92_3 hw, wx_s92_3 hw, wx_N95 hw, wx_a95 hw, wx_g92_4 hw, wx_s92_4 hw, wx_N96 hw, wx_a96 hw, wx_g92_5 hw, wx_s92_5 hw, wx_N97 hw, wx_a97 hw, wx_g92_6 hw, wx_s92_6 hw, wx_N98 hw, wx_a98 hw, wx_g92_7 hw, wx_s92_7 hw, wx_N99 hw, wx_a99 hw, wx_g92_9 hw, wx_s92_9 hw, wx_N100 hw, wx_a100 hw, wx_g92_16 hw, wx_s92_16 hw, wx_N101 hw, wx_a101 hw, wx_g92_19 hw, wx_s92_19 hw, wx_N102 hw, wx_a102 hw, wx_g92_20 hw, wx_s92_20 hw, wx_N103 hw, wx_a103 hw, wx_g92_21 hw, wx_s92_21 hw, wx_N104 hw, wx_a104 hw, wx_g92_22 hw, wx_s92_22 hw, wx_N105 hw, wx_a105 hw, wx_g92_23 hw, wx_s92_23 hw, wx_N106 hw, wx_a106 hw, wx_g92_24 hw, wx_s92_24 hw, wx_N107 hw, wx_a107 hw, wx_g92_25 hw, wx_s92_25 hw, wx_N108 hw, wx_a108 hw, wx_g92_29 hw, wx_s92_29 hw, wx_N109 hw, wx_a109 hw, wx_g92_30 hw, wx_s92_30 hw, wx_N110 hw, wx_a110 hw, wx_g92_31 hw, wx_s92_31 hw, wx_N111 hw, wx_a111 hw, wx_g92_32 hw, wx_s92_32 hw, wx_N112 hw, wx_a112 hw, wx_g92_33 hw, wx_s92_33 hw, wx_N113 hw, wx_a113 hw, wx_g92_34 hw, wx_s92_34 hw, wx_N114 hw, wx_a114 hw, wx_g92_35 hw, wx_s92_35 hw, wx_N115 hw, wx_a115 hw, wx_g92_38 hw, wx_s92_38 hw, wx_N116 hw, wx_a116 hw, wx_g92_41 hw, wx_s92_41 hw, wx_N117 hw, wx_a117 hw, wx_g92_44 hw, wx_s92_44 hw, wx_N118 hw, wx_a118 hw, wx_g92_45 hw, wx_s92_45 hw, wx_N119 hw, wx_a119 hw, wx_g92_46 hw, wx_s92_46 hw, wx_N120 hw, wx_a120 hw, wx_g92_52 hw, wx_s92_52 hw, wx_N121 hw, wx_a121 hw, wx_g92_55 hw, wx_s92_55 hw, wx_N122 hw, wx_a122 hw, wx_g92_56 hw, wx_s92_56 hw, wx_N123 hw, wx_a123 hw, wx_g92_57 hw, wx_s92_57 hw, wx_N124 hw, wx_a124 hw, wx_g92_58 hw, wx_s92_58 hw, wx_N125 hw, wx_a125 hw, wx_g92_64 hw, wx_s92_64 hw, wx_N126 hw, wx_a126 hw, wx_g92_65 hw, wx_s92_65 hw, wx_N127 hw, wx_a127 hw, wx_g92_66 hw, wx_s92_66 hw, wx_N128 hw, wx_a128 hw, wx_g92_67 hw, wx_s92_67 hw, wx_N129 hw, wx_a129 hw, wx_g92_68 hw, wx_s92_68 hw, wx_N130 hw, wx_a130 hw, wx_g92_69 hw, wx_s92_69 hw, wx_N131 hw, wx_a131 hw, wx_g92_70 hw, wx_s92_70 hw, wx_N132 hw, wx_a132 hw, wx_g92_71 hw, wx_s92_71 hw, wx_N133 hw, wx_a133 hw, wx_g92_72 hw, wx_s92_72 hw, wx_N134 hw, wx_a134 hw, wx_g92_73 hw, wx_s92_73 hw, wx_N135 hw, wx_a135 hw, wx_g92_75 hw, wx_s92_75 hw, wx_N136 hw, wx_a136 hw, List.not_mem_nil, false_implies, implies_true, nI_clamp, nI_add, Nat.reducePow, hp_bd, hp_bdi, hp_ts, hp_tn, hp_tsc, hp_tnc, Nat.reduceAdd, Nat.reduceSub, Nat.reduceMul, Nat.reduceLT, Nat.reduceLeDiff, Nat.reduceEqDiff, reduceIte, not_true_eq_false, not_false_eq_true, and_true, true_and, and_self, and_false, false_and, or_true, true_or, or_false, false_or, decide_true, decide_false, Bool.and_true, Bool.true_and, Bool.not_false, Bool.or_false, Bool.false_or, Bool.or_true, Bool.true_or, i01, kx, h16]
theorem m_22 (ok : gb_ok G) (hR : RM S G) : oM S (d + 1) 192 [.ref 92, .int x] (.int (op_22 G x).1) (op_22 G x).2 := by
  have hw := hR.1
  have h17 : mm_M S 92 15 = nI (gx_f G.1).length := hR.2.1.2.2.2.1
  have hl : (gx_f G.1).length ≤ 12 := ok.1.2.2.2.1
  have hi6 := hR.2.1.2.2.2.2.1
  by_cases hx : x = -1
  · subst hx
    have eo : op_22 G (-1) = (nI 0, gX_f G.1 [], G.2) := by unfold op_22; rw [if_pos rfl]
    have f : sf_f (fun c j => (c = 92 ∧ (j = 14 ∨ j = 15)) ∨ c = 101) S (mm_uM S 92 15 (nI 0)) := sf_uM (Or.inl ⟨rfl, Or.inr rfl⟩)
    obtain ⟨g1, g2, g3, g4⟩ := mX_u f ok hR
    rw [eo]
    refine oM_X hR (T := mm_uM S 92 15 (nI 0)) ?_ (sf_uM (by unfold gm_now; omega)) hw ⟨g1, g2, (rdn (by omega)).trans hR.2.1.2.2.1, rds, fun i hi => absurd hi (Nat.not_lt_zero i), g3, g4⟩ rfl rfl
    simp only [b192_0, b192_5, b192_12, b192_18, b192_21, b192_23, b192_32, b192_35, b192_47, b192_56, e192, wx_o92 hw, wx_k92 hw, wx_q92 hw, wx_g92_1 hw, wx_s92_1 hw, wx_N93 hw, wx_a93 hw, wx_g92_2 hw, wx_s92_2 hw, wx_N94 hw, wx_a94 hw, wx_g92_3 hw, wx_s92_3 hw, wx_N95 hw, wx_a95 hw, wx_g92_4 hw, wx_s92_4 hw, wx_N96 hw, wx_a96 hw, wx_g92_5 hw, wx_s92_5 hw, wx_N97 hw, wx_a97 hw, wx_g92_6 hw, wx_s92_6 hw, wx_N98 hw, wx_a98 hw, wx_g92_7 hw, wx_s92_7 hw, wx_N99 hw, wx_a99 hw, wx_g92_9 hw, wx_s92_9 hw, wx_N100 hw, wx_a100 hw, wx_g92_16 hw, wx_s92_16 hw, wx_N101 hw, wx_a101 hw, wx_g92_19 hw, wx_s92_19 hw, wx_N102 hw, wx_a102 hw, wx_g92_20 hw, wx_s92_20 hw, wx_N103 hw, wx_a103 hw, wx_g92_21 hw, wx_s92_21 hw, wx_N104 hw, wx_a104 hw, wx_g92_22 hw, wx_s92_22 hw, wx_N105 hw, wx_a105 hw, wx_g92_23 hw, wx_s92_23 hw, wx_N106 hw, wx_a106 hw, wx_g92_24 hw, wx_s92_24 hw, wx_N107 hw, wx_a107 hw, wx_g92_25 hw, wx_s92_25 hw, wx_N108 hw, wx_a108 hw, wx_g92_29 hw, wx_s92_29 hw, wx_N109 hw, wx_a109 hw, wx_g92_30 hw, wx_s92_30 hw, wx_N110 hw, wx_a110 hw, wx_g92_31 hw, wx_s92_31 hw, wx_N111 hw, wx_a111 hw, wx_g92_32 hw, wx_s92_32 hw, wx_N112 hw, wx_a112 hw, wx_g92_33 hw, wx_s92_33 hw, wx_N113 hw, wx_a113 hw, wx_g92_34 hw, wx_s92_34 hw, wx_N114 hw, wx_a114 hw, wx_g92_35 hw, wx_s92_35 hw, wx_N115 hw, wx_a115 hw, wx_g92_38 hw, wx_s92_38 hw, wx_N116 hw, wx_a116 hw, wx_g92_41 hw, wx_s92_41 hw, wx_N117 hw, wx_a117 hw, wx_g92_44 hw, wx_s92_44 hw, wx_N118 hw, wx_a118 hw, wx_g92_45 hw, wx_s92_45 hw, wx_N119 hw, wx_a119 hw, wx_g92_46 hw, wx_s92_46 hw, wx_N120 hw, wx_a120 hw, wx_g92_52 hw, wx_s92_52 hw, wx_N121 hw, wx_a121 hw, wx_g92_55 hw, wx_s92_55 hw, wx_N122 hw, wx_a122 hw, wx_g92_56 hw, wx_s92_56 hw, wx_N123 hw, wx_a123 hw, wx_g92_57 hw, wx_s92_57 hw, wx_N124 hw, wx_a124 hw, wx_g92_58 hw, wx_s92_58 hw, wx_N125 hw, wx_a125 hw, wx_g92_64 hw, wx_s92_64 hw, wx_N126 hw, wx_a126 hw, wx_g92_65 hw, wx_s92_65 hw, wx_N127 hw, wx_a127 hw, wx_g92_66 hw, wx_s92_66 hw, wx_N128 hw, wx_a128 hw, wx_g92_67 hw, wx_s92_67 hw, wx_N129 hw, wx_a129 hw, wx_g92_68 hw, wx_s92_68 hw, wx_N130 hw, wx_a130 hw, wx_g92_69 hw, wx_s92_69 hw, wx_N131 hw, wx_a131 hw, wx_g92_70 hw, wx_s92_70 hw, wx_N132 hw, wx_a132 hw, wx_g92_71 hw, wx_s92_71 hw, wx_N133 hw, wx_a133 hw, wx_g92_72 hw, wx_s92_72 hw, wx_N134 hw, wx_a134 hw, wx_g92_73 hw, wx_s92_73 hw, wx_N135 hw, wx_a135 hw, wx_g92_75 hw, wx_s92_75 hw, wx_N136 hw, wx_a136 hw, List.not_mem_nil, false_implies, implies_true, nI_clamp, nI_add, Nat.reducePow, hp_bd, hp_bdi, hp_ts, hp_tn, hp_tsc, hp_tnc, Nat.reduceAdd, Nat.reduceSub, Nat.reduceMul, Nat.reduceLT, Nat.reduceLeDiff, Nat.reduceEqDiff, reduceIte, not_true_eq_false, not_false_eq_true, and_true, true_and, and_self, and_false, false_and, or_true, true_or, or_false, false_or, decide_true, decide_false, Bool.and_true, Bool.true_and, Bool.not_false, Bool.or_false, Bool.false_or, Bool.or_true, Bool.true_or]
  have k128 : mm_cl d 128 [.int x, .int (nI 1), .int (nI 3)] S = some (some (.int (if x < nI 1 ∨ nI 3 < x then nI 0 else nI 1)), S) := s128
  rcases kw_d (n := 3) (m := 4) rfl (by decide) x with ⟨ep, a1, a2, a3, a4, a5, a6⟩ | ⟨ep, a1, a2, a3, a4, a5, a6⟩ | ⟨n, hp, ep, rfl, a1, a2, a3, a4, a5, a6⟩
  · have eo : op_22 G x = (-1, G) := by unfold op_22; rw [if_neg hx, ep]
    rw [if_pos (Or.inl (by
      have := of_eq_true a1
      rw [Int32.lt_iff_toInt_lt] at this ⊢
      have e0 : (nI 0).toInt = 0 := rfl
      have e1 : (nI 1).toInt = 1 := rfl
      omega))] at k128
    rw [eo]
    refine oM_id hR ?_
    simp only [b192_0, b192_5, b192_12, b192_18, b192_21, b192_23, b192_32, b192_35, b192_47, b192_56, e192, wx_o92 hw, wx_k92 hw, wx_q92 hw, wx_g92_1 hw, wx_s92_1 hw, wx_N93 hw, wx_a93 hw, wx_g92_2 hw, wx_s92_2 hw, wx_N94 hw, wx_a94 hw, wx_g92_3 hw, wx_s92_3 hw, wx_N95 hw, wx_a95 hw, wx_g92_4 hw, wx_s92_4 hw, wx_N96 hw, wx_a96 hw, wx_g92_5 hw, wx_s92_5 hw, wx_N97 hw, wx_a97 hw, wx_g92_6 hw, wx_s92_6 hw, wx_N98 hw, wx_a98 hw, wx_g92_7 hw, wx_s92_7 hw, wx_N99 hw, wx_a99 hw, wx_g92_9 hw, wx_s92_9 hw, wx_N100 hw, wx_a100 hw, wx_g92_16 hw, wx_s92_16 hw, wx_N101 hw, wx_a101 hw, wx_g92_19 hw, wx_s92_19 hw, wx_N102 hw, wx_a102 hw, wx_g92_20 hw, wx_s92_20 hw, wx_N103 hw, wx_a103 hw, wx_g92_21 hw, wx_s92_21 hw, wx_N104 hw, wx_a104 hw, wx_g92_22 hw, wx_s92_22 hw, wx_N105 hw, wx_a105 hw, wx_g92_23 hw, wx_s92_23 hw, wx_N106 hw, wx_a106 hw, wx_g92_24 hw, wx_s92_24 hw, wx_N107 hw, wx_a107 hw, wx_g92_25 hw, wx_s92_25 hw, wx_N108 hw, wx_a108 hw, wx_g92_29 hw, wx_s92_29 hw, wx_N109 hw, wx_a109 hw, wx_g92_30 hw, wx_s92_30 hw, wx_N110 hw, wx_a110 hw, wx_g92_31 hw, wx_s92_31 hw, wx_N111 hw, wx_a111 hw, wx_g92_32 hw, wx_s92_32 hw, wx_N112 hw, wx_a112 hw, wx_g92_33 hw, wx_s92_33 hw, wx_N113 hw, wx_a113 hw, wx_g92_34 hw, wx_s92_34 hw, wx_N114 hw, wx_a114 hw, wx_g92_35 hw, wx_s92_35 hw, wx_N115 hw, wx_a115 hw, wx_g92_38 hw, wx_s92_38 hw, wx_N116 hw, wx_a116 hw, wx_g92_41 hw, wx_s92_41 hw, wx_N117 hw, wx_a117 hw, wx_g92_44 hw, wx_s92_44 hw, wx_N118 hw, wx_a118 hw, wx_g92_45 hw, wx_s92_45 hw, wx_N119 hw, wx_a119 hw, wx_g92_46 hw, wx_s92_46 hw, wx_N120 hw, wx_a120 hw, wx_g92_52 hw, wx_s92_52 hw, wx_N121 hw, wx_a121 hw, wx_g92_55 hw, wx_s92_55 hw, wx_N122 hw, wx_a122 hw, wx_g92_56 hw, wx_s92_56 hw, wx_N123 hw, wx_a123 hw, wx_g92_57 hw, wx_s92_57 hw, wx_N124 hw, wx_a124 hw, wx_g92_58 hw, wx_s92_58 hw, wx_N125 hw, wx_a125 hw, wx_g92_64 hw, wx_s92_64 hw, wx_N126 hw, wx_a126 hw, wx_g92_65 hw, wx_s92_65 hw, wx_N127 hw, wx_a127 hw, wx_g92_66 hw, wx_s92_66 hw, wx_N128 hw, wx_a128 hw, wx_g92_67 hw, wx_s92_67 hw, wx_N129 hw, wx_a129 hw, wx_g92_68 hw, wx_s92_68 hw, wx_N130 hw, wx_a130 hw, wx_g92_69 hw, wx_s92_69 hw, wx_N131 hw, wx_a131 hw, wx_g92_70 hw, wx_s92_70 hw, wx_N132 hw, wx_a132 hw, wx_g92_71 hw, wx_s92_71 hw, wx_N133 hw, wx_a133 hw, wx_g92_72 hw, wx_s92_72 hw, wx_N134 hw, wx_a134 hw, wx_g92_73 hw, wx_s92_73 hw, wx_N135 hw, wx_a135 hw, wx_g92_75 hw, wx_s92_75 hw, wx_N136 hw, wx_a136 hw, List.not_mem_nil, false_implies, implies_true, nI_clamp, nI_add, Nat.reducePow, hp_bd, hp_bdi, hp_ts, hp_tn, hp_tsc, hp_tnc, Nat.reduceAdd, Nat.reduceSub, Nat.reduceMul, Nat.reduceLT, Nat.reduceLeDiff, Nat.reduceEqDiff, reduceIte, not_true_eq_false, not_false_eq_true, and_true, true_and, and_self, and_false, false_and, or_true, true_or, or_false, false_or, decide_true, decide_false, Bool.and_true, Bool.true_and, Bool.not_false, Bool.or_false, Bool.false_or, Bool.or_true, Bool.true_or, hx, k128]
  · have eo : op_22 G x = (-1, G) := by unfold op_22; rw [if_neg hx, ep]
    rw [if_pos (Or.inr (of_eq_true a3))] at k128
    rw [eo]
    refine oM_id hR ?_
    simp only [b192_0, b192_5, b192_12, b192_18, b192_21, b192_23, b192_32, b192_35, b192_47, b192_56, e192, wx_o92 hw, wx_k92 hw, wx_q92 hw, wx_g92_1 hw, wx_s92_1 hw, wx_N93 hw, wx_a93 hw, wx_g92_2 hw, wx_s92_2 hw, wx_N94 hw, wx_a94 hw, wx_g92_3 hw, wx_s92_3 hw, wx_N95 hw, wx_a95 hw, wx_g92_4 hw, wx_s92_4 hw, wx_N96 hw, wx_a96 hw, wx_g92_5 hw, wx_s92_5 hw, wx_N97 hw, wx_a97 hw, wx_g92_6 hw, wx_s92_6 hw, wx_N98 hw, wx_a98 hw, wx_g92_7 hw, wx_s92_7 hw, wx_N99 hw, wx_a99 hw, wx_g92_9 hw, wx_s92_9 hw, wx_N100 hw, wx_a100 hw, wx_g92_16 hw, wx_s92_16 hw, wx_N101 hw, wx_a101 hw, wx_g92_19 hw, wx_s92_19 hw, wx_N102 hw, wx_a102 hw, wx_g92_20 hw, wx_s92_20 hw, wx_N103 hw, wx_a103 hw, wx_g92_21 hw, wx_s92_21 hw, wx_N104 hw, wx_a104 hw, wx_g92_22 hw, wx_s92_22 hw, wx_N105 hw, wx_a105 hw, wx_g92_23 hw, wx_s92_23 hw, wx_N106 hw, wx_a106 hw, wx_g92_24 hw, wx_s92_24 hw, wx_N107 hw, wx_a107 hw, wx_g92_25 hw, wx_s92_25 hw, wx_N108 hw, wx_a108 hw, wx_g92_29 hw, wx_s92_29 hw, wx_N109 hw, wx_a109 hw, wx_g92_30 hw, wx_s92_30 hw, wx_N110 hw, wx_a110 hw, wx_g92_31 hw, wx_s92_31 hw, wx_N111 hw, wx_a111 hw, wx_g92_32 hw, wx_s92_32 hw, wx_N112 hw, wx_a112 hw, wx_g92_33 hw, wx_s92_33 hw, wx_N113 hw, wx_a113 hw, wx_g92_34 hw, wx_s92_34 hw, wx_N114 hw, wx_a114 hw, wx_g92_35 hw, wx_s92_35 hw, wx_N115 hw, wx_a115 hw, wx_g92_38 hw, wx_s92_38 hw, wx_N116 hw, wx_a116 hw, wx_g92_41 hw, wx_s92_41 hw, wx_N117 hw, wx_a117 hw, wx_g92_44 hw, wx_s92_44 hw, wx_N118 hw, wx_a118 hw, wx_g92_45 hw, wx_s92_45 hw, wx_N119 hw, wx_a119 hw, wx_g92_46 hw, wx_s92_46 hw, wx_N120 hw, wx_a120 hw, wx_g92_52 hw, wx_s92_52 hw, wx_N121 hw, wx_a121 hw, wx_g92_55 hw, wx_s92_55 hw, wx_N122 hw, wx_a122 hw, wx_g92_56 hw, wx_s92_56 hw, wx_N123 hw, wx_a123 hw, wx_g92_57 hw, wx_s92_57 hw, wx_N124 hw, wx_a124 hw, wx_g92_58 hw, wx_s92_58 hw, wx_N125 hw, wx_a125 hw, wx_g92_64 hw, wx_s92_64 hw, wx_N126 hw, wx_a126 hw, wx_g92_65 hw, wx_s92_65 hw, wx_N127 hw, wx_a127 hw, wx_g92_66 hw, wx_s92_66 hw, wx_N128 hw, wx_a128 hw, wx_g92_67 hw, wx_s92_67 hw, wx_N129 hw, wx_a129 hw, wx_g92_68 hw, wx_s92_68 hw, wx_N130 hw, wx_a130 hw, wx_g92_69 hw, wx_s92_69 hw, wx_N131 hw, wx_a131 hw, wx_g92_70 hw, wx_s92_70 hw, wx_N132 hw, wx_a132 hw, wx_g92_71 hw, wx_s92_71 hw, wx_N133 hw, wx_a133 hw, wx_g92_72 hw, wx_s92_72 hw, wx_N134 hw, wx_a134 hw, wx_g92_73 hw, wx_s92_73 hw, wx_N135 hw, wx_a135 hw, wx_g92_75 hw, wx_s92_75 hw, wx_N136 hw, wx_a136 hw, List.not_mem_nil, false_implies, implies_true, nI_clamp, nI_add, Nat.reducePow, hp_bd, hp_bdi, hp_ts, hp_tn, hp_tsc, hp_tnc, Nat.reduceAdd, Nat.reduceSub, Nat.reduceMul, Nat.reduceLT, Nat.reduceLeDiff, Nat.reduceEqDiff, reduceIte, not_true_eq_false, not_false_eq_true, and_true, true_and, and_self, and_false, false_and, or_true, true_or, or_false, false_or, decide_true, decide_false, Bool.and_true, Bool.true_and, Bool.not_false, Bool.or_false, Bool.false_or, Bool.or_true, Bool.true_or, hx, k128]
  by_cases h0 : n = 0
  · subst h0
    have eo : op_22 G (nI 0) = (-1, G) := by unfold op_22; rw [if_neg hx, ep]; rfl
    rw [if_pos (Or.inl (by decide))] at k128
    rw [eo]
    refine oM_id hR ?_
    simp only [b192_0, b192_5, b192_12, b192_18, b192_21, b192_23, b192_32, b192_35, b192_47, b192_56, e192, wx_o92 hw, wx_k92 hw, wx_q92 hw, wx_g92_1 hw, wx_s92_1 hw, wx_N93 hw, wx_a93 hw, wx_g92_2 hw, wx_s92_2 hw, wx_N94 hw, wx_a94 hw, wx_g92_3 hw, wx_s92_3 hw, wx_N95 hw, wx_a95 hw, wx_g92_4 hw, wx_s92_4 hw, wx_N96 hw, wx_a96 hw, wx_g92_5 hw, wx_s92_5 hw, wx_N97 hw, wx_a97 hw, wx_g92_6 hw, wx_s92_6 hw, wx_N98 hw, wx_a98 hw, wx_g92_7 hw, wx_s92_7 hw, wx_N99 hw, wx_a99 hw, wx_g92_9 hw, wx_s92_9 hw, wx_N100 hw, wx_a100 hw, wx_g92_16 hw, wx_s92_16 hw, wx_N101 hw, wx_a101 hw, wx_g92_19 hw, wx_s92_19 hw, wx_N102 hw, wx_a102 hw, wx_g92_20 hw, wx_s92_20 hw, wx_N103 hw, wx_a103 hw, wx_g92_21 hw, wx_s92_21 hw, wx_N104 hw, wx_a104 hw, wx_g92_22 hw, wx_s92_22 hw, wx_N105 hw, wx_a105 hw, wx_g92_23 hw, wx_s92_23 hw, wx_N106 hw, wx_a106 hw, wx_g92_24 hw, wx_s92_24 hw, wx_N107 hw, wx_a107 hw, wx_g92_25 hw, wx_s92_25 hw, wx_N108 hw, wx_a108 hw, wx_g92_29 hw, wx_s92_29 hw, wx_N109 hw, wx_a109 hw, wx_g92_30 hw, wx_s92_30 hw, wx_N110 hw, wx_a110 hw, wx_g92_31 hw, wx_s92_31 hw, wx_N111 hw, wx_a111 hw, wx_g92_32 hw, wx_s92_32 hw, wx_N112 hw, wx_a112 hw, wx_g92_33 hw, wx_s92_33 hw, wx_N113 hw, wx_a113 hw, wx_g92_34 hw, wx_s92_34 hw, wx_N114 hw, wx_a114 hw, wx_g92_35 hw, wx_s92_35 hw, wx_N115 hw, wx_a115 hw, wx_g92_38 hw, wx_s92_38 hw, wx_N116 hw, wx_a116 hw, wx_g92_41 hw, wx_s92_41 hw, wx_N117 hw, wx_a117 hw, wx_g92_44 hw, wx_s92_44 hw, wx_N118 hw, wx_a118 hw, wx_g92_45 hw, wx_s92_45 hw, wx_N119 hw, wx_a119 hw, wx_g92_46 hw, wx_s92_46 hw, wx_N120 hw, wx_a120 hw, wx_g92_52 hw, wx_s92_52 hw, wx_N121 hw, wx_a121 hw, wx_g92_55 hw, wx_s92_55 hw, wx_N122 hw, wx_a122 hw, wx_g92_56 hw, wx_s92_56 hw, wx_N123 hw, wx_a123 hw, wx_g92_57 hw, wx_s92_57 hw, wx_N124 hw, wx_a124 hw, wx_g92_58 hw, wx_s92_58 hw, wx_N125 hw, wx_a125 hw, wx_g92_64 hw, wx_s92_64 hw, wx_N126 hw, wx_a126 hw, wx_g92_65 hw, wx_s92_65 hw, wx_N127 hw, wx_a127 hw, wx_g92_66 hw, wx_s92_66 hw, wx_N128 hw, wx_a128 hw, wx_g92_67 hw, wx_s92_67 hw, wx_N129 hw, wx_a129 hw, wx_g92_68 hw, wx_s92_68 hw, wx_N130 hw, wx_a130 hw, wx_g92_69 hw, wx_s92_69 hw, wx_N131 hw, wx_a131 hw, wx_g92_70 hw, wx_s92_70 hw, wx_N132 hw, wx_a132 hw, wx_g92_71 hw, wx_s92_71 hw, wx_N133 hw, wx_a133 hw, wx_g92_72 hw, wx_s92_72 hw, wx_N134 hw, wx_a134 hw, wx_g92_73 hw, wx_s92_73 hw, wx_N135 hw, wx_a135 hw, wx_g92_75 hw, wx_s92_75 hw, wx_N136 hw, wx_a136 hw, List.not_mem_nil, false_implies, implies_true, nI_clamp, nI_add, Nat.reducePow, hp_bd, hp_bdi, hp_ts, hp_tn, hp_tsc, hp_tnc, Nat.reduceAdd, Nat.reduceSub, Nat.reduceMul, Nat.reduceLT, Nat.reduceLeDiff, Nat.reduceEqDiff, reduceIte, not_true_eq_false, not_false_eq_true, and_true, true_and, and_self, and_false, false_and, or_true, true_or, or_false, false_or, decide_true, decide_false, Bool.and_true, Bool.true_and, Bool.not_false, Bool.or_false, Bool.false_or, Bool.or_true, Bool.true_or, hx, k128]
  rw [if_neg (fun e => e.elim (nI_nlt (by omega) (by omega)) (of_eq_false a3))] at k128
  have e12 : (nI (gx_f G.1).length = nI 12) = ((gx_f G.1).length = 12) := propext (nI_eq (by omega) (by decide))
  by_cases hf : (gx_f G.1).length = 12
  · have eo : op_22 G (nI n) = (-4, G) := by unfold op_22; rw [if_neg hx, ep]; simp only [h0, hf, if_true, if_false]
    rw [eo]
    refine oM_id hR ?_
    simp only [b192_0, b192_5, b192_12, b192_18, b192_21, b192_23, b192_32, b192_35, b192_47, b192_56, e192, wx_o92 hw, wx_k92 hw, wx_q92 hw, wx_g92_1 hw, wx_s92_1 hw, wx_N93 hw, wx_a93 hw, wx_g92_2 hw, wx_s92_2 hw, wx_N94 hw, wx_a94 hw, wx_g92_3 hw, wx_s92_3 hw, wx_N95 hw, wx_a95 hw, wx_g92_4 hw, wx_s92_4 hw, wx_N96 hw, wx_a96 hw, wx_g92_5 hw, wx_s92_5 hw, wx_N97 hw, wx_a97 hw, wx_g92_6 hw, wx_s92_6 hw, wx_N98 hw, wx_a98 hw, wx_g92_7 hw, wx_s92_7 hw, wx_N99 hw, wx_a99 hw, wx_g92_9 hw, wx_s92_9 hw, wx_N100 hw, wx_a100 hw, wx_g92_16 hw, wx_s92_16 hw, wx_N101 hw, wx_a101 hw, wx_g92_19 hw, wx_s92_19 hw, wx_N102 hw, wx_a102 hw, wx_g92_20 hw, wx_s92_20 hw, wx_N103 hw, wx_a103 hw, wx_g92_21 hw, wx_s92_21 hw, wx_N104 hw, wx_a104 hw, wx_g92_22 hw, wx_s92_22 hw, wx_N105 hw, wx_a105 hw, wx_g92_23 hw, wx_s92_23 hw, wx_N106 hw, wx_a106 hw, wx_g92_24 hw, wx_s92_24 hw, wx_N107 hw, wx_a107 hw, wx_g92_25 hw, wx_s92_25 hw, wx_N108 hw, wx_a108 hw, wx_g92_29 hw, wx_s92_29 hw, wx_N109 hw, wx_a109 hw, wx_g92_30 hw, wx_s92_30 hw, wx_N110 hw, wx_a110 hw, wx_g92_31 hw, wx_s92_31 hw, wx_N111 hw, wx_a111 hw, wx_g92_32 hw, wx_s92_32 hw, wx_N112 hw, wx_a112 hw, wx_g92_33 hw, wx_s92_33 hw, wx_N113 hw, wx_a113 hw, wx_g92_34 hw, wx_s92_34 hw, wx_N114 hw, wx_a114 hw, wx_g92_35 hw, wx_s92_35 hw, wx_N115 hw, wx_a115 hw, wx_g92_38 hw, wx_s92_38 hw, wx_N116 hw, wx_a116 hw, wx_g92_41 hw, wx_s92_41 hw, wx_N117 hw, wx_a117 hw, wx_g92_44 hw, wx_s92_44 hw, wx_N118 hw, wx_a118 hw, wx_g92_45 hw, wx_s92_45 hw, wx_N119 hw, wx_a119 hw, wx_g92_46 hw, wx_s92_46 hw, wx_N120 hw, wx_a120 hw, wx_g92_52 hw, wx_s92_52 hw, wx_N121 hw, wx_a121 hw, wx_g92_55 hw, wx_s92_55 hw, wx_N122 hw, wx_a122 hw, wx_g92_56 hw, wx_s92_56 hw, wx_N123 hw, wx_a123 hw, wx_g92_57 hw, wx_s92_57 hw, wx_N124 hw, wx_a124 hw, wx_g92_58 hw, wx_s92_58 hw, wx_N125 hw, wx_a125 hw, wx_g92_64 hw, wx_s92_64 hw, wx_N126 hw, wx_a126 hw, wx_g92_65 hw, wx_s92_65 hw, wx_N127 hw, wx_a127 hw, wx_g92_66 hw, wx_s92_66 hw, wx_N128 hw, wx_a128 hw, wx_g92_67 hw, wx_s92_67 hw, wx_N129 hw, wx_a129 hw, wx_g92_68 hw, wx_s92_68 hw, wx_N130 hw, wx_a130 hw, wx_g92_69 hw, wx_s92_69 hw, wx_N131 hw, wx_a131 hw, wx_g92_70 hw, wx_s92_70 hw, wx_N132 hw, wx_a132 hw, wx_g92_71 hw, wx_s92_71 hw, wx_N133 hw, wx_a133 hw, wx_g92_72 hw, wx_s92_72 hw, wx_N134 hw, wx_a134 hw, wx_g92_73 hw, wx_s92_73 hw, wx_N135 hw, wx_a135 hw, wx_g92_75 hw, wx_s92_75 hw, wx_N136 hw, wx_a136 hw, List.not_mem_nil, false_implies, implies_true, nI_clamp, nI_add, Nat.reducePow, hp_bd, hp_bdi, hp_ts, hp_tn, hp_tsc, hp_tnc, Nat.reduceAdd, Nat.reduceSub, Nat.reduceMul, Nat.reduceLT, Nat.reduceLeDiff, Nat.reduceEqDiff, reduceIte, not_true_eq_false, not_false_eq_true, and_true, true_and, and_self, and_false, false_and, or_true, true_or, or_false, false_or, decide_true, decide_false, Bool.and_true, Bool.true_and, Bool.not_false, Bool.or_false, Bool.false_or, Bool.or_true, Bool.true_or, hx, k128, i01, h17, e12, hf]
  · have eo : op_22 G (nI n) = (nI ((gx_f G.1).length + 1), gX_f G.1 (gx_f G.1 ++ [n]), G.2) := by unfold op_22; rw [if_neg hx, ep]; simp only [h0, hf, if_false]
    have cl : (nI (gx_f G.1).length).toNatClampNeg = (gx_f G.1).length := nI_clamp (by omega)
    have hbi : mm_inb (nI (gx_f G.1).length) 12 = true := hp_inb (by omega) (by omega)
    have f : sf_f (fun c j => (c = 92 ∧ (j = 14 ∨ j = 15)) ∨ c = 101) S (mm_uM (mm_uM S 101 (gx_f G.1).length (nI n)) 92 15 (nI ((gx_f G.1).length + 1))) := sf_tr (sf_uM (Or.inr rfl)) (sf_uM (Or.inl ⟨rfl, Or.inr rfl⟩))
    obtain ⟨g1, g2, g3, g4⟩ := mX_u f ok hR
    rw [eo]
    refine oM_X hR (T := mm_uM (mm_uM S 101 (gx_f G.1).length (nI n)) 92 15 (nI ((gx_f G.1).length + 1))) ?_ (sf_tr (sf_uM (by unfold gm_now; omega)) (sf_uM (by unfold gm_now; omega))) hw ⟨g1, g2, (rdn (by omega)).trans ((rdn (by omega)).trans hR.2.1.2.2.1), ?_, fun i hi => ?_, g3, g4⟩ rfl rfl
    · simp only [b192_0, b192_5, b192_12, b192_18, b192_21, b192_23, b192_32, b192_35, b192_47, b192_56, e192, wx_o92 hw, wx_k92 hw, wx_q92 hw, wx_g92_1 hw, wx_s92_1 hw, wx_N93 hw, wx_a93 hw, wx_g92_2 hw, wx_s92_2 hw, wx_N94 hw, wx_a94 hw, wx_g92_3 hw, wx_s92_3 hw, wx_N95 hw, wx_a95 hw, wx_g92_4 hw, wx_s92_4 hw, wx_N96 hw, wx_a96 hw, wx_g92_5 hw, wx_s92_5 hw, wx_N97 hw, wx_a97 hw, wx_g92_6 hw, wx_s92_6 hw, wx_N98 hw, wx_a98 hw, wx_g92_7 hw, wx_s92_7 hw, wx_N99 hw, wx_a99 hw, wx_g92_9 hw, wx_s92_9 hw, wx_N100 hw, wx_a100 hw, wx_g92_16 hw, wx_s92_16 hw, wx_N101 hw, wx_a101 hw, wx_g92_19 hw, wx_s92_19 hw, wx_N102 hw, wx_a102 hw, wx_g92_20 hw, wx_s92_20 hw, wx_N103 hw, wx_a103 hw, wx_g92_21 hw, wx_s92_21 hw, wx_N104 hw, wx_a104 hw, wx_g92_22 hw, wx_s92_22 hw, wx_N105 hw, wx_a105 hw, wx_g92_23 hw, wx_s92_23 hw, wx_N106 hw, wx_a106 hw, wx_g92_24 hw, wx_s92_24 hw, wx_N107 hw, wx_a107 hw, wx_g92_25 hw, wx_s92_25 hw, wx_N108 hw, wx_a108 hw, wx_g92_29 hw, wx_s92_29 hw, wx_N109 hw, wx_a109 hw, wx_g92_30 hw, wx_s92_30 hw, wx_N110 hw, wx_a110 hw, wx_g92_31 hw, wx_s92_31 hw, wx_N111 hw, wx_a111 hw, wx_g92_32 hw, wx_s92_32 hw, wx_N112 hw, wx_a112 hw, wx_g92_33 hw, wx_s92_33 hw, wx_N113 hw, wx_a113 hw, wx_g92_34 hw, wx_s92_34 hw, wx_N114 hw, wx_a114 hw, wx_g92_35 hw, wx_s92_35 hw, wx_N115 hw, wx_a115 hw, wx_g92_38 hw, wx_s92_38 hw, wx_N116 hw, wx_a116 hw, wx_g92_41 hw, wx_s92_41 hw, wx_N117 hw, wx_a117 hw, wx_g92_44 hw, wx_s92_44 hw, wx_N118 hw, wx_a118 hw, wx_g92_45 hw, wx_s92_45 hw, wx_N119 hw, wx_a119 hw, wx_g92_46 hw, wx_s92_46 hw, wx_N120 hw, wx_a120 hw, wx_g92_52 hw, wx_s92_52 hw, wx_N121 hw, wx_a121 hw, wx_g92_55 hw, wx_s92_55 hw, wx_N122 hw, wx_a122 hw, wx_g92_56 hw, wx_s92_56 hw, wx_N123 hw, wx_a123 hw, wx_g92_57 hw, wx_s92_57 hw, wx_N124 hw, wx_a124 hw, wx_g92_58 hw, wx_s92_58 hw, wx_N125 hw, wx_a125 hw, wx_g92_64 hw, wx_s92_64 hw, wx_N126 hw, wx_a126 hw, wx_g92_65 hw, wx_s92_65 hw, wx_N127 hw, wx_a127 hw, wx_g92_66 hw, wx_s92_66 hw, wx_N128 hw, wx_a128 hw, wx_g92_67 hw, wx_s92_67 hw, wx_N129 hw, wx_a129 hw, wx_g92_68 hw, wx_s92_68 hw, wx_N130 hw, wx_a130 hw, wx_g92_69 hw, wx_s92_69 hw, wx_N131 hw, wx_a131 hw, wx_g92_70 hw, wx_s92_70 hw, wx_N132 hw, wx_a132 hw, wx_g92_71 hw, wx_s92_71 hw, wx_N133 hw, wx_a133 hw, wx_g92_72 hw, wx_s92_72 hw, wx_N134 hw, wx_a134 hw, wx_g92_73 hw, wx_s92_73 hw, wx_N135 hw, wx_a135 hw, wx_g92_75 hw, wx_s92_75 hw, wx_N136 hw, wx_a136 hw, List.not_mem_nil, false_implies, implies_true, nI_clamp, nI_add, Nat.reducePow, hp_bd, hp_bdi, hp_ts, hp_tn, hp_tsc, hp_tnc, Nat.reduceAdd, Nat.reduceSub, Nat.reduceMul, Nat.reduceLT, Nat.reduceLeDiff, Nat.reduceEqDiff, reduceIte, not_true_eq_false, not_false_eq_true, and_true, true_and, and_self, and_false, false_and, or_true, true_or, or_false, false_or, decide_true, decide_false, Bool.and_true, Bool.true_and, Bool.not_false, Bool.or_false, Bool.false_or, Bool.or_true, Bool.true_or, hp_MuM, hp_LuL, hp_RuR, hp_McpM, hp_LcpL, hp_LuM, hp_RuM, hp_KuM, hp_NuM, hp_nuM, hp_zuM, hp_ouM, hp_auM, hp_kuM, hp_guM, hp_MuL, hp_RuL, hp_KuL, hp_NuL, hp_nuL, hp_zuL, hp_ouL, hp_auL, hp_kuL, hp_guL, hp_MuR, hp_LuR, hp_KuR, hp_NuR, hp_nuR, hp_zuR, hp_ouR, hp_auR, hp_kuR, hp_LcpM, hp_RcpM, hp_KcpM, hp_NcpM, hp_ncpM, hp_zcpM, hp_ocpM, hp_acpM, hp_kcpM, hp_gcpM, hp_McpL, hp_RcpL, hp_KcpL, hp_NcpL, hp_ncpL, hp_zcpL, hp_ocpL, hp_acpL, hp_kcpL, hp_gcpL, hp_MwM, hp_LwM, hp_RwM, hp_KwM, hp_NwM, hp_nwM, hp_zwM, hp_owM, hp_awM, hp_kwM, hp_gwM, hp_MwR, hp_LwR, hp_RwR, hp_KwR, hp_NwR, hp_nwR, hp_zwR, hp_owR, hp_awR, hp_kwR, hp_MwL, hp_LwL, hp_RwL, hp_KwL, hp_NwL, hp_nwL, hp_zwL, hp_owL, hp_awL, hp_kwL, hp_gwL, hp_w2M, hp_w2R, hp_w2L, hx, k128, i01, h17, e12, hf, cl, hbi]
    · rw [rds]
      show _ = nI (gx_f G.1 ++ [n]).length
      rw [List.length_append]; rfl
    · have hi : i < (gx_f G.1 ++ [n]).length := hi
      rw [List.length_append] at hi
      show mm_M _ 101 i = nI ((gx_f G.1 ++ [n]).getD i 0)
      rw [rdn (by omega), rdk]
      by_cases e : i = (gx_f G.1).length
      · rw [if_pos e, e, List.getD_eq_getElem?_getD, List.getElem?_append_right (Nat.le_refl _), Nat.sub_self]; rfl
      · have hi2 : i < (gx_f G.1).length := by
          have : [n].length = 1 := rfl
          omega
        rw [if_neg e, List.getD_eq_getElem?_getD, List.getElem?_append_left hi2, ← List.getD_eq_getElem?_getD]
        exact hi6 i hi2
theorem m_28 (ok : gb_ok G) (hR : RM S G) : oM S d 204 [.ref 92, .int x] (.int (an_28 G x)) G := by
  have hw := hR.1
  have hl : (gb_r G).length ≤ 20 := ok.2.2.2.2.2.2.2.1
  obtain ⟨h0, h1⟩ := hR.2.2.2.2.2.2.1
  refine oM_id hR ?_
  unfold an_28
  unfold ab_kw
  by_cases a1 : x < nI 0
  · rw [if_pos (Or.inl a1)]
    simp only [b204_0, b204_4, b204_12, b204_18, b204_27, e204, wx_o92 hw, wx_k92 hw, wx_q92 hw, wx_g92_1 hw, wx_s92_1 hw, wx_N93 hw, wx_a93 hw, wx_g92_2 hw, wx_s92_2 hw, wx_N94 hw, wx_a94 hw, wx_g92_3 hw, wx_s92_3 hw, wx_N95 hw, wx_a95 hw, wx_g92_4 hw, wx_s92_4 hw, wx_N96 hw, wx_a96 hw, wx_g92_5 hw, wx_s92_5 hw, wx_N97 hw, wx_a97 hw, wx_g92_6 hw, wx_s92_6 hw, wx_N98 hw, wx_a98 hw, wx_g92_7 hw, wx_s92_7 hw, wx_N99 hw, wx_a99 hw, wx_g92_9 hw, wx_s92_9 hw, wx_N100 hw, wx_a100 hw, wx_g92_16 hw, wx_s92_16 hw, wx_N101 hw, wx_a101 hw, wx_g92_19 hw, wx_s92_19 hw, wx_N102 hw, wx_a102 hw, wx_g92_20 hw, wx_s92_20 hw, wx_N103 hw, wx_a103 hw, wx_g92_21 hw, wx_s92_21 hw, wx_N104 hw, wx_a104 hw, wx_g92_22 hw, wx_s92_22 hw, wx_N105 hw, wx_a105 hw, wx_g92_23 hw, wx_s92_23 hw, wx_N106 hw, wx_a106 hw, wx_g92_24 hw, wx_s92_24 hw, wx_N107 hw, wx_a107 hw, wx_g92_25 hw, wx_s92_25 hw, wx_N108 hw, wx_a108 hw, wx_g92_29 hw, wx_s92_29 hw, wx_N109 hw, wx_a109 hw, wx_g92_30 hw, wx_s92_30 hw, wx_N110 hw, wx_a110 hw, wx_g92_31 hw, wx_s92_31 hw, wx_N111 hw, wx_a111 hw, wx_g92_32 hw, wx_s92_32 hw, wx_N112 hw, wx_a112 hw, wx_g92_33 hw, wx_s92_33 hw, wx_N113 hw, wx_a113 hw, wx_g92_34 hw, wx_s92_34 hw, wx_N114 hw, wx_a114 hw, wx_g92_35 hw, wx_s92_35 hw, wx_N115 hw, wx_a115 hw, wx_g92_38 hw, wx_s92_38 hw, wx_N116 hw, wx_a116 hw, wx_g92_41 hw, wx_s92_41 hw, wx_N117 hw, wx_a117 hw, wx_g92_44 hw, wx_s92_44 hw, wx_N118 hw, wx_a118 hw, wx_g92_45 hw, wx_s92_45 hw, wx_N119 hw, wx_a119 hw, wx_g92_46 hw, wx_s92_46 hw, wx_N120 hw, wx_a120 hw, wx_g92_52 hw, wx_s92_52 hw, wx_N121 hw, wx_a121 hw, wx_g92_55 hw, wx_s92_55 hw, wx_N122 hw, wx_a122 hw, wx_g92_56 hw, wx_s92_56 hw, wx_N123 hw, wx_a123 hw, wx_g92_57 hw, wx_s92_57 hw, wx_N124 hw, wx_a124 hw, wx_g92_58 hw, wx_s92_58 hw, wx_N125 hw, wx_a125 hw, wx_g92_64 hw, wx_s92_64 hw, wx_N126 hw, wx_a126 hw, wx_g92_65 hw, wx_s92_65 hw, wx_N127 hw, wx_a127 hw, wx_g92_66 hw, wx_s92_66 hw, wx_N128 hw, wx_a128 hw, wx_g92_67 hw, wx_s92_67 hw, wx_N129 hw, wx_a129 hw, wx_g92_68 hw, wx_s92_68 hw, wx_N130 hw, wx_a130 hw, wx_g92_69 hw, wx_s92_69 hw, wx_N131 hw, wx_a131 hw, wx_g92_70 hw, wx_s92_70 hw, wx_N132 hw, wx_a132 hw, wx_g92_71 hw, wx_s92_71 hw, wx_N133 hw, wx_a133 hw, wx_g92_72 hw, wx_s92_72 hw, wx_N134 hw, wx_a134 hw, wx_g92_73 hw, wx_s92_73 hw, wx_N135 hw, wx_a135 hw, wx_g92_75 hw, wx_s92_75 hw, wx_N136 hw, wx_a136 hw, List.not_mem_nil, false_implies, implies_true, nI_clamp, nI_add, Nat.reducePow, hp_bd, hp_bdi, hp_ts, hp_tn, hp_tsc, hp_tnc, Nat.reduceAdd, Nat.reduceSub, Nat.reduceMul, Nat.reduceLT, Nat.reduceLeDiff, Nat.reduceEqDiff, reduceIte, not_true_eq_false, not_false_eq_true, and_true, true_and, and_self, and_false, false_and, or_true, true_or, or_false, false_or, decide_true, decide_false, Bool.and_true, Bool.true_and, Bool.not_false, Bool.or_false, Bool.false_or, Bool.or_true, Bool.true_or, a1]
  · by_cases a2 : nI (gb_r G).length ≤ x
    · rw [if_pos (Or.inr a2)]
      simp only [b204_0, b204_4, b204_12, b204_18, b204_27, e204, wx_o92 hw, wx_k92 hw, wx_q92 hw, wx_g92_1 hw, wx_s92_1 hw, wx_N93 hw, wx_a93 hw, wx_g92_2 hw, wx_s92_2 hw, wx_N94 hw, wx_a94 hw, wx_g92_3 hw, wx_s92_3 hw, wx_N95 hw, wx_a95 hw, wx_g92_4 hw, wx_s92_4 hw, wx_N96 hw, wx_a96 hw, wx_g92_5 hw, wx_s92_5 hw, wx_N97 hw, wx_a97 hw, wx_g92_6 hw, wx_s92_6 hw, wx_N98 hw, wx_a98 hw, wx_g92_7 hw, wx_s92_7 hw, wx_N99 hw, wx_a99 hw, wx_g92_9 hw, wx_s92_9 hw, wx_N100 hw, wx_a100 hw, wx_g92_16 hw, wx_s92_16 hw, wx_N101 hw, wx_a101 hw, wx_g92_19 hw, wx_s92_19 hw, wx_N102 hw, wx_a102 hw, wx_g92_20 hw, wx_s92_20 hw, wx_N103 hw, wx_a103 hw, wx_g92_21 hw, wx_s92_21 hw, wx_N104 hw, wx_a104 hw, wx_g92_22 hw, wx_s92_22 hw, wx_N105 hw, wx_a105 hw, wx_g92_23 hw, wx_s92_23 hw, wx_N106 hw, wx_a106 hw, wx_g92_24 hw, wx_s92_24 hw, wx_N107 hw, wx_a107 hw, wx_g92_25 hw, wx_s92_25 hw, wx_N108 hw, wx_a108 hw, wx_g92_29 hw, wx_s92_29 hw, wx_N109 hw, wx_a109 hw, wx_g92_30 hw, wx_s92_30 hw, wx_N110 hw, wx_a110 hw, wx_g92_31 hw, wx_s92_31 hw, wx_N111 hw, wx_a111 hw, wx_g92_32 hw, wx_s92_32 hw, wx_N112 hw, wx_a112 hw, wx_g92_33 hw, wx_s92_33 hw, wx_N113 hw, wx_a113 hw, wx_g92_34 hw, wx_s92_34 hw, wx_N114 hw, wx_a114 hw, wx_g92_35 hw, wx_s92_35 hw, wx_N115 hw, wx_a115 hw, wx_g92_38 hw, wx_s92_38 hw, wx_N116 hw, wx_a116 hw, wx_g92_41 hw, wx_s92_41 hw, wx_N117 hw, wx_a117 hw, wx_g92_44 hw, wx_s92_44 hw, wx_N118 hw, wx_a118 hw, wx_g92_45 hw, wx_s92_45 hw, wx_N119 hw, wx_a119 hw, wx_g92_46 hw, wx_s92_46 hw, wx_N120 hw, wx_a120 hw, wx_g92_52 hw, wx_s92_52 hw, wx_N121 hw, wx_a121 hw, wx_g92_55 hw, wx_s92_55 hw, wx_N122 hw, wx_a122 hw, wx_g92_56 hw, wx_s92_56 hw, wx_N123 hw, wx_a123 hw, wx_g92_57 hw, wx_s92_57 hw, wx_N124 hw, wx_a124 hw, wx_g92_58 hw, wx_s92_58 hw, wx_N125 hw, wx_a125 hw, wx_g92_64 hw, wx_s92_64 hw, wx_N126 hw, wx_a126 hw, wx_g92_65 hw, wx_s92_65 hw, wx_N127 hw, wx_a127 hw, wx_g92_66 hw, wx_s92_66 hw, wx_N128 hw, wx_a128 hw, wx_g92_67 hw, wx_s92_67 hw, wx_N129 hw, wx_a129 hw, wx_g92_68 hw, wx_s92_68 hw, wx_N130 hw, wx_a130 hw, wx_g92_69 hw, wx_s92_69 hw, wx_N131 hw, wx_a131 hw, wx_g92_70 hw, wx_s92_70 hw, wx_N132 hw, wx_a132 hw, wx_g92_71 hw, wx_s92_71 hw, wx_N133 hw, wx_a133 hw, wx_g92_72 hw, wx_s92_72 hw, wx_N134 hw, wx_a134 hw, wx_g92_73 hw, wx_s92_73 hw, wx_N135 hw, wx_a135 hw, wx_g92_75 hw, wx_s92_75 hw, wx_N136 hw, wx_a136 hw, List.not_mem_nil, false_implies, implies_true, nI_clamp, nI_add, Nat.reducePow, hp_bd, hp_bdi, hp_ts, hp_tn, hp_tsc, hp_tnc, Nat.reduceAdd, Nat.reduceSub, Nat.reduceMul, Nat.reduceLT, Nat.reduceLeDiff, Nat.reduceEqDiff, reduceIte, not_true_eq_false, not_false_eq_true, and_true, true_and, and_self, and_false, false_and, or_true, true_or, or_false, false_or, decide_true, decide_false, Bool.and_true, Bool.true_and, Bool.not_false, Bool.or_false, Bool.false_or, Bool.or_true, Bool.true_or, a1, a2, h0]
    · rw [if_neg (fun e => e.elim a1 a2)]
      rcases kw_d (n := 20) (m := 21) rfl (by decide) x with ⟨-, b1, -⟩ | ⟨-, -, -, b3, -⟩ | ⟨n, hp, -, rfl, -⟩
      · exact absurd (of_eq_true b1) a1
      · exfalso
        have := of_eq_true b3
        rw [Int32.lt_iff_toInt_lt] at this
        rw [Int32.le_iff_toInt_le, nI_toInt (by omega)] at a2
        have e0 : (nI 20).toInt = 20 := rfl
        omega
      · have hn : n < (gb_r G).length := by
          rw [nI_leI (by omega) (by omega)] at a2
          omega
        have cl : (nI n).toNatClampNeg = n := nI_clamp (by omega)
        have i2 : mm_inb (nI n) 20 = true := hp_inb (by omega) (by omega)
        have g := h1 n hn
        have a3 : ¬ nI 20 ≤ nI n := nI_ge (by omega) (by decide)
        simp only [b204_0, b204_4, b204_12, b204_18, b204_27, e204, wx_o92 hw, wx_k92 hw, wx_q92 hw, wx_g92_1 hw, wx_s92_1 hw, wx_N93 hw, wx_a93 hw, wx_g92_2 hw, wx_s92_2 hw, wx_N94 hw, wx_a94 hw, wx_g92_3 hw, wx_s92_3 hw, wx_N95 hw, wx_a95 hw, wx_g92_4 hw, wx_s92_4 hw, wx_N96 hw, wx_a96 hw, wx_g92_5 hw, wx_s92_5 hw, wx_N97 hw, wx_a97 hw, wx_g92_6 hw, wx_s92_6 hw, wx_N98 hw, wx_a98 hw, wx_g92_7 hw, wx_s92_7 hw, wx_N99 hw, wx_a99 hw, wx_g92_9 hw, wx_s92_9 hw, wx_N100 hw, wx_a100 hw, wx_g92_16 hw, wx_s92_16 hw, wx_N101 hw, wx_a101 hw, wx_g92_19 hw, wx_s92_19 hw, wx_N102 hw, wx_a102 hw, wx_g92_20 hw, wx_s92_20 hw, wx_N103 hw, wx_a103 hw, wx_g92_21 hw, wx_s92_21 hw, wx_N104 hw, wx_a104 hw, wx_g92_22 hw, wx_s92_22 hw, wx_N105 hw, wx_a105 hw, wx_g92_23 hw, wx_s92_23 hw, wx_N106 hw, wx_a106 hw, wx_g92_24 hw, wx_s92_24 hw, wx_N107 hw, wx_a107 hw, wx_g92_25 hw, wx_s92_25 hw, wx_N108 hw, wx_a108 hw, wx_g92_29 hw, wx_s92_29 hw, wx_N109 hw, wx_a109 hw, wx_g92_30 hw, wx_s92_30 hw, wx_N110 hw, wx_a110 hw, wx_g92_31 hw, wx_s92_31 hw, wx_N111 hw, wx_a111 hw, wx_g92_32 hw, wx_s92_32 hw, wx_N112 hw, wx_a112 hw, wx_g92_33 hw, wx_s92_33 hw, wx_N113 hw, wx_a113 hw, wx_g92_34 hw, wx_s92_34 hw, wx_N114 hw, wx_a114 hw, wx_g92_35 hw, wx_s92_35 hw, wx_N115 hw, wx_a115 hw, wx_g92_38 hw, wx_s92_38 hw, wx_N116 hw, wx_a116 hw, wx_g92_41 hw, wx_s92_41 hw, wx_N117 hw, wx_a117 hw, wx_g92_44 hw, wx_s92_44 hw, wx_N118 hw, wx_a118 hw, wx_g92_45 hw, wx_s92_45 hw, wx_N119 hw, wx_a119 hw, wx_g92_46 hw, wx_s92_46 hw, wx_N120 hw, wx_a120 hw, wx_g92_52 hw, wx_s92_52 hw, wx_N121 hw, wx_a121 hw, wx_g92_55 hw, wx_s92_55 hw, wx_N122 hw, wx_a122 hw, wx_g92_56 hw, wx_s92_56 hw, wx_N123 hw, wx_a123 hw, wx_g92_57 hw, wx_s92_57 hw, wx_N124 hw, wx_a124 hw, wx_g92_58 hw, wx_s92_58 hw, wx_N125 hw, wx_a125 hw, wx_g92_64 hw, wx_s92_64 hw, wx_N126 hw, wx_a126 hw, wx_g92_65 hw, wx_s92_65 hw, wx_N127 hw, wx_a127 hw, wx_g92_66 hw, wx_s92_66 hw, wx_N128 hw, wx_a128 hw, wx_g92_67 hw, wx_s92_67 hw, wx_N129 hw, wx_a129 hw, wx_g92_68 hw, wx_s92_68 hw, wx_N130 hw, wx_a130 hw, wx_g92_69 hw, wx_s92_69 hw, wx_N131 hw, wx_a131 hw, wx_g92_70 hw, wx_s92_70 hw, wx_N132 hw, wx_a132 hw, wx_g92_71 hw, wx_s92_71 hw, wx_N133 hw, wx_a133 hw, wx_g92_72 hw, wx_s92_72 hw, wx_N134 hw, wx_a134 hw, wx_g92_73 hw, wx_s92_73 hw, wx_N135 hw, wx_a135 hw, wx_g92_75 hw, wx_s92_75 hw, wx_N136 hw, wx_a136 hw, List.not_mem_nil, false_implies, implies_true, nI_clamp, nI_add, Nat.reducePow, hp_bd, hp_bdi, hp_ts, hp_tn, hp_tsc, hp_tnc, Nat.reduceAdd, Nat.reduceSub, Nat.reduceMul, Nat.reduceLT, Nat.reduceLeDiff, Nat.reduceEqDiff, reduceIte, not_true_eq_false, not_false_eq_true, and_true, true_and, and_self, and_false, false_and, or_true, true_or, or_false, false_or, decide_true, decide_false, Bool.and_true, Bool.true_and, Bool.not_false, Bool.or_false, Bool.false_or, Bool.or_true, Bool.true_or, a1, a2, a3, h0, cl, i2, g]
theorem m_30 (ok : gb_ok G) (hR : RM S G) : oM S d 206 [.ref 92, .int w] (.int (an_30 G w)) G := by
  have hw := hR.1
  refine oM_id hR ?_
  have h1 : mm_M S 92 0 = nI (gK G) := hR.2.1.1.1
  have h2 : mm_M S 92 17 = nI (gb_s G).length := hR.2.2.2.1.1
  have h3 : mm_M S 92 15 = nI (gx_f G.1).length := hR.2.1.2.2.2.1
  have h4 : mm_M S 92 26 = nI (gb_t G).length := hR.2.2.2.2.1.1
  have h5 : mm_M S 92 28 = nI (gb_r G).length := hR.2.2.2.2.2.2.1.1
  unfold an_30
  simp only [b206_0, b206_4, b206_11, b206_16, b206_23, b206_28, b206_35, b206_40, b206_47, b206_52, b206_59, e206, wx_o92 hw, wx_k92 hw, wx_q92 hw, wx_g92_1 hw, wx_s92_1 hw, wx_N93 hw, wx_a93 hw, wx_g92_2 hw, wx_s92_2 hw, wx_N94 hw, wx_a94 hw, wx_g92_3 hw, wx_s92_3 hw, wx_N95 hw, wx_a95 hw, wx_g92_4 hw, wx_s92_4 hw, wx_N96 hw, wx_a96 hw, wx_g92_5 hw, wx_s92_5 hw, wx_N97 hw, wx_a97 hw, wx_g92_6 hw, wx_s92_6 hw, wx_N98 hw, wx_a98 hw, wx_g92_7 hw, wx_s92_7 hw, wx_N99 hw, wx_a99 hw, wx_g92_9 hw, wx_s92_9 hw, wx_N100 hw, wx_a100 hw, wx_g92_16 hw, wx_s92_16 hw, wx_N101 hw, wx_a101 hw, wx_g92_19 hw, wx_s92_19 hw, wx_N102 hw, wx_a102 hw, wx_g92_20 hw, wx_s92_20 hw, wx_N103 hw, wx_a103 hw, wx_g92_21 hw, wx_s92_21 hw, wx_N104 hw, wx_a104 hw, wx_g92_22 hw, wx_s92_22 hw, wx_N105 hw, wx_a105 hw, wx_g92_23 hw, wx_s92_23 hw, wx_N106 hw, wx_a106 hw, wx_g92_24 hw, wx_s92_24 hw, wx_N107 hw, wx_a107 hw, wx_g92_25 hw, wx_s92_25 hw, wx_N108 hw, wx_a108 hw, wx_g92_29 hw, wx_s92_29 hw, wx_N109 hw, wx_a109 hw, wx_g92_30 hw, wx_s92_30 hw, wx_N110 hw, wx_a110 hw, wx_g92_31 hw, wx_s92_31 hw, wx_N111 hw, wx_a111 hw, wx_g92_32 hw, wx_s92_32 hw, wx_N112 hw, wx_a112 hw, wx_g92_33 hw, wx_s92_33 hw, wx_N113 hw, wx_a113 hw, wx_g92_34 hw, wx_s92_34 hw, wx_N114 hw, wx_a114 hw, wx_g92_35 hw, wx_s92_35 hw, wx_N115 hw, wx_a115 hw, wx_g92_38 hw, wx_s92_38 hw, wx_N116 hw, wx_a116 hw, wx_g92_41 hw, wx_s92_41 hw, wx_N117 hw, wx_a117 hw, wx_g92_44 hw, wx_s92_44 hw, wx_N118 hw, wx_a118 hw, wx_g92_45 hw, wx_s92_45 hw, wx_N119 hw, wx_a119 hw, wx_g92_46 hw, wx_s92_46 hw, wx_N120 hw, wx_a120 hw, wx_g92_52 hw, wx_s92_52 hw, wx_N121 hw, wx_a121 hw, wx_g92_55 hw, wx_s92_55 hw, wx_N122 hw, wx_a122 hw, wx_g92_56 hw, wx_s92_56 hw, wx_N123 hw, wx_a123 hw, wx_g92_57 hw, wx_s92_57 hw, wx_N124 hw, wx_a124 hw, wx_g92_58 hw, wx_s92_58 hw, wx_N125 hw, wx_a125 hw, wx_g92_64 hw, wx_s92_64 hw, wx_N126 hw, wx_a126 hw, wx_g92_65 hw, wx_s92_65 hw, wx_N127 hw, wx_a127 hw, wx_g92_66 hw, wx_s92_66 hw, wx_N128 hw, wx_a128 hw, wx_g92_67 hw, wx_s92_67 hw, wx_N129 hw, wx_a129 hw, wx_g92_68 hw, wx_s92_68 hw, wx_N130 hw, wx_a130 hw, wx_g92_69 hw, wx_s92_69 hw, wx_N131 hw, wx_a131 hw, wx_g92_70 hw, wx_s92_70 hw, wx_N132 hw, wx_a132 hw, wx_g92_71 hw, wx_s92_71 hw, wx_N133 hw, wx_a133 hw, wx_g92_72 hw, wx_s92_72 hw, wx_N134 hw, wx_a134 hw, wx_g92_73 hw, wx_s92_73 hw, wx_N135 hw, wx_a135 hw, wx_g92_75 hw, wx_s92_75 hw, wx_N136 hw, wx_a136 hw, List.not_mem_nil, false_implies, implies_true, nI_clamp, nI_add, Nat.reducePow, hp_bd, hp_bdi, hp_ts, hp_tn, hp_tsc, hp_tnc, Nat.reduceAdd, Nat.reduceSub, Nat.reduceMul, Nat.reduceLT, Nat.reduceLeDiff, Nat.reduceEqDiff, reduceIte, not_true_eq_false, not_false_eq_true, and_true, true_and, and_self, and_false, false_and, or_true, true_or, or_false, false_or, decide_true, decide_false, Bool.and_true, Bool.true_and, Bool.not_false, Bool.or_false, Bool.false_or, Bool.or_true, Bool.true_or, h1, h2, h3, h4, h5]
  by_cases w0 : w = nI 0
  · rw [if_pos w0, if_pos w0]
  rw [if_neg w0, if_neg w0]
  by_cases w1 : w = nI 1
  · rw [if_pos w1, if_pos w1]
  rw [if_neg w1, if_neg w1]
  by_cases w2 : w = nI 2
  · rw [if_pos w2, if_pos w2]
  rw [if_neg w2, if_neg w2]
  by_cases w3 : w = nI 3
  · rw [if_pos w3, if_pos w3]
  rw [if_neg w3, if_neg w3]
  by_cases w4 : w = nI 4
  · rw [if_pos w4, if_pos w4]
  rw [if_neg w4, if_neg w4]
end M1
end
section
/-! ===== calls of the reference: taken, tapes ===== -/
section M2
variable {S T : mm_S} {G : gb_G} {d b n : Nat} {x y w p t i o j s : Int32} {v : Int64}
theorem s199_0 : mm_cl d 199 [.int (nI 0)] S = some (some (.int (-1)), S) := by rw [e199, b199_0, if_pos rfl, b199_4]
theorem s199_a {k : Nat} (h1 : 1 ≤ k) (h2 : k ≤ 3) : mm_cl d 199 [.int (nI k)] S = some (some (.int (nI 0)), S) := by
  rw [e199, b199_0, if_neg (fun e => by have := (nI_eq (by omega) (by decide)).mp e; omega), b199_8, if_neg (nI_ge (by omega) (by decide)), b199_13]
theorem s199_b {k : Nat} (h1 : 4 ≤ k) (h2 : k ≤ 6) : mm_cl d 199 [.int (nI k)] S = some (some (.int (nI (k - 3))), S) := by
  rw [e199, b199_0, if_neg (fun e => by have := (nI_eq (by omega) (by decide)).mp e; omega), b199_8, if_pos (nI_le h1 (by omega)), b199_17, pk_sub (by omega)]
theorem nI_m1 {n : Nat} (h : n < 2 ^ 31) : ¬ nI n = -1 := by
  intro e
  have h1 := congrArg Int32.toInt e
  rw [nI_toInt h] at h1
  have h2 : (-1 : Int32).toInt = -1 := rfl
  omega
theorem l205y {x1 : Int32} {k n : Nat} (hk : k < 7) (h : k = n) : mm_ex d 205 31 [.ref 92, .int x1, .int (nI n), .int (nI k)] [] S = mm_ex d 205 49 [.ref 92, .int x1, .int (nI n), .int (nI k)] [] S := by
  rw [b205_31, if_pos (by rw [h])]
theorem l205z {x1 : Int32} {n : Nat} (hn : n < 7) (h : ¬ 0 = n) : mm_ex (d + 1) 205 31 [.ref 92, .int x1, .int (nI n), .int (nI 0)] [] S = mm_ex (d + 1) 205 49 [.ref 92, .int x1, .int (nI n), .int (-1)] [] S := by
  rw [b205_31, if_neg (fun e => h ((nI_eq (by decide) (by omega)).mp e)), b205_36, if_neg (by decide), b205_41, s199_0, hp_bd, hp_ts, b205_45, b205_31, if_neg (fun e => nI_m1 (by omega) e.symm), b205_36, if_pos rfl]
theorem l205a {x1 : Int32} {k n : Nat} (h1 : 1 ≤ k) (h2 : k ≤ 3) (hn : n < 7) (h : ¬ k = n) : mm_ex (d + 1) 205 31 [.ref 92, .int x1, .int (nI n), .int (nI k)] [] S = mm_ex (d + 1) 205 31 [.ref 92, .int x1, .int (nI n), .int (nI 0)] [] S := by
  conv => lhs; rw [b205_31, if_neg (fun e => h ((nI_eq (by omega) (by omega)).mp e)), b205_36, if_neg (nI_m1 (by omega)), b205_41, s199_a h1 h2, hp_bd, hp_ts, b205_45]
theorem l205b {x1 : Int32} {k n : Nat} (h1 : 4 ≤ k) (h2 : k ≤ 6) (hn : n < 7) (h : ¬ k = n) : mm_ex (d + 1) 205 31 [.ref 92, .int x1, .int (nI n), .int (nI k)] [] S = mm_ex (d + 1) 205 31 [.ref 92, .int x1, .int (nI n), .int (nI (k - 3))] [] S := by
  conv => lhs; rw [b205_31, if_neg (fun e => h ((nI_eq (by omega) (by omega)).mp e)), b205_36, if_neg (nI_m1 (by omega)), b205_41, s199_b h1 h2, hp_bd, hp_ts, b205_45]
theorem l205 {x1 : Int32} {k n : Nat} (hk : k < 7) (hn : n < 7) : ∃ q, mm_ex (d + 1) 205 31 [.ref 92, .int x1, .int (nI n), .int (nI k)] [] S = mm_ex (d + 1) 205 49 [.ref 92, .int x1, .int (nI n), .int q] [] S ∧ (q = -1 ↔ ¬ n ∈ ab_above k) := by
  rcases k7c hk with rfl | rfl | rfl | rfl | rfl | rfl | rfl <;> rcases k7c hn with rfl | rfl | rfl | rfl | rfl | rfl | rfl
  · exact ⟨nI 0, l205y (by decide) rfl, by decide⟩
  · exact ⟨-1, l205z (by decide) (by decide), by decide⟩
  · exact ⟨-1, l205z (by decide) (by decide), by decide⟩
  · exact ⟨-1, l205z (by decide) (by decide), by decide⟩
  · exact ⟨-1, l205z (by decide) (by decide), by decide⟩
  · exact ⟨-1, l205z (by decide) (by decide), by decide⟩
  · exact ⟨-1, l205z (by decide) (by decide), by decide⟩
  · exact ⟨nI 0, (l205a (by decide) (by decide) (by decide) (by decide)).trans (l205y (by decide) rfl), by decide⟩
  · exact ⟨nI 1, l205y (by decide) rfl, by decide⟩
  · exact ⟨-1, (l205a (by decide) (by decide) (by decide) (by decide)).trans (l205z (by decide) (by decide)), by decide⟩
  · exact ⟨-1, (l205a (by decide) (by decide) (by decide) (by decide)).trans (l205z (by decide) (by decide)), by decide⟩
  · exact ⟨-1, (l205a (by decide) (by decide) (by decide) (by decide)).trans (l205z (by decide) (by decide)), by decide⟩
  · exact ⟨-1, (l205a (by decide) (by decide) (by decide) (by decide)).trans (l205z (by decide) (by decide)), by decide⟩
  · exact ⟨-1, (l205a (by decide) (by decide) (by decide) (by decide)).trans (l205z (by decide) (by decide)), by decide⟩
  · exact ⟨nI 0, (l205a (by decide) (by decide) (by decide) (by decide)).trans (l205y (by decide) rfl), by decide⟩
  · exact ⟨-1, (l205a (by decide) (by decide) (by decide) (by decide)).trans (l205z (by decide) (by decide)), by decide⟩
  · exact ⟨nI 2, l205y (by decide) rfl, by decide⟩
  · exact ⟨-1, (l205a (by decide) (by decide) (by decide) (by decide)).trans (l205z (by decide) (by decide)), by decide⟩
  · exact ⟨-1, (l205a (by decide) (by decide) (by decide) (by decide)).trans (l205z (by decide) (by decide)), by decide⟩
  · exact ⟨-1, (l205a (by decide) (by decide) (by decide) (by decide)).trans (l205z (by decide) (by decide)), by decide⟩
  · exact ⟨-1, (l205a (by decide) (by decide) (by decide) (by decide)).trans (l205z (by decide) (by decide)), by decide⟩
  · exact ⟨nI 0, (l205a (by decide) (by decide) (by decide) (by decide)).trans (l205y (by decide) rfl), by decide⟩
  · exact ⟨-1, (l205a (by decide) (by decide) (by decide) (by decide)).trans (l205z (by decide) (by decide)), by decide⟩
  · exact ⟨-1, (l205a (by decide) (by decide) (by decide) (by decide)).trans (l205z (by decide) (by decide)), by decide⟩
  · exact ⟨nI 3, l205y (by decide) rfl, by decide⟩
  · exact ⟨-1, (l205a (by decide) (by decide) (by decide) (by decide)).trans (l205z (by decide) (by decide)), by decide⟩
  · exact ⟨-1, (l205a (by decide) (by decide) (by decide) (by decide)).trans (l205z (by decide) (by decide)), by decide⟩
  · exact ⟨-1, (l205a (by decide) (by decide) (by decide) (by decide)).trans (l205z (by decide) (by decide)), by decide⟩
  · exact ⟨nI 0, ((l205b (by decide) (by decide) (by decide) (by decide)).trans (l205a (by decide) (by decide) (by decide) (by decide))).trans (l205y (by decide) rfl), by decide⟩
  · exact ⟨nI 1, (l205b (by decide) (by decide) (by decide) (by decide)).trans (l205y (by decide) rfl), by decide⟩
  · exact ⟨-1, ((l205b (by decide) (by decide) (by decide) (by decide)).trans (l205a (by decide) (by decide) (by decide) (by decide))).trans (l205z (by decide) (by decide)), by decide⟩
  · exact ⟨-1, ((l205b (by decide) (by decide) (by decide) (by decide)).trans (l205a (by decide) (by decide) (by decide) (by decide))).trans (l205z (by decide) (by decide)), by decide⟩
  · exact ⟨nI 4, l205y (by decide) rfl, by decide⟩
  · exact ⟨-1, ((l205b (by decide) (by decide) (by decide) (by decide)).trans (l205a (by decide) (by decide) (by decide) (by decide))).trans (l205z (by decide) (by decide)), by decide⟩
  · exact ⟨-1, ((l205b (by decide) (by decide) (by decide) (by decide)).trans (l205a (by decide) (by decide) (by decide) (by decide))).trans (l205z (by decide) (by decide)), by decide⟩
  · exact ⟨nI 0, ((l205b (by decide) (by decide) (by decide) (by decide)).trans (l205a (by decide) (by decide) (by decide) (by decide))).trans (l205y (by decide) rfl), by decide⟩
  · exact ⟨-1, ((l205b (by decide) (by decide) (by decide) (by decide)).trans (l205a (by decide) (by decide) (by decide) (by decide))).trans (l205z (by decide) (by decide)), by decide⟩
  · exact ⟨nI 2, (l205b (by decide) (by decide) (by decide) (by decide)).trans (l205y (by decide) rfl), by decide⟩
  · exact ⟨-1, ((l205b (by decide) (by decide) (by decide) (by decide)).trans (l205a (by decide) (by decide) (by decide) (by decide))).trans (l205z (by decide) (by decide)), by decide⟩
  · exact ⟨-1, ((l205b (by decide) (by decide) (by decide) (by decide)).trans (l205a (by decide) (by decide) (by decide) (by decide))).trans (l205z (by decide) (by decide)), by decide⟩
  · exact ⟨nI 5, l205y (by decide) rfl, by decide⟩
  · exact ⟨-1, ((l205b (by decide) (by decide) (by decide) (by decide)).trans (l205a (by decide) (by decide) (by decide) (by decide))).trans (l205z (by decide) (by decide)), by decide⟩
  · exact ⟨nI 0, ((l205b (by decide) (by decide) (by decide) (by decide)).trans (l205a (by decide) (by decide) (by decide) (by decide))).trans (l205y (by decide) rfl), by decide⟩
  · exact ⟨-1, ((l205b (by decide) (by decide) (by decide) (by decide)).trans (l205a (by decide) (by decide) (by decide) (by decide))).trans (l205z (by decide) (by decide)), by decide⟩
  · exact ⟨-1, ((l205b (by decide) (by decide) (by decide) (by decide)).trans (l205a (by decide) (by decide) (by decide) (by decide))).trans (l205z (by decide) (by decide)), by decide⟩
  · exact ⟨nI 3, (l205b (by decide) (by decide) (by decide) (by decide)).trans (l205y (by decide) rfl), by decide⟩
  · exact ⟨-1, ((l205b (by decide) (by decide) (by decide) (by decide)).trans (l205a (by decide) (by decide) (by decide) (by decide))).trans (l205z (by decide) (by decide)), by decide⟩
  · exact ⟨-1, ((l205b (by decide) (by decide) (by decide) (by decide)).trans (l205a (by decide) (by decide) (by decide) (by decide))).trans (l205z (by decide) (by decide)), by decide⟩
  · exact ⟨nI 6, l205y (by decide) rfl, by decide⟩
theorem m_29 (ok : gb_ok G) (hR : RM S G) : oM S (d + 2) 205 [.ref 92, .int x, .int y] (.int (an_29 G x y)) G := by
  have hw := hR.1
  have hk : gK G ≤ 6 := ok.1.1.1
  refine oM_id hR ?_
  by_cases ey : ab_kw 7 y = none
  · have ky := m128n (d := d + 1) (S := S) (n := 6) rfl (by decide) ey
    have eo : an_29 G x y = -2 := by unfold an_29; simp only [ey]
    simp only [eo, b205_0, b205_7, b205_10, b205_13, b205_18, b205_21, b205_24, b205_49, b205_54, b205_59, e205, wx_o92 hw, wx_k92 hw, wx_q92 hw, wx_g92_1 hw, wx_s92_1 hw, wx_N93 hw, wx_a93 hw, wx_g92_2 hw, wx_s92_2 hw, wx_N94 hw, wx_a94 hw, wx_g92_3 hw, wx_s92_3 hw, wx_N95 hw, wx_a95 hw, wx_g92_4 hw, wx_s92_4 hw, wx_N96 hw, wx_a96 hw, wx_g92_5 hw, wx_s92_5 hw, wx_N97 hw, wx_a97 hw, wx_g92_6 hw, wx_s92_6 hw, wx_N98 hw, wx_a98 hw, wx_g92_7 hw, wx_s92_7 hw, wx_N99 hw, wx_a99 hw, wx_g92_9 hw, wx_s92_9 hw, wx_N100 hw, wx_a100 hw, wx_g92_16 hw, wx_s92_16 hw, wx_N101 hw, wx_a101 hw, wx_g92_19 hw, wx_s92_19 hw, wx_N102 hw, wx_a102 hw, wx_g92_20 hw, wx_s92_20 hw, wx_N103 hw, wx_a103 hw, wx_g92_21 hw, wx_s92_21 hw, wx_N104 hw, wx_a104 hw, wx_g92_22 hw, wx_s92_22 hw, wx_N105 hw, wx_a105 hw, wx_g92_23 hw, wx_s92_23 hw, wx_N106 hw, wx_a106 hw, wx_g92_24 hw, wx_s92_24 hw, wx_N107 hw, wx_a107 hw, wx_g92_25 hw, wx_s92_25 hw, wx_N108 hw, wx_a108 hw, wx_g92_29 hw, wx_s92_29 hw, wx_N109 hw, wx_a109 hw, wx_g92_30 hw, wx_s92_30 hw, wx_N110 hw, wx_a110 hw, wx_g92_31 hw, wx_s92_31 hw, wx_N111 hw, wx_a111 hw, wx_g92_32 hw, wx_s92_32 hw, wx_N112 hw, wx_a112 hw, wx_g92_33 hw, wx_s92_33 hw, wx_N113 hw, wx_a113 hw, wx_g92_34 hw, wx_s92_34 hw, wx_N114 hw, wx_a114 hw, wx_g92_35 hw, wx_s92_35 hw, wx_N115 hw, wx_a115 hw, wx_g92_38 hw, wx_s92_38 hw, wx_N116 hw, wx_a116 hw, wx_g92_41 hw, wx_s92_41 hw, wx_N117 hw, wx_a117 hw, wx_g92_44 hw, wx_s92_44 hw, wx_N118 hw, wx_a118 hw, wx_g92_45 hw, wx_s92_45 hw, wx_N119 hw, wx_a119 hw, wx_g92_46 hw, wx_s92_46 hw, wx_N120 hw, wx_a120 hw, wx_g92_52 hw, wx_s92_52 hw, wx_N121 hw, wx_a121 hw, wx_g92_55 hw, wx_s92_55 hw, wx_N122 hw, wx_a122 hw, wx_g92_56 hw, wx_s92_56 hw, wx_N123 hw, wx_a123 hw, wx_g92_57 hw, wx_s92_57 hw, wx_N124 hw, wx_a124 hw, wx_g92_58 hw, wx_s92_58 hw, wx_N125 hw, wx_a125 hw, wx_g92_64 hw, wx_s92_64 hw, wx_N126 hw, wx_a126 hw, wx_g92_65 hw, wx_s92_65 hw, wx_N127 hw, wx_a127 hw, wx_g92_66 hw, wx_s92_66 hw, wx_N128 hw, wx_a128 hw, wx_g92_67 hw, wx_s92_67 hw, wx_N129 hw, wx_a129 hw, wx_g92_68 hw, wx_s92_68 hw, wx_N130 hw, wx_a130 hw, wx_g92_69 hw, wx_s92_69 hw, wx_N131 hw, wx_a131 hw, wx_g92_70 hw, wx_s92_70 hw, wx_N132 hw, wx_a132 hw, wx_g92_71 hw, wx_s92_71 hw, wx_N133 hw, wx_a133 hw, wx_g92_72 hw, wx_s92_72 hw, wx_N134 hw, wx_a134 hw, wx_g92_73 hw, wx_s92_73 hw, wx_N135 hw, wx_a135 hw, wx_g92_75 hw, wx_s92_75 hw, wx_N136 hw, wx_a136 hw, List.not_mem_nil, false_implies, implies_true, nI_clamp, nI_add, Nat.reducePow, hp_bd, hp_bdi, hp_ts, hp_tn, hp_tsc, hp_tnc, Nat.reduceAdd, Nat.reduceSub, Nat.reduceMul, Nat.reduceLT, Nat.reduceLeDiff, Nat.reduceEqDiff, reduceIte, not_true_eq_false, not_false_eq_true, and_true, true_and, and_self, and_false, false_and, or_true, true_or, or_false, false_or, decide_true, decide_false, Bool.and_true, Bool.true_and, Bool.not_false, Bool.or_false, Bool.false_or, Bool.or_true, Bool.true_or, i01, ky]
  rcases kw_d (n := 6) (m := 7) rfl (by decide) y with ⟨z, -⟩ | ⟨z, -⟩ | ⟨n, hn, ey, rfl, -⟩
  · exact absurd z ey
  · exact absurd z ey
  have ky := m128s (d := d + 1) (S := S) (n := 6) rfl (by decide) hn
  rcases kw_c hk x with ⟨e, h⟩ | ⟨b, hb, e, rfl⟩
  · have k := m129n (d := d) ok hR e
    have eo : an_29 G x (nI n) = -11 := by unfold an_29; simp only [ey, e]
    simp only [eo, b205_0, b205_7, b205_10, b205_13, b205_18, b205_21, b205_24, b205_49, b205_54, b205_59, e205, wx_o92 hw, wx_k92 hw, wx_q92 hw, wx_g92_1 hw, wx_s92_1 hw, wx_N93 hw, wx_a93 hw, wx_g92_2 hw, wx_s92_2 hw, wx_N94 hw, wx_a94 hw, wx_g92_3 hw, wx_s92_3 hw, wx_N95 hw, wx_a95 hw, wx_g92_4 hw, wx_s92_4 hw, wx_N96 hw, wx_a96 hw, wx_g92_5 hw, wx_s92_5 hw, wx_N97 hw, wx_a97 hw, wx_g92_6 hw, wx_s92_6 hw, wx_N98 hw, wx_a98 hw, wx_g92_7 hw, wx_s92_7 hw, wx_N99 hw, wx_a99 hw, wx_g92_9 hw, wx_s92_9 hw, wx_N100 hw, wx_a100 hw, wx_g92_16 hw, wx_s92_16 hw, wx_N101 hw, wx_a101 hw, wx_g92_19 hw, wx_s92_19 hw, wx_N102 hw, wx_a102 hw, wx_g92_20 hw, wx_s92_20 hw, wx_N103 hw, wx_a103 hw, wx_g92_21 hw, wx_s92_21 hw, wx_N104 hw, wx_a104 hw, wx_g92_22 hw, wx_s92_22 hw, wx_N105 hw, wx_a105 hw, wx_g92_23 hw, wx_s92_23 hw, wx_N106 hw, wx_a106 hw, wx_g92_24 hw, wx_s92_24 hw, wx_N107 hw, wx_a107 hw, wx_g92_25 hw, wx_s92_25 hw, wx_N108 hw, wx_a108 hw, wx_g92_29 hw, wx_s92_29 hw, wx_N109 hw, wx_a109 hw, wx_g92_30 hw, wx_s92_30 hw, wx_N110 hw, wx_a110 hw, wx_g92_31 hw, wx_s92_31 hw, wx_N111 hw, wx_a111 hw, wx_g92_32 hw, wx_s92_32 hw, wx_N112 hw, wx_a112 hw, wx_g92_33 hw, wx_s92_33 hw, wx_N113 hw, wx_a113 hw, wx_g92_34 hw, wx_s92_34 hw, wx_N114 hw, wx_a114 hw, wx_g92_35 hw, wx_s92_35 hw, wx_N115 hw, wx_a115 hw, wx_g92_38 hw, wx_s92_38 hw, wx_N116 hw, wx_a116 hw, wx_g92_41 hw, wx_s92_41 hw, wx_N117 hw, wx_a117 hw, wx_g92_44 hw, wx_s92_44 hw, wx_N118 hw, wx_a118 hw, wx_g92_45 hw, wx_s92_45 hw, wx_N119 hw, wx_a119 hw, wx_g92_46 hw, wx_s92_46 hw, wx_N120 hw, wx_a120 hw, wx_g92_52 hw, wx_s92_52 hw, wx_N121 hw, wx_a121 hw, wx_g92_55 hw, wx_s92_55 hw, wx_N122 hw, wx_a122 hw, wx_g92_56 hw, wx_s92_56 hw, wx_N123 hw, wx_a123 hw, wx_g92_57 hw, wx_s92_57 hw, wx_N124 hw, wx_a124 hw, wx_g92_58 hw, wx_s92_58 hw, wx_N125 hw, wx_a125 hw, wx_g92_64 hw, wx_s92_64 hw, wx_N126 hw, wx_a126 hw, wx_g92_65 hw, wx_s92_65 hw, wx_N127 hw, wx_a127 hw, wx_g92_66 hw, wx_s92_66 hw, wx_N128 hw, wx_a128 hw, wx_g92_67 hw, wx_s92_67 hw, wx_N129 hw, wx_a129 hw, wx_g92_68 hw, wx_s92_68 hw, wx_N130 hw, wx_a130 hw, wx_g92_69 hw, wx_s92_69 hw, wx_N131 hw, wx_a131 hw, wx_g92_70 hw, wx_s92_70 hw, wx_N132 hw, wx_a132 hw, wx_g92_71 hw, wx_s92_71 hw, wx_N133 hw, wx_a133 hw, wx_g92_72 hw, wx_s92_72 hw, wx_N134 hw, wx_a134 hw, wx_g92_73 hw, wx_s92_73 hw, wx_N135 hw, wx_a135 hw, wx_g92_75 hw, wx_s92_75 hw, wx_N136 hw, wx_a136 hw, List.not_mem_nil, false_implies, implies_true, nI_clamp, nI_add, Nat.reducePow, hp_bd, hp_bdi, hp_ts, hp_tn, hp_tsc, hp_tnc, Nat.reduceAdd, Nat.reduceSub, Nat.reduceMul, Nat.reduceLT, Nat.reduceLeDiff, Nat.reduceEqDiff, reduceIte, not_true_eq_false, not_false_eq_true, and_true, true_and, and_self, and_false, false_and, or_true, true_or, or_false, false_or, decide_true, decide_false, Bool.and_true, Bool.true_and, Bool.not_false, Bool.or_false, Bool.false_or, Bool.or_true, Bool.true_or, i01, ky, k]
  have k := m129s (d := d) ok hR hb
  have cl : (nI b).toNatClampNeg = b := nI_clamp (by omega)
  have hbi : mm_inb (nI b) 6 = true := hp_inb (by omega) (by omega)
  have p1 : mm_M S 93 b = nI (ab_ki (gP G) b) := (hR.2.1.1.2.1 b hb).1
  have hk7 : ab_ki (gP G) b < 7 := (ok.1.1.2.2.2.1 b hb).1
  obtain ⟨q, g1, g2⟩ := l205 (S := S) (d := d + 1) (x1 := nI b) hk7 hn
  have eo : an_29 G (nI b) (nI n) = if n ∈ ab_above (ab_ki (gP G) b) then nI (ab_ki (gP G) b) else -12 := by unfold an_29; simp only [ey, e]
  have st : mm_cl (d + 2) 205 [.ref 92, .int (nI b), .int (nI n)] S = mm_ex (d + 2) 205 49 [.ref 92, .int (nI b), .int (nI n), .int q] [] S := by
    rw [← g1]
    simp only [b205_0, b205_7, b205_10, b205_13, b205_18, b205_21, b205_24, b205_49, b205_54, b205_59, e205, wx_o92 hw, wx_k92 hw, wx_q92 hw, wx_g92_1 hw, wx_s92_1 hw, wx_N93 hw, wx_a93 hw, wx_g92_2 hw, wx_s92_2 hw, wx_N94 hw, wx_a94 hw, wx_g92_3 hw, wx_s92_3 hw, wx_N95 hw, wx_a95 hw, wx_g92_4 hw, wx_s92_4 hw, wx_N96 hw, wx_a96 hw, wx_g92_5 hw, wx_s92_5 hw, wx_N97 hw, wx_a97 hw, wx_g92_6 hw, wx_s92_6 hw, wx_N98 hw, wx_a98 hw, wx_g92_7 hw, wx_s92_7 hw, wx_N99 hw, wx_a99 hw, wx_g92_9 hw, wx_s92_9 hw, wx_N100 hw, wx_a100 hw, wx_g92_16 hw, wx_s92_16 hw, wx_N101 hw, wx_a101 hw, wx_g92_19 hw, wx_s92_19 hw, wx_N102 hw, wx_a102 hw, wx_g92_20 hw, wx_s92_20 hw, wx_N103 hw, wx_a103 hw, wx_g92_21 hw, wx_s92_21 hw, wx_N104 hw, wx_a104 hw, wx_g92_22 hw, wx_s92_22 hw, wx_N105 hw, wx_a105 hw, wx_g92_23 hw, wx_s92_23 hw, wx_N106 hw, wx_a106 hw, wx_g92_24 hw, wx_s92_24 hw, wx_N107 hw, wx_a107 hw, wx_g92_25 hw, wx_s92_25 hw, wx_N108 hw, wx_a108 hw, wx_g92_29 hw, wx_s92_29 hw, wx_N109 hw, wx_a109 hw, wx_g92_30 hw, wx_s92_30 hw, wx_N110 hw, wx_a110 hw, wx_g92_31 hw, wx_s92_31 hw, wx_N111 hw, wx_a111 hw, wx_g92_32 hw, wx_s92_32 hw, wx_N112 hw, wx_a112 hw, wx_g92_33 hw, wx_s92_33 hw, wx_N113 hw, wx_a113 hw, wx_g92_34 hw, wx_s92_34 hw, wx_N114 hw, wx_a114 hw, wx_g92_35 hw, wx_s92_35 hw, wx_N115 hw, wx_a115 hw, wx_g92_38 hw, wx_s92_38 hw, wx_N116 hw, wx_a116 hw, wx_g92_41 hw, wx_s92_41 hw, wx_N117 hw, wx_a117 hw, wx_g92_44 hw, wx_s92_44 hw, wx_N118 hw, wx_a118 hw, wx_g92_45 hw, wx_s92_45 hw, wx_N119 hw, wx_a119 hw, wx_g92_46 hw, wx_s92_46 hw, wx_N120 hw, wx_a120 hw, wx_g92_52 hw, wx_s92_52 hw, wx_N121 hw, wx_a121 hw, wx_g92_55 hw, wx_s92_55 hw, wx_N122 hw, wx_a122 hw, wx_g92_56 hw, wx_s92_56 hw, wx_N123 hw, wx_a123 hw, wx_g92_57 hw, wx_s92_57 hw, wx_N124 hw, wx_a124 hw, wx_g92_58 hw, wx_s92_58 hw, wx_N125 hw, wx_a125 hw, wx_g92_64 hw, wx_s92_64 hw, wx_N126 hw, wx_a126 hw, wx_g92_65 hw, wx_s92_65 hw, wx_N127 hw, wx_a127 hw, wx_g92_66 hw, wx_s92_66 hw, wx_N128 hw, wx_a128 hw, wx_g92_67 hw, wx_s92_67 hw, wx_N129 hw, wx_a129 hw, wx_g92_68 hw, wx_s92_68 hw, wx_N130 hw, wx_a130 hw, wx_g92_69 hw, wx_s92_69 hw, wx_N131 hw, wx_a131 hw, wx_g92_70 hw, wx_s92_70 hw, wx_N132 hw, wx_a132 hw, wx_g92_71 hw, wx_s92_71 hw, wx_N133 hw, wx_a133 hw, wx_g92_72 hw, wx_s92_72 hw, wx_N134 hw, wx_a134 hw, wx_g92_73 hw, wx_s92_73 hw, wx_N135 hw, wx_a135 hw, wx_g92_75 hw, wx_s92_75 hw, wx_N136 hw, wx_a136 hw, List.not_mem_nil, false_implies, implies_true, nI_clamp, nI_add, Nat.reducePow, hp_bd, hp_bdi, hp_ts, hp_tn, hp_tsc, hp_tnc, Nat.reduceAdd, Nat.reduceSub, Nat.reduceMul, Nat.reduceLT, Nat.reduceLeDiff, Nat.reduceEqDiff, reduceIte, not_true_eq_false, not_false_eq_true, and_true, true_and, and_self, and_false, false_and, or_true, true_or, or_false, false_or, decide_true, decide_false, Bool.and_true, Bool.true_and, Bool.not_false, Bool.or_false, Bool.false_or, Bool.or_true, Bool.true_or, i01, ky, k, cl, hbi, p1]
  rw [eo, st, b205_49]
  by_cases hm : n ∈ ab_above (ab_ki (gP G) b)
  · rw [if_neg (fun e => (g2.mp e) hm), if_pos hm]
    simp only [b205_59, wx_o92 hw, wx_k92 hw, wx_q92 hw, wx_g92_1 hw, wx_s92_1 hw, wx_N93 hw, wx_a93 hw, wx_g92_2 hw, wx_s92_2 hw, wx_N94 hw, wx_a94 hw, wx_g92_3 hw, wx_s92_3 hw, wx_N95 hw, wx_a95 hw, wx_g92_4 hw, wx_s92_4 hw, wx_N96 hw, wx_a96 hw, wx_g92_5 hw, wx_s92_5 hw, wx_N97 hw, wx_a97 hw, wx_g92_6 hw, wx_s92_6 hw, wx_N98 hw, wx_a98 hw, wx_g92_7 hw, wx_s92_7 hw, wx_N99 hw, wx_a99 hw, wx_g92_9 hw, wx_s92_9 hw, wx_N100 hw, wx_a100 hw, wx_g92_16 hw, wx_s92_16 hw, wx_N101 hw, wx_a101 hw, wx_g92_19 hw, wx_s92_19 hw, wx_N102 hw, wx_a102 hw, wx_g92_20 hw, wx_s92_20 hw, wx_N103 hw, wx_a103 hw, wx_g92_21 hw, wx_s92_21 hw, wx_N104 hw, wx_a104 hw, wx_g92_22 hw, wx_s92_22 hw, wx_N105 hw, wx_a105 hw, wx_g92_23 hw, wx_s92_23 hw, wx_N106 hw, wx_a106 hw, wx_g92_24 hw, wx_s92_24 hw, wx_N107 hw, wx_a107 hw, wx_g92_25 hw, wx_s92_25 hw, wx_N108 hw, wx_a108 hw, wx_g92_29 hw, wx_s92_29 hw, wx_N109 hw, wx_a109 hw, wx_g92_30 hw, wx_s92_30 hw, wx_N110 hw, wx_a110 hw, wx_g92_31 hw, wx_s92_31 hw, wx_N111 hw, wx_a111 hw, wx_g92_32 hw, wx_s92_32 hw, wx_N112 hw, wx_a112 hw, wx_g92_33 hw, wx_s92_33 hw, wx_N113 hw, wx_a113 hw, wx_g92_34 hw, wx_s92_34 hw, wx_N114 hw, wx_a114 hw, wx_g92_35 hw, wx_s92_35 hw, wx_N115 hw, wx_a115 hw, wx_g92_38 hw, wx_s92_38 hw, wx_N116 hw, wx_a116 hw, wx_g92_41 hw, wx_s92_41 hw, wx_N117 hw, wx_a117 hw, wx_g92_44 hw, wx_s92_44 hw, wx_N118 hw, wx_a118 hw, wx_g92_45 hw, wx_s92_45 hw, wx_N119 hw, wx_a119 hw, wx_g92_46 hw, wx_s92_46 hw, wx_N120 hw, wx_a120 hw, wx_g92_52 hw, wx_s92_52 hw, wx_N121 hw, wx_a121 hw, wx_g92_55 hw, wx_s92_55 hw, wx_N122 hw, wx_a122 hw, wx_g92_56 hw, wx_s92_56 hw, wx_N123 hw, wx_a123 hw, wx_g92_57 hw, wx_s92_57 hw, wx_N124 hw, wx_a124 hw, wx_g92_58 hw, wx_s92_58 hw, wx_N125 hw, wx_a125 hw, wx_g92_64 hw, wx_s92_64 hw, wx_N126 hw, wx_a126 hw, wx_g92_65 hw, wx_s92_65 hw, wx_N127 hw, wx_a127 hw, wx_g92_66 hw, wx_s92_66 hw, wx_N128 hw, wx_a128 hw, wx_g92_67 hw, wx_s92_67 hw, wx_N129 hw, wx_a129 hw, wx_g92_68 hw, wx_s92_68 hw, wx_N130 hw, wx_a130 hw, wx_g92_69 hw, wx_s92_69 hw, wx_N131 hw, wx_a131 hw, wx_g92_70 hw, wx_s92_70 hw, wx_N132 hw, wx_a132 hw, wx_g92_71 hw, wx_s92_71 hw, wx_N133 hw, wx_a133 hw, wx_g92_72 hw, wx_s92_72 hw, wx_N134 hw, wx_a134 hw, wx_g92_73 hw, wx_s92_73 hw, wx_N135 hw, wx_a135 hw, wx_g92_75 hw, wx_s92_75 hw, wx_N136 hw, wx_a136 hw, List.not_mem_nil, false_implies, implies_true, nI_clamp, nI_add, Nat.reducePow, hp_bd, hp_bdi, hp_ts, hp_tn, hp_tsc, hp_tnc, Nat.reduceAdd, Nat.reduceSub, Nat.reduceMul, Nat.reduceLT, Nat.reduceLeDiff, Nat.reduceEqDiff, reduceIte, not_true_eq_false, not_false_eq_true, and_true, true_and, and_self, and_false, false_and, or_true, true_or, or_false, false_or, decide_true, decide_false, Bool.and_true, Bool.true_and, Bool.not_false, Bool.or_false, Bool.false_or, Bool.or_true, Bool.true_or, cl, hbi, p1]
  · rw [if_pos (g2.mpr hm), if_neg hm, b205_54]
def gm_pp (c _j : Nat) : Prop := (110 ≤ c ∧ c ≤ 112) ∨ c = 136
theorem RM_p {f : Nat → Int32 × Nat × (Nat → Int64)} (h : sf_f gm_pp S T) (hw : mm_W T) (ok : gb_ok G) (hR : RM S G) (ht : gm_p T f) : RM T (gS_p G f) := by
  obtain ⟨-, h1, h2, h3, h4, h5, h6, h7⟩ := hR
  have g : ∀ c j, ¬ ((110 ≤ c ∧ c ≤ 112) ∨ c = 136) → mm_M T c j = mm_M S c j := fun c j q => (h.1 c j q).1
  exact ⟨hw, mt_X ok.1.1.1 (row_le ok.1.1 ok.1.2.1) (fun c j q => g c j (by unfold nX at q; omega)) h1, mt_i (fun c j q => g c j (by omega)) h2, mt_s (fun c j q => g c j (by omega)) h3, mt_t (fun c j q => g c j (by omega)) h4, ht, mt_r (fun c j q => g c j (by omega)) h6, mt_c (fun c j q => g c j (by omega)) h7⟩
theorem mpp_0 (h : sf_f gm_pp S T) : sf_f gm_0 S T := sf_mo h (fun c j h => by unfold gm_pp at h; unfold gm_0; omega)
theorem oM_p (ok : gb_ok G) (hR : RM S G) {y : Nat} {as : List Value} {f : Nat → Int32 × Nat × (Nat → Int64)} (h : mm_cl d y as S = some (some (.int x), T)) (hf : sf_f gm_pp S T) (hw : mm_W T) (hp : gm_p T f) (hn : mm_n T = mm_n S) (hz : mm_z T = mm_z S) : oM S d y as (.int x) (gS_p G f) := ⟨T, h, RM_p hf hw ok hR hp, mpp_0 hf, hn, hz⟩
theorem mp_up {f : Nat → Int32 × Nat × (Nat → Int64)} {g : Int32 × Nat × (Nat → Int64)} {t : Nat} (h : gm_p S f) (h1 : mm_M T 110 t = g.1) (h2 : mm_M T 111 t = nI g.2.1) (hz : ∀ u, u < 6 → (f u).2.1 ≤ 60) (h3 : ∀ i, i < g.2.1 → mm_L T 112 (60 * t + i) = g.2.2 i) (h4 : ∀ u, u ≠ t → mm_M T 110 u = mm_M S 110 u ∧ mm_M T 111 u = mm_M S 111 u ∧ ∀ i, i < 60 → mm_L T 112 (60 * u + i) = mm_L S 112 (60 * u + i)) : gm_p T (ab_up1 f t g) := by
  intro u hu
  unfold ab_up1
  by_cases e : u = t
  · subst e
    rw [if_pos rfl]
    exact ⟨h1, fun _ => h2, h3⟩
  · rw [if_neg e]
    obtain ⟨q1, q2, q3⟩ := h u hu
    obtain ⟨r1, r2, r3⟩ := h4 u e
    exact ⟨r1.trans q1, fun e => r2.trans (q2 e), fun i hi => (r3 i (Nat.lt_of_lt_of_le hi (hz u hu))).trans (q3 i hi)⟩
theorem m_31 (ok : gb_ok G) (hR : RM S G) : oM S (d + 2) 207 [.ref 92, .int t, .int s, .int y] (.int (op_31 G t s y).1) (op_31 G t s y).2 := by
  have hw := hR.1
  have hp := hR.2.2.2.2.2.1
  rcases kw_c (n := 6) (by decide) t with ⟨e, h⟩ | ⟨t, ht, e, rfl⟩
  · have k := m194n (d := d) (S := S) e (a := 92)
    have eo : op_31 G t s y = (-1, G) := by unfold op_31; simp only [e]
    rw [eo]
    refine oM_id hR ?_
    simp only [b207_0, b207_5, b207_8, b207_10, b207_16, b207_19, b207_23, b207_29, b207_32, b207_36, b207_40, b207_43, b207_59, b207_63, b207_94, e207, wx_o92 hw, wx_k92 hw, wx_q92 hw, wx_g92_1 hw, wx_s92_1 hw, wx_N93 hw, wx_a93 hw, wx_g92_2 hw, wx_s92_2 hw, wx_N94 hw, wx_a94 hw, wx_g92_3 hw, wx_s92_3 hw, wx_N95 hw, wx_a95 hw, wx_g92_4 hw, wx_s92_4 hw, wx_N96 hw, wx_a96 hw, wx_g92_5 hw, wx_s92_5 hw, wx_N97 hw, wx_a97 hw, wx_g92_6 hw, wx_s92_6 hw, wx_N98 hw, wx_a98 hw, wx_g92_7 hw, wx_s92_7 hw, wx_N99 hw, wx_a99 hw, wx_g92_9 hw, wx_s92_9 hw, wx_N100 hw, wx_a100 hw, wx_g92_16 hw, wx_s92_16 hw, wx_N101 hw, wx_a101 hw, wx_g92_19 hw, wx_s92_19 hw, wx_N102 hw, wx_a102 hw, wx_g92_20 hw, wx_s92_20 hw, wx_N103 hw, wx_a103 hw, wx_g92_21 hw, wx_s92_21 hw, wx_N104 hw, wx_a104 hw, wx_g92_22 hw, wx_s92_22 hw, wx_N105 hw, wx_a105 hw, wx_g92_23 hw, wx_s92_23 hw, wx_N106 hw, wx_a106 hw, wx_g92_24 hw, wx_s92_24 hw, wx_N107 hw, wx_a107 hw, wx_g92_25 hw, wx_s92_25 hw, wx_N108 hw, wx_a108 hw, wx_g92_29 hw, wx_s92_29 hw, wx_N109 hw, wx_a109 hw, wx_g92_30 hw, wx_s92_30 hw, wx_N110 hw, wx_a110 hw, wx_g92_31 hw, wx_s92_31 hw, wx_N111 hw, wx_a111 hw, wx_g92_32 hw, wx_s92_32 hw, wx_N112 hw, wx_a112 hw, wx_g92_33 hw, wx_s92_33 hw, wx_N113 hw, wx_a113 hw, wx_g92_34 hw, wx_s92_34 hw, wx_N114 hw, wx_a114 hw, wx_g92_35 hw, wx_s92_35 hw, wx_N115 hw, wx_a115 hw, wx_g92_38 hw, wx_s92_38 hw, wx_N116 hw, wx_a116 hw, wx_g92_41 hw, wx_s92_41 hw, wx_N117 hw, wx_a117 hw, wx_g92_44 hw, wx_s92_44 hw, wx_N118 hw, wx_a118 hw, wx_g92_45 hw, wx_s92_45 hw, wx_N119 hw, wx_a119 hw, wx_g92_46 hw, wx_s92_46 hw, wx_N120 hw, wx_a120 hw, wx_g92_52 hw, wx_s92_52 hw, wx_N121 hw, wx_a121 hw, wx_g92_55 hw, wx_s92_55 hw, wx_N122 hw, wx_a122 hw, wx_g92_56 hw, wx_s92_56 hw, wx_N123 hw, wx_a123 hw, wx_g92_57 hw, wx_s92_57 hw, wx_N124 hw, wx_a124 hw, wx_g92_58 hw, wx_s92_58 hw, wx_N125 hw, wx_a125 hw, wx_g92_64 hw, wx_s92_64 hw, wx_N126 hw, wx_a126 hw, wx_g92_65 hw, wx_s92_65 hw, wx_N127 hw, wx_a127 hw, wx_g92_66 hw, wx_s92_66 hw, wx_N128 hw, wx_a128 hw, wx_g92_67 hw, wx_s92_67 hw, wx_N129 hw, wx_a129 hw, wx_g92_68 hw, wx_s92_68 hw, wx_N130 hw, wx_a130 hw, wx_g92_69 hw, wx_s92_69 hw, wx_N131 hw, wx_a131 hw, wx_g92_70 hw, wx_s92_70 hw, wx_N132 hw, wx_a132 hw, wx_g92_71 hw, wx_s92_71 hw, wx_N133 hw, wx_a133 hw, wx_g92_72 hw, wx_s92_72 hw, wx_N134 hw, wx_a134 hw, wx_g92_73 hw, wx_s92_73 hw, wx_N135 hw, wx_a135 hw, wx_g92_75 hw, wx_s92_75 hw, wx_N136 hw, wx_a136 hw, List.not_mem_nil, false_implies, implies_true, nI_clamp, nI_add, Nat.reducePow, hp_bd, hp_bdi, hp_ts, hp_tn, hp_tsc, hp_tnc, Nat.reduceAdd, Nat.reduceSub, Nat.reduceMul, Nat.reduceLT, Nat.reduceLeDiff, Nat.reduceEqDiff, reduceIte, not_true_eq_false, not_false_eq_true, and_true, true_and, and_self, and_false, false_and, or_true, true_or, or_false, false_or, decide_true, decide_false, Bool.and_true, Bool.true_and, Bool.not_false, Bool.or_false, Bool.false_or, Bool.or_true, Bool.true_or, i01, k]
  have k := m194s (d := d) (S := S) ht (a := 92)
  have cl : (nI t).toNatClampNeg = t := nI_clamp (by omega)
  have hbi : mm_inb (nI t) 6 = true := hp_inb (by omega) (by omega)
  have k128 : mm_cl (d + 1) 128 [.int s, .int (-1), .int (nI 4)] S = some (some (.int (if s < -1 ∨ nI 4 < s then nI 0 else nI 1)), S) := s128
  have fin : ∀ a c : Int32, ∀ m : Nat, m ≤ 60 → c = nI m → mm_ex (d + 2) 207 68 [.ref 92, .int (nI t), .int s, .int y, .int (nI 0)] [] (mm_uM (mm_uM S 110 t a) 111 t c) = some (some (.int (nI 1)), mm_zL (mm_uM (mm_uM S 110 t a) 111 t c) 112 (60 * t) 60) ∧ gm_p (mm_zL (mm_uM (mm_uM S 110 t a) 111 t c) 112 (60 * t) 60) (ab_up1 (gb_p G) t (a, m, fun _ => 0)) ∧ sf_f gm_pp S (mm_zL (mm_uM (mm_uM S 110 t a) 111 t c) 112 (60 * t) 60) := by
    intro a c m hm hc
    have w2 : mm_W (mm_uM (mm_uM S 110 t a) 111 t c) := hw
    have l := l207 (d := d + 2) w2 ht (x2 := s) (x3 := y) 60 0 rfl
    rw [zL_0] at l
    refine ⟨l, mp_up hp ?_ ?_ (fun u hu => tsz ok hu) (fun i hi => ?_) (fun u hu => ⟨?_, ?_, fun i hi => ?_⟩), sf_tr (sf_tr (sf_uM (by unfold gm_pp; omega)) (sf_uM (by unfold gm_pp; omega))) (sf_zL (fun j => by unfold gm_pp; omega))⟩
    · rw [hz_M, rdn (by omega), rds]
    · rw [hz_M, rds, hc]
    · have hi2 : i < m := hi
      rw [hz_L, if_pos ⟨rfl, by omega, by omega⟩]
    · rw [hz_M, rdn (by omega), rdn (by omega)]
    · rw [hz_M, rdn (by omega), rdn (by omega)]
    · rw [hz_L, if_neg (by omega)]; rfl
  by_cases hs : s = -1
  · subst hs
    have eo : op_31 G (nI t) (-1) y = (nI 1, gS_p G (ab_up1 (gb_p G) t (-1, 0, fun _ => 0))) := by unfold op_31; simp only [e, if_true]
    rw [if_neg (by decide)] at k128
    obtain ⟨f1, f2, f3⟩ := fin (-1) (nI 0) 0 (by decide) rfl
    have h1 : ((-1 : Int32) < nI 0) = True := eq_true (by decide)
    have h2 : (nI 0 ≤ (-1 : Int32)) = False := eq_false (by decide)
    rw [eo]
    refine oM_p ok hR (T := mm_zL (mm_uM (mm_uM S 110 t (-1)) 111 t (nI 0)) 112 (60 * t) 60) ?_ f3 hw f2 rfl rfl
    rw [← f1]
    simp only [b207_0, b207_5, b207_8, b207_10, b207_16, b207_19, b207_23, b207_29, b207_32, b207_36, b207_40, b207_43, b207_59, b207_63, b207_94, e207, wx_o92 hw, wx_k92 hw, wx_q92 hw, wx_g92_1 hw, wx_s92_1 hw, wx_N93 hw, wx_a93 hw, wx_g92_2 hw, wx_s92_2 hw, wx_N94 hw, wx_a94 hw, wx_g92_3 hw, wx_s92_3 hw, wx_N95 hw, wx_a95 hw, wx_g92_4 hw, wx_s92_4 hw, wx_N96 hw, wx_a96 hw, wx_g92_5 hw, wx_s92_5 hw, wx_N97 hw, wx_a97 hw, wx_g92_6 hw, wx_s92_6 hw, wx_N98 hw, wx_a98 hw, wx_g92_7 hw, wx_s92_7 hw, wx_N99 hw, wx_a99 hw, wx_g92_9 hw, wx_s92_9 hw, wx_N100 hw, wx_a100 hw, wx_g92_16 hw, wx_s92_16 hw, wx_N101 hw, wx_a101 hw, wx_g92_19 hw, wx_s92_19 hw, wx_N102 hw, wx_a102 hw, wx_g92_20 hw, wx_s92_20 hw, wx_N103 hw, wx_a103 hw, wx_g92_21 hw, wx_s92_21 hw, wx_N104 hw, wx_a104 hw, wx_g92_22 hw, wx_s92_22 hw, wx_N105 hw, wx_a105 hw, wx_g92_23 hw, wx_s92_23 hw, wx_N106 hw, wx_a106 hw, wx_g92_24 hw, wx_s92_24 hw, wx_N107 hw, wx_a107 hw, wx_g92_25 hw, wx_s92_25 hw, wx_N108 hw, wx_a108 hw, wx_g92_29 hw, wx_s92_29 hw, wx_N109 hw, wx_a109 hw, wx_g92_30 hw, wx_s92_30 hw, wx_N110 hw, wx_a110 hw, wx_g92_31 hw, wx_s92_31 hw, wx_N111 hw, wx_a111 hw, wx_g92_32 hw, wx_s92_32 hw, wx_N112 hw, wx_a112 hw, wx_g92_33 hw, wx_s92_33 hw, wx_N113 hw, wx_a113 hw, wx_g92_34 hw, wx_s92_34 hw, wx_N114 hw, wx_a114 hw, wx_g92_35 hw, wx_s92_35 hw, wx_N115 hw, wx_a115 hw, wx_g92_38 hw, wx_s92_38 hw, wx_N116 hw, wx_a116 hw, wx_g92_41 hw, wx_s92_41 hw, wx_N117 hw, wx_a117 hw, wx_g92_44 hw, wx_s92_44 hw, wx_N118 hw, wx_a118 hw, wx_g92_45 hw, wx_s92_45 hw, wx_N119 hw, wx_a119 hw, wx_g92_46 hw, wx_s92_46 hw, wx_N120 hw, wx_a120 hw, wx_g92_52 hw, wx_s92_52 hw, wx_N121 hw, wx_a121 hw, wx_g92_55 hw, wx_s92_55 hw, wx_N122 hw, wx_a122 hw, wx_g92_56 hw, wx_s92_56 hw, wx_N123 hw, wx_a123 hw, wx_g92_57 hw, wx_s92_57 hw, wx_N124 hw, wx_a124 hw, wx_g92_58 hw, wx_s92_58 hw, wx_N125 hw, wx_a125 hw, wx_g92_64 hw, wx_s92_64 hw, wx_N126 hw, wx_a126 hw, wx_g92_65 hw, wx_s92_65 hw, wx_N127 hw, wx_a127 hw, wx_g92_66 hw, wx_s92_66 hw, wx_N128 hw, wx_a128 hw, wx_g92_67 hw, wx_s92_67 hw, wx_N129 hw, wx_a129 hw, wx_g92_68 hw, wx_s92_68 hw, wx_N130 hw, wx_a130 hw, wx_g92_69 hw, wx_s92_69 hw, wx_N131 hw, wx_a131 hw, wx_g92_70 hw, wx_s92_70 hw, wx_N132 hw, wx_a132 hw, wx_g92_71 hw, wx_s92_71 hw, wx_N133 hw, wx_a133 hw, wx_g92_72 hw, wx_s92_72 hw, wx_N134 hw, wx_a134 hw, wx_g92_73 hw, wx_s92_73 hw, wx_N135 hw, wx_a135 hw, wx_g92_75 hw, wx_s92_75 hw, wx_N136 hw, wx_a136 hw, List.not_mem_nil, false_implies, implies_true, nI_clamp, nI_add, Nat.reducePow, hp_bd, hp_bdi, hp_ts, hp_tn, hp_tsc, hp_tnc, Nat.reduceAdd, Nat.reduceSub, Nat.reduceMul, Nat.reduceLT, Nat.reduceLeDiff, Nat.reduceEqDiff, reduceIte, not_true_eq_false, not_false_eq_true, and_true, true_and, and_self, and_false, false_and, or_true, true_or, or_false, false_or, decide_true, decide_false, Bool.and_true, Bool.true_and, Bool.not_false, Bool.or_false, Bool.false_or, Bool.or_true, Bool.true_or, hp_MuM, hp_LuL, hp_RuR, hp_McpM, hp_LcpL, hp_LuM, hp_RuM, hp_KuM, hp_NuM, hp_nuM, hp_zuM, hp_ouM, hp_auM, hp_kuM, hp_guM, hp_MuL, hp_RuL, hp_KuL, hp_NuL, hp_nuL, hp_zuL, hp_ouL, hp_auL, hp_kuL, hp_guL, hp_MuR, hp_LuR, hp_KuR, hp_NuR, hp_nuR, hp_zuR, hp_ouR, hp_auR, hp_kuR, hp_LcpM, hp_RcpM, hp_KcpM, hp_NcpM, hp_ncpM, hp_zcpM, hp_ocpM, hp_acpM, hp_kcpM, hp_gcpM, hp_McpL, hp_RcpL, hp_KcpL, hp_NcpL, hp_ncpL, hp_zcpL, hp_ocpL, hp_acpL, hp_kcpL, hp_gcpL, hp_MwM, hp_LwM, hp_RwM, hp_KwM, hp_NwM, hp_nwM, hp_zwM, hp_owM, hp_awM, hp_kwM, hp_gwM, hp_MwR, hp_LwR, hp_RwR, hp_KwR, hp_NwR, hp_nwR, hp_zwR, hp_owR, hp_awR, hp_kwR, hp_MwL, hp_LwL, hp_RwL, hp_KwL, hp_NwL, hp_nwL, hp_zwL, hp_owL, hp_awL, hp_kwL, hp_gwL, hp_w2M, hp_w2R, hp_w2L, i01, k, k128, cl, hbi, h1, h2]
  rcases kw_d (n := 4) (m := 5) rfl (by decide) s with ⟨ep, a1, a2, a3, a4, a5, a6⟩ | ⟨ep, a1, a2, a3, a4, a5, a6⟩ | ⟨s, hs5, ep, rfl, a1, a2, a3, a4, a5, a6⟩
  · have eo : op_31 G (nI t) s y = (-2, G) := by unfold op_31; simp only [e, hs, if_false, ep]
    rw [if_pos (Or.inl (by
      have := of_eq_true a1
      rw [Int32.lt_iff_toInt_lt] at this ⊢
      have h0 : (nI 0).toInt = 0 := rfl
      have h1 : (-1 : Int32).toInt = -1 := rfl
      have h2 : s.toInt ≠ -1 := fun h => hs (Int32.toInt_inj.mp (h.trans h1.symm))
      omega))] at k128
    rw [eo]
    refine oM_id hR ?_
    simp only [b207_0, b207_5, b207_8, b207_10, b207_16, b207_19, b207_23, b207_29, b207_32, b207_36, b207_40, b207_43, b207_59, b207_63, b207_94, e207, wx_o92 hw, wx_k92 hw, wx_q92 hw, wx_g92_1 hw, wx_s92_1 hw, wx_N93 hw, wx_a93 hw, wx_g92_2 hw, wx_s92_2 hw, wx_N94 hw, wx_a94 hw, wx_g92_3 hw, wx_s92_3 hw, wx_N95 hw, wx_a95 hw, wx_g92_4 hw, wx_s92_4 hw, wx_N96 hw, wx_a96 hw, wx_g92_5 hw, wx_s92_5 hw, wx_N97 hw, wx_a97 hw, wx_g92_6 hw, wx_s92_6 hw, wx_N98 hw, wx_a98 hw, wx_g92_7 hw, wx_s92_7 hw, wx_N99 hw, wx_a99 hw, wx_g92_9 hw, wx_s92_9 hw, wx_N100 hw, wx_a100 hw, wx_g92_16 hw, wx_s92_16 hw, wx_N101 hw, wx_a101 hw, wx_g92_19 hw, wx_s92_19 hw, wx_N102 hw, wx_a102 hw, wx_g92_20 hw, wx_s92_20 hw, wx_N103 hw, wx_a103 hw, wx_g92_21 hw, wx_s92_21 hw, wx_N104 hw, wx_a104 hw, wx_g92_22 hw, wx_s92_22 hw, wx_N105 hw, wx_a105 hw, wx_g92_23 hw, wx_s92_23 hw, wx_N106 hw, wx_a106 hw, wx_g92_24 hw, wx_s92_24 hw, wx_N107 hw, wx_a107 hw, wx_g92_25 hw, wx_s92_25 hw, wx_N108 hw, wx_a108 hw, wx_g92_29 hw, wx_s92_29 hw, wx_N109 hw, wx_a109 hw, wx_g92_30 hw, wx_s92_30 hw, wx_N110 hw, wx_a110 hw, wx_g92_31 hw, wx_s92_31 hw, wx_N111 hw, wx_a111 hw, wx_g92_32 hw, wx_s92_32 hw, wx_N112 hw, wx_a112 hw, wx_g92_33 hw, wx_s92_33 hw, wx_N113 hw, wx_a113 hw, wx_g92_34 hw, wx_s92_34 hw, wx_N114 hw, wx_a114 hw, wx_g92_35 hw, wx_s92_35 hw, wx_N115 hw, wx_a115 hw, wx_g92_38 hw, wx_s92_38 hw, wx_N116 hw, wx_a116 hw, wx_g92_41 hw, wx_s92_41 hw, wx_N117 hw, wx_a117 hw, wx_g92_44 hw, wx_s92_44 hw, wx_N118 hw, wx_a118 hw, wx_g92_45 hw, wx_s92_45 hw, wx_N119 hw, wx_a119 hw, wx_g92_46 hw, wx_s92_46 hw, wx_N120 hw, wx_a120 hw, wx_g92_52 hw, wx_s92_52 hw, wx_N121 hw, wx_a121 hw, wx_g92_55 hw, wx_s92_55 hw, wx_N122 hw, wx_a122 hw, wx_g92_56 hw, wx_s92_56 hw, wx_N123 hw, wx_a123 hw, wx_g92_57 hw, wx_s92_57 hw, wx_N124 hw, wx_a124 hw, wx_g92_58 hw, wx_s92_58 hw, wx_N125 hw, wx_a125 hw, wx_g92_64 hw, wx_s92_64 hw, wx_N126 hw, wx_a126 hw, wx_g92_65 hw, wx_s92_65 hw, wx_N127 hw, wx_a127 hw, wx_g92_66 hw, wx_s92_66 hw, wx_N128 hw, wx_a128 hw, wx_g92_67 hw, wx_s92_67 hw, wx_N129 hw, wx_a129 hw, wx_g92_68 hw, wx_s92_68 hw, wx_N130 hw, wx_a130 hw, wx_g92_69 hw, wx_s92_69 hw, wx_N131 hw, wx_a131 hw, wx_g92_70 hw, wx_s92_70 hw, wx_N132 hw, wx_a132 hw, wx_g92_71 hw, wx_s92_71 hw, wx_N133 hw, wx_a133 hw, wx_g92_72 hw, wx_s92_72 hw, wx_N134 hw, wx_a134 hw, wx_g92_73 hw, wx_s92_73 hw, wx_N135 hw, wx_a135 hw, wx_g92_75 hw, wx_s92_75 hw, wx_N136 hw, wx_a136 hw, List.not_mem_nil, false_implies, implies_true, nI_clamp, nI_add, Nat.reducePow, hp_bd, hp_bdi, hp_ts, hp_tn, hp_tsc, hp_tnc, Nat.reduceAdd, Nat.reduceSub, Nat.reduceMul, Nat.reduceLT, Nat.reduceLeDiff, Nat.reduceEqDiff, reduceIte, not_true_eq_false, not_false_eq_true, and_true, true_and, and_self, and_false, false_and, or_true, true_or, or_false, false_or, decide_true, decide_false, Bool.and_true, Bool.true_and, Bool.not_false, Bool.or_false, Bool.false_or, Bool.or_true, Bool.true_or, i01, k, k128]
  · have eo : op_31 G (nI t) s y = (-2, G) := by unfold op_31; simp only [e, hs, if_false, ep]
    rw [if_pos (Or.inr (of_eq_true a3))] at k128
    rw [eo]
    refine oM_id hR ?_
    simp only [b207_0, b207_5, b207_8, b207_10, b207_16, b207_19, b207_23, b207_29, b207_32, b207_36, b207_40, b207_43, b207_59, b207_63, b207_94, e207, wx_o92 hw, wx_k92 hw, wx_q92 hw, wx_g92_1 hw, wx_s92_1 hw, wx_N93 hw, wx_a93 hw, wx_g92_2 hw, wx_s92_2 hw, wx_N94 hw, wx_a94 hw, wx_g92_3 hw, wx_s92_3 hw, wx_N95 hw, wx_a95 hw, wx_g92_4 hw, wx_s92_4 hw, wx_N96 hw, wx_a96 hw, wx_g92_5 hw, wx_s92_5 hw, wx_N97 hw, wx_a97 hw, wx_g92_6 hw, wx_s92_6 hw, wx_N98 hw, wx_a98 hw, wx_g92_7 hw, wx_s92_7 hw, wx_N99 hw, wx_a99 hw, wx_g92_9 hw, wx_s92_9 hw, wx_N100 hw, wx_a100 hw, wx_g92_16 hw, wx_s92_16 hw, wx_N101 hw, wx_a101 hw, wx_g92_19 hw, wx_s92_19 hw, wx_N102 hw, wx_a102 hw, wx_g92_20 hw, wx_s92_20 hw, wx_N103 hw, wx_a103 hw, wx_g92_21 hw, wx_s92_21 hw, wx_N104 hw, wx_a104 hw, wx_g92_22 hw, wx_s92_22 hw, wx_N105 hw, wx_a105 hw, wx_g92_23 hw, wx_s92_23 hw, wx_N106 hw, wx_a106 hw, wx_g92_24 hw, wx_s92_24 hw, wx_N107 hw, wx_a107 hw, wx_g92_25 hw, wx_s92_25 hw, wx_N108 hw, wx_a108 hw, wx_g92_29 hw, wx_s92_29 hw, wx_N109 hw, wx_a109 hw, wx_g92_30 hw, wx_s92_30 hw, wx_N110 hw, wx_a110 hw, wx_g92_31 hw, wx_s92_31 hw, wx_N111 hw, wx_a111 hw, wx_g92_32 hw, wx_s92_32 hw, wx_N112 hw, wx_a112 hw, wx_g92_33 hw, wx_s92_33 hw, wx_N113 hw, wx_a113 hw, wx_g92_34 hw, wx_s92_34 hw, wx_N114 hw, wx_a114 hw, wx_g92_35 hw, wx_s92_35 hw, wx_N115 hw, wx_a115 hw, wx_g92_38 hw, wx_s92_38 hw, wx_N116 hw, wx_a116 hw, wx_g92_41 hw, wx_s92_41 hw, wx_N117 hw, wx_a117 hw, wx_g92_44 hw, wx_s92_44 hw, wx_N118 hw, wx_a118 hw, wx_g92_45 hw, wx_s92_45 hw, wx_N119 hw, wx_a119 hw, wx_g92_46 hw, wx_s92_46 hw, wx_N120 hw, wx_a120 hw, wx_g92_52 hw, wx_s92_52 hw, wx_N121 hw, wx_a121 hw, wx_g92_55 hw, wx_s92_55 hw, wx_N122 hw, wx_a122 hw, wx_g92_56 hw, wx_s92_56 hw, wx_N123 hw, wx_a123 hw, wx_g92_57 hw, wx_s92_57 hw, wx_N124 hw, wx_a124 hw, wx_g92_58 hw, wx_s92_58 hw, wx_N125 hw, wx_a125 hw, wx_g92_64 hw, wx_s92_64 hw, wx_N126 hw, wx_a126 hw, wx_g92_65 hw, wx_s92_65 hw, wx_N127 hw, wx_a127 hw, wx_g92_66 hw, wx_s92_66 hw, wx_N128 hw, wx_a128 hw, wx_g92_67 hw, wx_s92_67 hw, wx_N129 hw, wx_a129 hw, wx_g92_68 hw, wx_s92_68 hw, wx_N130 hw, wx_a130 hw, wx_g92_69 hw, wx_s92_69 hw, wx_N131 hw, wx_a131 hw, wx_g92_70 hw, wx_s92_70 hw, wx_N132 hw, wx_a132 hw, wx_g92_71 hw, wx_s92_71 hw, wx_N133 hw, wx_a133 hw, wx_g92_72 hw, wx_s92_72 hw, wx_N134 hw, wx_a134 hw, wx_g92_73 hw, wx_s92_73 hw, wx_N135 hw, wx_a135 hw, wx_g92_75 hw, wx_s92_75 hw, wx_N136 hw, wx_a136 hw, List.not_mem_nil, false_implies, implies_true, nI_clamp, nI_add, Nat.reducePow, hp_bd, hp_bdi, hp_ts, hp_tn, hp_tsc, hp_tnc, Nat.reduceAdd, Nat.reduceSub, Nat.reduceMul, Nat.reduceLT, Nat.reduceLeDiff, Nat.reduceEqDiff, reduceIte, not_true_eq_false, not_false_eq_true, and_true, true_and, and_self, and_false, false_and, or_true, true_or, or_false, false_or, decide_true, decide_false, Bool.and_true, Bool.true_and, Bool.not_false, Bool.or_false, Bool.false_or, Bool.or_true, Bool.true_or, i01, k, k128]
  have hm1 : ¬ (nI s < -1) := by
    rw [Int32.lt_iff_toInt_lt, nI_toInt (by omega)]
    have h1 : (-1 : Int32).toInt = -1 := rfl
    omega
  rw [if_neg (fun e => e.elim hm1 (of_eq_false a3))] at k128
  rcases kw_d (n := 60) (m := 61) rfl (by decide) y with ⟨ey, c1, c2, c3, c4, c5, c6⟩ | ⟨ey, c1, c2, c3, c4, c5, c6⟩ | ⟨y, hy, ey, rfl, c1, c2, c3, c4, c5, c6⟩
  · have eo : op_31 G (nI t) (nI s) y = (-14, G) := by unfold op_31; simp only [e, hs, if_false, ep, c1, c3, if_true]
    rw [eo]
    refine oM_id hR ?_
    simp only [b207_0, b207_5, b207_8, b207_10, b207_16, b207_19, b207_23, b207_29, b207_32, b207_36, b207_40, b207_43, b207_59, b207_63, b207_94, e207, wx_o92 hw, wx_k92 hw, wx_q92 hw, wx_g92_1 hw, wx_s92_1 hw, wx_N93 hw, wx_a93 hw, wx_g92_2 hw, wx_s92_2 hw, wx_N94 hw, wx_a94 hw, wx_g92_3 hw, wx_s92_3 hw, wx_N95 hw, wx_a95 hw, wx_g92_4 hw, wx_s92_4 hw, wx_N96 hw, wx_a96 hw, wx_g92_5 hw, wx_s92_5 hw, wx_N97 hw, wx_a97 hw, wx_g92_6 hw, wx_s92_6 hw, wx_N98 hw, wx_a98 hw, wx_g92_7 hw, wx_s92_7 hw, wx_N99 hw, wx_a99 hw, wx_g92_9 hw, wx_s92_9 hw, wx_N100 hw, wx_a100 hw, wx_g92_16 hw, wx_s92_16 hw, wx_N101 hw, wx_a101 hw, wx_g92_19 hw, wx_s92_19 hw, wx_N102 hw, wx_a102 hw, wx_g92_20 hw, wx_s92_20 hw, wx_N103 hw, wx_a103 hw, wx_g92_21 hw, wx_s92_21 hw, wx_N104 hw, wx_a104 hw, wx_g92_22 hw, wx_s92_22 hw, wx_N105 hw, wx_a105 hw, wx_g92_23 hw, wx_s92_23 hw, wx_N106 hw, wx_a106 hw, wx_g92_24 hw, wx_s92_24 hw, wx_N107 hw, wx_a107 hw, wx_g92_25 hw, wx_s92_25 hw, wx_N108 hw, wx_a108 hw, wx_g92_29 hw, wx_s92_29 hw, wx_N109 hw, wx_a109 hw, wx_g92_30 hw, wx_s92_30 hw, wx_N110 hw, wx_a110 hw, wx_g92_31 hw, wx_s92_31 hw, wx_N111 hw, wx_a111 hw, wx_g92_32 hw, wx_s92_32 hw, wx_N112 hw, wx_a112 hw, wx_g92_33 hw, wx_s92_33 hw, wx_N113 hw, wx_a113 hw, wx_g92_34 hw, wx_s92_34 hw, wx_N114 hw, wx_a114 hw, wx_g92_35 hw, wx_s92_35 hw, wx_N115 hw, wx_a115 hw, wx_g92_38 hw, wx_s92_38 hw, wx_N116 hw, wx_a116 hw, wx_g92_41 hw, wx_s92_41 hw, wx_N117 hw, wx_a117 hw, wx_g92_44 hw, wx_s92_44 hw, wx_N118 hw, wx_a118 hw, wx_g92_45 hw, wx_s92_45 hw, wx_N119 hw, wx_a119 hw, wx_g92_46 hw, wx_s92_46 hw, wx_N120 hw, wx_a120 hw, wx_g92_52 hw, wx_s92_52 hw, wx_N121 hw, wx_a121 hw, wx_g92_55 hw, wx_s92_55 hw, wx_N122 hw, wx_a122 hw, wx_g92_56 hw, wx_s92_56 hw, wx_N123 hw, wx_a123 hw, wx_g92_57 hw, wx_s92_57 hw, wx_N124 hw, wx_a124 hw, wx_g92_58 hw, wx_s92_58 hw, wx_N125 hw, wx_a125 hw, wx_g92_64 hw, wx_s92_64 hw, wx_N126 hw, wx_a126 hw, wx_g92_65 hw, wx_s92_65 hw, wx_N127 hw, wx_a127 hw, wx_g92_66 hw, wx_s92_66 hw, wx_N128 hw, wx_a128 hw, wx_g92_67 hw, wx_s92_67 hw, wx_N129 hw, wx_a129 hw, wx_g92_68 hw, wx_s92_68 hw, wx_N130 hw, wx_a130 hw, wx_g92_69 hw, wx_s92_69 hw, wx_N131 hw, wx_a131 hw, wx_g92_70 hw, wx_s92_70 hw, wx_N132 hw, wx_a132 hw, wx_g92_71 hw, wx_s92_71 hw, wx_N133 hw, wx_a133 hw, wx_g92_72 hw, wx_s92_72 hw, wx_N134 hw, wx_a134 hw, wx_g92_73 hw, wx_s92_73 hw, wx_N135 hw, wx_a135 hw, wx_g92_75 hw, wx_s92_75 hw, wx_N136 hw, wx_a136 hw, List.not_mem_nil, false_implies, implies_true, nI_clamp, nI_add, Nat.reducePow, hp_bd, hp_bdi, hp_ts, hp_tn, hp_tsc, hp_tnc, Nat.reduceAdd, Nat.reduceSub, Nat.reduceMul, Nat.reduceLT, Nat.reduceLeDiff, Nat.reduceEqDiff, reduceIte, not_true_eq_false, not_false_eq_true, and_true, true_and, and_self, and_false, false_and, or_true, true_or, or_false, false_or, decide_true, decide_false, Bool.and_true, Bool.true_and, Bool.not_false, Bool.or_false, Bool.false_or, Bool.or_true, Bool.true_or, i01, k, k128, a1, c2, c4]
  · have eo : op_31 G (nI t) (nI s) y = (-2, G) := by unfold op_31; simp only [e, hs, if_false, ep, c3, if_true]
    rw [eo]
    refine oM_id hR ?_
    simp only [b207_0, b207_5, b207_8, b207_10, b207_16, b207_19, b207_23, b207_29, b207_32, b207_36, b207_40, b207_43, b207_59, b207_63, b207_94, e207, wx_o92 hw, wx_k92 hw, wx_q92 hw, wx_g92_1 hw, wx_s92_1 hw, wx_N93 hw, wx_a93 hw, wx_g92_2 hw, wx_s92_2 hw, wx_N94 hw, wx_a94 hw, wx_g92_3 hw, wx_s92_3 hw, wx_N95 hw, wx_a95 hw, wx_g92_4 hw, wx_s92_4 hw, wx_N96 hw, wx_a96 hw, wx_g92_5 hw, wx_s92_5 hw, wx_N97 hw, wx_a97 hw, wx_g92_6 hw, wx_s92_6 hw, wx_N98 hw, wx_a98 hw, wx_g92_7 hw, wx_s92_7 hw, wx_N99 hw, wx_a99 hw, wx_g92_9 hw, wx_s92_9 hw, wx_N100 hw, wx_a100 hw, wx_g92_16 hw, wx_s92_16 hw, wx_N101 hw, wx_a101 hw, wx_g92_19 hw, wx_s92_19 hw, wx_N102 hw, wx_a102 hw, wx_g92_20 hw, wx_s92_20 hw, wx_N103 hw, wx_a103 hw, wx_g92_21 hw, wx_s92_21 hw, wx_N104 hw, wx_a104 hw, wx_g92_22 hw, wx_s92_22 hw, wx_N105 hw, wx_a105 hw, wx_g92_23 hw, wx_s92_23 hw, wx_N106 hw, wx_a106 hw, wx_g92_24 hw, wx_s92_24 hw, wx_N107 hw, wx_a107 hw, wx_g92_25 hw, wx_s92_25 hw, wx_N108 hw, wx_a108 hw, wx_g92_29 hw, wx_s92_29 hw, wx_N109 hw, wx_a109 hw, wx_g92_30 hw, wx_s92_30 hw, wx_N110 hw, wx_a110 hw, wx_g92_31 hw, wx_s92_31 hw, wx_N111 hw, wx_a111 hw, wx_g92_32 hw, wx_s92_32 hw, wx_N112 hw, wx_a112 hw, wx_g92_33 hw, wx_s92_33 hw, wx_N113 hw, wx_a113 hw, wx_g92_34 hw, wx_s92_34 hw, wx_N114 hw, wx_a114 hw, wx_g92_35 hw, wx_s92_35 hw, wx_N115 hw, wx_a115 hw, wx_g92_38 hw, wx_s92_38 hw, wx_N116 hw, wx_a116 hw, wx_g92_41 hw, wx_s92_41 hw, wx_N117 hw, wx_a117 hw, wx_g92_44 hw, wx_s92_44 hw, wx_N118 hw, wx_a118 hw, wx_g92_45 hw, wx_s92_45 hw, wx_N119 hw, wx_a119 hw, wx_g92_46 hw, wx_s92_46 hw, wx_N120 hw, wx_a120 hw, wx_g92_52 hw, wx_s92_52 hw, wx_N121 hw, wx_a121 hw, wx_g92_55 hw, wx_s92_55 hw, wx_N122 hw, wx_a122 hw, wx_g92_56 hw, wx_s92_56 hw, wx_N123 hw, wx_a123 hw, wx_g92_57 hw, wx_s92_57 hw, wx_N124 hw, wx_a124 hw, wx_g92_58 hw, wx_s92_58 hw, wx_N125 hw, wx_a125 hw, wx_g92_64 hw, wx_s92_64 hw, wx_N126 hw, wx_a126 hw, wx_g92_65 hw, wx_s92_65 hw, wx_N127 hw, wx_a127 hw, wx_g92_66 hw, wx_s92_66 hw, wx_N128 hw, wx_a128 hw, wx_g92_67 hw, wx_s92_67 hw, wx_N129 hw, wx_a129 hw, wx_g92_68 hw, wx_s92_68 hw, wx_N130 hw, wx_a130 hw, wx_g92_69 hw, wx_s92_69 hw, wx_N131 hw, wx_a131 hw, wx_g92_70 hw, wx_s92_70 hw, wx_N132 hw, wx_a132 hw, wx_g92_71 hw, wx_s92_71 hw, wx_N133 hw, wx_a133 hw, wx_g92_72 hw, wx_s92_72 hw, wx_N134 hw, wx_a134 hw, wx_g92_73 hw, wx_s92_73 hw, wx_N135 hw, wx_a135 hw, wx_g92_75 hw, wx_s92_75 hw, wx_N136 hw, wx_a136 hw, List.not_mem_nil, false_implies, implies_true, nI_clamp, nI_add, Nat.reducePow, hp_bd, hp_bdi, hp_ts, hp_tn, hp_tsc, hp_tnc, Nat.reduceAdd, Nat.reduceSub, Nat.reduceMul, Nat.reduceLT, Nat.reduceLeDiff, Nat.reduceEqDiff, reduceIte, not_true_eq_false, not_false_eq_true, and_true, true_and, and_self, and_false, false_and, or_true, true_or, or_false, false_or, decide_true, decide_false, Bool.and_true, Bool.true_and, Bool.not_false, Bool.or_false, Bool.false_or, Bool.or_true, Bool.true_or, i01, k, k128, a1, c4]
  · have cy : (nI y).toNatClampNeg = y := nI_clamp (by omega)
    have eo : op_31 G (nI t) (nI s) (nI y) = (nI 1, gS_p G (ab_up1 (gb_p G) t (nI s, y, fun _ => 0))) := by unfold op_31; simp only [e, hs, if_false, ep, c1, c3, cy]
    obtain ⟨f1, f2, f3⟩ := fin (nI s) (nI y) y (by omega) rfl
    rw [eo]
    refine oM_p ok hR (T := mm_zL (mm_uM (mm_uM S 110 t (nI s)) 111 t (nI y)) 112 (60 * t) 60) ?_ f3 hw f2 rfl rfl
    rw [← f1]
    simp only [b207_0, b207_5, b207_8, b207_10, b207_16, b207_19, b207_23, b207_29, b207_32, b207_36, b207_40, b207_43, b207_59, b207_63, b207_94, e207, wx_o92 hw, wx_k92 hw, wx_q92 hw, wx_g92_1 hw, wx_s92_1 hw, wx_N93 hw, wx_a93 hw, wx_g92_2 hw, wx_s92_2 hw, wx_N94 hw, wx_a94 hw, wx_g92_3 hw, wx_s92_3 hw, wx_N95 hw, wx_a95 hw, wx_g92_4 hw, wx_s92_4 hw, wx_N96 hw, wx_a96 hw, wx_g92_5 hw, wx_s92_5 hw, wx_N97 hw, wx_a97 hw, wx_g92_6 hw, wx_s92_6 hw, wx_N98 hw, wx_a98 hw, wx_g92_7 hw, wx_s92_7 hw, wx_N99 hw, wx_a99 hw, wx_g92_9 hw, wx_s92_9 hw, wx_N100 hw, wx_a100 hw, wx_g92_16 hw, wx_s92_16 hw, wx_N101 hw, wx_a101 hw, wx_g92_19 hw, wx_s92_19 hw, wx_N102 hw, wx_a102 hw, wx_g92_20 hw, wx_s92_20 hw, wx_N103 hw, wx_a103 hw, wx_g92_21 hw, wx_s92_21 hw, wx_N104 hw, wx_a104 hw, wx_g92_22 hw, wx_s92_22 hw, wx_N105 hw, wx_a105 hw, wx_g92_23 hw, wx_s92_23 hw, wx_N106 hw, wx_a106 hw, wx_g92_24 hw, wx_s92_24 hw, wx_N107 hw, wx_a107 hw, wx_g92_25 hw, wx_s92_25 hw, wx_N108 hw, wx_a108 hw, wx_g92_29 hw, wx_s92_29 hw, wx_N109 hw, wx_a109 hw, wx_g92_30 hw, wx_s92_30 hw, wx_N110 hw, wx_a110 hw, wx_g92_31 hw, wx_s92_31 hw, wx_N111 hw, wx_a111 hw, wx_g92_32 hw, wx_s92_32 hw, wx_N112 hw, wx_a112 hw, wx_g92_33 hw, wx_s92_33 hw, wx_N113 hw, wx_a113 hw, wx_g92_34 hw, wx_s92_34 hw, wx_N114 hw, wx_a114 hw, wx_g92_35 hw, wx_s92_35 hw, wx_N115 hw, wx_a115 hw, wx_g92_38 hw, wx_s92_38 hw, wx_N116 hw, wx_a116 hw, wx_g92_41 hw, wx_s92_41 hw, wx_N117 hw, wx_a117 hw, wx_g92_44 hw, wx_s92_44 hw, wx_N118 hw, wx_a118 hw, wx_g92_45 hw, wx_s92_45 hw, wx_N119 hw, wx_a119 hw, wx_g92_46 hw, wx_s92_46 hw, wx_N120 hw, wx_a120 hw, wx_g92_52 hw, wx_s92_52 hw, wx_N121 hw, wx_a121 hw, wx_g92_55 hw, wx_s92_55 hw, wx_N122 hw, wx_a122 hw, wx_g92_56 hw, wx_s92_56 hw, wx_N123 hw, wx_a123 hw, wx_g92_57 hw, wx_s92_57 hw, wx_N124 hw, wx_a124 hw, wx_g92_58 hw, wx_s92_58 hw, wx_N125 hw, wx_a125 hw, wx_g92_64 hw, wx_s92_64 hw, wx_N126 hw, wx_a126 hw, wx_g92_65 hw, wx_s92_65 hw, wx_N127 hw, wx_a127 hw, wx_g92_66 hw, wx_s92_66 hw, wx_N128 hw, wx_a128 hw, wx_g92_67 hw, wx_s92_67 hw, wx_N129 hw, wx_a129 hw, wx_g92_68 hw, wx_s92_68 hw, wx_N130 hw, wx_a130 hw, wx_g92_69 hw, wx_s92_69 hw, wx_N131 hw, wx_a131 hw, wx_g92_70 hw, wx_s92_70 hw, wx_N132 hw, wx_a132 hw, wx_g92_71 hw, wx_s92_71 hw, wx_N133 hw, wx_a133 hw, wx_g92_72 hw, wx_s92_72 hw, wx_N134 hw, wx_a134 hw, wx_g92_73 hw, wx_s92_73 hw, wx_N135 hw, wx_a135 hw, wx_g92_75 hw, wx_s92_75 hw, wx_N136 hw, wx_a136 hw, List.not_mem_nil, false_implies, implies_true, nI_clamp, nI_add, Nat.reducePow, hp_bd, hp_bdi, hp_ts, hp_tn, hp_tsc, hp_tnc, Nat.reduceAdd, Nat.reduceSub, Nat.reduceMul, Nat.reduceLT, Nat.reduceLeDiff, Nat.reduceEqDiff, reduceIte, not_true_eq_false, not_false_eq_true, and_true, true_and, and_self, and_false, false_and, or_true, true_or, or_false, false_or, decide_true, decide_false, Bool.and_true, Bool.true_and, Bool.not_false, Bool.or_false, Bool.false_or, Bool.or_true, Bool.true_or, hp_MuM, hp_LuL, hp_RuR, hp_McpM, hp_LcpL, hp_LuM, hp_RuM, hp_KuM, hp_NuM, hp_nuM, hp_zuM, hp_ouM, hp_auM, hp_kuM, hp_guM, hp_MuL, hp_RuL, hp_KuL, hp_NuL, hp_nuL, hp_zuL, hp_ouL, hp_auL, hp_kuL, hp_guL, hp_MuR, hp_LuR, hp_KuR, hp_NuR, hp_nuR, hp_zuR, hp_ouR, hp_auR, hp_kuR, hp_LcpM, hp_RcpM, hp_KcpM, hp_NcpM, hp_ncpM, hp_zcpM, hp_ocpM, hp_acpM, hp_kcpM, hp_gcpM, hp_McpL, hp_RcpL, hp_KcpL, hp_NcpL, hp_ncpL, hp_zcpL, hp_ocpL, hp_acpL, hp_kcpL, hp_gcpL, hp_MwM, hp_LwM, hp_RwM, hp_KwM, hp_NwM, hp_nwM, hp_zwM, hp_owM, hp_awM, hp_kwM, hp_gwM, hp_MwR, hp_LwR, hp_RwR, hp_KwR, hp_NwR, hp_nwR, hp_zwR, hp_owR, hp_awR, hp_kwR, hp_MwL, hp_LwL, hp_RwL, hp_KwL, hp_NwL, hp_nwL, hp_zwL, hp_owL, hp_awL, hp_kwL, hp_gwL, hp_w2M, hp_w2R, hp_w2L, i01, k, k128, cl, hbi, a1, a2, c2, c4]
theorem s208 {c : Int32} (hc : ∃ k, k < 5 ∧ c = nI k) : mm_cl d 208 [.int c, .long v] S = some (some (.long (ab_cut c v)), S) := by
  obtain ⟨k, hk, rfl⟩ := hc
  unfold ab_cut
  rw [e208, b208_0]
  rcases (by omega : k = 0 ∨ k = 1 ∨ k = 2 ∨ k = 3 ∨ k = 4) with rfl | rfl | rfl | rfl | rfl
  · rw [if_pos rfl, if_pos rfl, b208_4]
  · rw [if_neg (by decide), if_neg (by decide), b208_11, if_pos rfl, if_pos rfl, b208_16]
  · rw [if_neg (by decide), if_neg (by decide), b208_11, if_neg (by decide), if_neg (by decide), b208_23, if_pos rfl, if_pos rfl, b208_28]
  · rw [if_neg (by decide), if_neg (by decide), b208_11, if_neg (by decide), if_neg (by decide), b208_23, if_neg (by decide), if_neg (by decide), b208_34, if_pos rfl, if_neg (by decide), b208_39]
  · rw [if_neg (by decide), if_neg (by decide), b208_11, if_neg (by decide), if_neg (by decide), b208_23, if_neg (by decide), if_neg (by decide), b208_34, if_neg (by decide), if_pos rfl, b208_43]
    by_cases h5 : lg_cmp v 0 = nI 0
    · rw [if_pos h5, if_pos h5, b208_53]
    · rw [if_neg h5, if_neg h5, b208_49]
theorem m62n {n : Nat} (hn : n ≤ 60) (e : ab_kw n x = none) : mm_cl d 128 [.int x, .int (nI 0), .int (nI n - nI 1)] S = some (some (.int (nI 0)), S) := by
  rw [s128, if_pos]
  unfold ab_kw at e
  by_cases q : x < nI 0 ∨ nI n ≤ x
  · rcases q with q | q
    · exact Or.inl q
    · refine Or.inr ?_
      rw [Int32.le_iff_toInt_le, nI_toInt (by omega)] at q
      rw [Int32.lt_iff_toInt_lt, pk_sub_toInt (by omega) (by decide)]
      omega
  · rw [if_neg q] at e; cases e
theorem m62s {n i : Nat} (hn : n ≤ 60) (hi : i < n) : mm_cl d 128 [.int (nI i), .int (nI 0), .int (nI n - nI 1)] S = some (some (.int (nI 1)), S) := by
  rw [s128, pk_sub (by omega), if_neg (fun e => e.elim (nI_n0 (by omega)) (nI_nlt (by omega) (by omega)))]
theorem m_32 (ok : gb_ok G) (hR : RM S G) : oM S (d + 2) 209 [.ref 92, .int t, .int i, .long v] (.int (op_32 G t i v).1) (op_32 G t i v).2 := by
  have hw := hR.1
  have hp := hR.2.2.2.2.2.1
  rcases kw_c (n := 6) (by decide) t with ⟨e, h⟩ | ⟨t, ht, e, rfl⟩
  · have k := m194n (d := d) (S := S) e (a := 92)
    have eo : op_32 G t i v = (-1, G) := by unfold op_32; simp only [e]
    rw [eo]
    refine oM_id hR ?_
    simp only [b209_0, b209_5, b209_8, b209_10, b209_20, b209_23, b209_36, b209_39, b209_42, b209_62, e209, wx_o92 hw, wx_k92 hw, wx_q92 hw, wx_g92_1 hw, wx_s92_1 hw, wx_N93 hw, wx_a93 hw, wx_g92_2 hw, wx_s92_2 hw, wx_N94 hw, wx_a94 hw, wx_g92_3 hw, wx_s92_3 hw, wx_N95 hw, wx_a95 hw, wx_g92_4 hw, wx_s92_4 hw, wx_N96 hw, wx_a96 hw, wx_g92_5 hw, wx_s92_5 hw, wx_N97 hw, wx_a97 hw, wx_g92_6 hw, wx_s92_6 hw, wx_N98 hw, wx_a98 hw, wx_g92_7 hw, wx_s92_7 hw, wx_N99 hw, wx_a99 hw, wx_g92_9 hw, wx_s92_9 hw, wx_N100 hw, wx_a100 hw, wx_g92_16 hw, wx_s92_16 hw, wx_N101 hw, wx_a101 hw, wx_g92_19 hw, wx_s92_19 hw, wx_N102 hw, wx_a102 hw, wx_g92_20 hw, wx_s92_20 hw, wx_N103 hw, wx_a103 hw, wx_g92_21 hw, wx_s92_21 hw, wx_N104 hw, wx_a104 hw, wx_g92_22 hw, wx_s92_22 hw, wx_N105 hw, wx_a105 hw, wx_g92_23 hw, wx_s92_23 hw, wx_N106 hw, wx_a106 hw, wx_g92_24 hw, wx_s92_24 hw, wx_N107 hw, wx_a107 hw, wx_g92_25 hw, wx_s92_25 hw, wx_N108 hw, wx_a108 hw, wx_g92_29 hw, wx_s92_29 hw, wx_N109 hw, wx_a109 hw, wx_g92_30 hw, wx_s92_30 hw, wx_N110 hw, wx_a110 hw, wx_g92_31 hw, wx_s92_31 hw, wx_N111 hw, wx_a111 hw, wx_g92_32 hw, wx_s92_32 hw, wx_N112 hw, wx_a112 hw, wx_g92_33 hw, wx_s92_33 hw, wx_N113 hw, wx_a113 hw, wx_g92_34 hw, wx_s92_34 hw, wx_N114 hw, wx_a114 hw, wx_g92_35 hw, wx_s92_35 hw, wx_N115 hw, wx_a115 hw, wx_g92_38 hw, wx_s92_38 hw, wx_N116 hw, wx_a116 hw, wx_g92_41 hw, wx_s92_41 hw, wx_N117 hw, wx_a117 hw, wx_g92_44 hw, wx_s92_44 hw, wx_N118 hw, wx_a118 hw, wx_g92_45 hw, wx_s92_45 hw, wx_N119 hw, wx_a119 hw, wx_g92_46 hw, wx_s92_46 hw, wx_N120 hw, wx_a120 hw, wx_g92_52 hw, wx_s92_52 hw, wx_N121 hw, wx_a121 hw, wx_g92_55 hw, wx_s92_55 hw, wx_N122 hw, wx_a122 hw, wx_g92_56 hw, wx_s92_56 hw, wx_N123 hw, wx_a123 hw, wx_g92_57 hw, wx_s92_57 hw, wx_N124 hw, wx_a124 hw, wx_g92_58 hw, wx_s92_58 hw, wx_N125 hw, wx_a125 hw, wx_g92_64 hw, wx_s92_64 hw, wx_N126 hw, wx_a126 hw, wx_g92_65 hw, wx_s92_65 hw, wx_N127 hw, wx_a127 hw, wx_g92_66 hw, wx_s92_66 hw, wx_N128 hw, wx_a128 hw, wx_g92_67 hw, wx_s92_67 hw, wx_N129 hw, wx_a129 hw, wx_g92_68 hw, wx_s92_68 hw, wx_N130 hw, wx_a130 hw, wx_g92_69 hw, wx_s92_69 hw, wx_N131 hw, wx_a131 hw, wx_g92_70 hw, wx_s92_70 hw, wx_N132 hw, wx_a132 hw, wx_g92_71 hw, wx_s92_71 hw, wx_N133 hw, wx_a133 hw, wx_g92_72 hw, wx_s92_72 hw, wx_N134 hw, wx_a134 hw, wx_g92_73 hw, wx_s92_73 hw, wx_N135 hw, wx_a135 hw, wx_g92_75 hw, wx_s92_75 hw, wx_N136 hw, wx_a136 hw, List.not_mem_nil, false_implies, implies_true, nI_clamp, nI_add, Nat.reducePow, hp_bd, hp_bdi, hp_ts, hp_tn, hp_tsc, hp_tnc, Nat.reduceAdd, Nat.reduceSub, Nat.reduceMul, Nat.reduceLT, Nat.reduceLeDiff, Nat.reduceEqDiff, reduceIte, not_true_eq_false, not_false_eq_true, and_true, true_and, and_self, and_false, false_and, or_true, true_or, or_false, false_or, decide_true, decide_false, Bool.and_true, Bool.true_and, Bool.not_false, Bool.or_false, Bool.false_or, Bool.or_true, Bool.true_or, i01, k]
  have k := m194s (d := d) (S := S) ht (a := 92)
  have cl : (nI t).toNatClampNeg = t := nI_clamp (by omega)
  have hbi : mm_inb (nI t) 6 = true := hp_inb (by omega) (by omega)
  obtain ⟨p1, p2, p3⟩ := hp t ht
  have sz := tsz ok ht
  by_cases hs : (gb_p G t).1 = -1
  · have eo : op_32 G (nI t) i v = (-11, G) := by unfold op_32; simp only [e, hs, if_true]
    rw [eo]
    refine oM_id hR ?_
    simp only [b209_0, b209_5, b209_8, b209_10, b209_20, b209_23, b209_36, b209_39, b209_42, b209_62, e209, wx_o92 hw, wx_k92 hw, wx_q92 hw, wx_g92_1 hw, wx_s92_1 hw, wx_N93 hw, wx_a93 hw, wx_g92_2 hw, wx_s92_2 hw, wx_N94 hw, wx_a94 hw, wx_g92_3 hw, wx_s92_3 hw, wx_N95 hw, wx_a95 hw, wx_g92_4 hw, wx_s92_4 hw, wx_N96 hw, wx_a96 hw, wx_g92_5 hw, wx_s92_5 hw, wx_N97 hw, wx_a97 hw, wx_g92_6 hw, wx_s92_6 hw, wx_N98 hw, wx_a98 hw, wx_g92_7 hw, wx_s92_7 hw, wx_N99 hw, wx_a99 hw, wx_g92_9 hw, wx_s92_9 hw, wx_N100 hw, wx_a100 hw, wx_g92_16 hw, wx_s92_16 hw, wx_N101 hw, wx_a101 hw, wx_g92_19 hw, wx_s92_19 hw, wx_N102 hw, wx_a102 hw, wx_g92_20 hw, wx_s92_20 hw, wx_N103 hw, wx_a103 hw, wx_g92_21 hw, wx_s92_21 hw, wx_N104 hw, wx_a104 hw, wx_g92_22 hw, wx_s92_22 hw, wx_N105 hw, wx_a105 hw, wx_g92_23 hw, wx_s92_23 hw, wx_N106 hw, wx_a106 hw, wx_g92_24 hw, wx_s92_24 hw, wx_N107 hw, wx_a107 hw, wx_g92_25 hw, wx_s92_25 hw, wx_N108 hw, wx_a108 hw, wx_g92_29 hw, wx_s92_29 hw, wx_N109 hw, wx_a109 hw, wx_g92_30 hw, wx_s92_30 hw, wx_N110 hw, wx_a110 hw, wx_g92_31 hw, wx_s92_31 hw, wx_N111 hw, wx_a111 hw, wx_g92_32 hw, wx_s92_32 hw, wx_N112 hw, wx_a112 hw, wx_g92_33 hw, wx_s92_33 hw, wx_N113 hw, wx_a113 hw, wx_g92_34 hw, wx_s92_34 hw, wx_N114 hw, wx_a114 hw, wx_g92_35 hw, wx_s92_35 hw, wx_N115 hw, wx_a115 hw, wx_g92_38 hw, wx_s92_38 hw, wx_N116 hw, wx_a116 hw, wx_g92_41 hw, wx_s92_41 hw, wx_N117 hw, wx_a117 hw, wx_g92_44 hw, wx_s92_44 hw, wx_N118 hw, wx_a118 hw, wx_g92_45 hw, wx_s92_45 hw, wx_N119 hw, wx_a119 hw, wx_g92_46 hw, wx_s92_46 hw, wx_N120 hw, wx_a120 hw, wx_g92_52 hw, wx_s92_52 hw, wx_N121 hw, wx_a121 hw, wx_g92_55 hw, wx_s92_55 hw, wx_N122 hw, wx_a122 hw, wx_g92_56 hw, wx_s92_56 hw, wx_N123 hw, wx_a123 hw, wx_g92_57 hw, wx_s92_57 hw, wx_N124 hw, wx_a124 hw, wx_g92_58 hw, wx_s92_58 hw, wx_N125 hw, wx_a125 hw, wx_g92_64 hw, wx_s92_64 hw, wx_N126 hw, wx_a126 hw, wx_g92_65 hw, wx_s92_65 hw, wx_N127 hw, wx_a127 hw, wx_g92_66 hw, wx_s92_66 hw, wx_N128 hw, wx_a128 hw, wx_g92_67 hw, wx_s92_67 hw, wx_N129 hw, wx_a129 hw, wx_g92_68 hw, wx_s92_68 hw, wx_N130 hw, wx_a130 hw, wx_g92_69 hw, wx_s92_69 hw, wx_N131 hw, wx_a131 hw, wx_g92_70 hw, wx_s92_70 hw, wx_N132 hw, wx_a132 hw, wx_g92_71 hw, wx_s92_71 hw, wx_N133 hw, wx_a133 hw, wx_g92_72 hw, wx_s92_72 hw, wx_N134 hw, wx_a134 hw, wx_g92_73 hw, wx_s92_73 hw, wx_N135 hw, wx_a135 hw, wx_g92_75 hw, wx_s92_75 hw, wx_N136 hw, wx_a136 hw, List.not_mem_nil, false_implies, implies_true, nI_clamp, nI_add, Nat.reducePow, hp_bd, hp_bdi, hp_ts, hp_tn, hp_tsc, hp_tnc, Nat.reduceAdd, Nat.reduceSub, Nat.reduceMul, Nat.reduceLT, Nat.reduceLeDiff, Nat.reduceEqDiff, reduceIte, not_true_eq_false, not_false_eq_true, and_true, true_and, and_self, and_false, false_and, or_true, true_or, or_false, false_or, decide_true, decide_false, Bool.and_true, Bool.true_and, Bool.not_false, Bool.or_false, Bool.false_or, Bool.or_true, Bool.true_or, i01, k, cl, hbi, p1, hs]
  replace p2 := p2 hs
  have h5 : ∃ k, k < 5 ∧ (gb_p G t).1 = nI k := by
    rcases ok.2.2.2.2.2.2.1 t ht with ⟨h, -⟩ | ⟨h, -⟩
    · exact absurd h hs
    · exact h
  rcases kw_e sz i with ei | ⟨i, hi, ei, rfl⟩
  · have k62 := m62n (d := d + 1) (S := S) sz ei
    have eo : op_32 G (nI t) i v = (-13, G) := by unfold op_32; simp only [e, hs, if_false, ei]
    rw [eo]
    refine oM_id hR ?_
    simp only [b209_0, b209_5, b209_8, b209_10, b209_20, b209_23, b209_36, b209_39, b209_42, b209_62, e209, wx_o92 hw, wx_k92 hw, wx_q92 hw, wx_g92_1 hw, wx_s92_1 hw, wx_N93 hw, wx_a93 hw, wx_g92_2 hw, wx_s92_2 hw, wx_N94 hw, wx_a94 hw, wx_g92_3 hw, wx_s92_3 hw, wx_N95 hw, wx_a95 hw, wx_g92_4 hw, wx_s92_4 hw, wx_N96 hw, wx_a96 hw, wx_g92_5 hw, wx_s92_5 hw, wx_N97 hw, wx_a97 hw, wx_g92_6 hw, wx_s92_6 hw, wx_N98 hw, wx_a98 hw, wx_g92_7 hw, wx_s92_7 hw, wx_N99 hw, wx_a99 hw, wx_g92_9 hw, wx_s92_9 hw, wx_N100 hw, wx_a100 hw, wx_g92_16 hw, wx_s92_16 hw, wx_N101 hw, wx_a101 hw, wx_g92_19 hw, wx_s92_19 hw, wx_N102 hw, wx_a102 hw, wx_g92_20 hw, wx_s92_20 hw, wx_N103 hw, wx_a103 hw, wx_g92_21 hw, wx_s92_21 hw, wx_N104 hw, wx_a104 hw, wx_g92_22 hw, wx_s92_22 hw, wx_N105 hw, wx_a105 hw, wx_g92_23 hw, wx_s92_23 hw, wx_N106 hw, wx_a106 hw, wx_g92_24 hw, wx_s92_24 hw, wx_N107 hw, wx_a107 hw, wx_g92_25 hw, wx_s92_25 hw, wx_N108 hw, wx_a108 hw, wx_g92_29 hw, wx_s92_29 hw, wx_N109 hw, wx_a109 hw, wx_g92_30 hw, wx_s92_30 hw, wx_N110 hw, wx_a110 hw, wx_g92_31 hw, wx_s92_31 hw, wx_N111 hw, wx_a111 hw, wx_g92_32 hw, wx_s92_32 hw, wx_N112 hw, wx_a112 hw, wx_g92_33 hw, wx_s92_33 hw, wx_N113 hw, wx_a113 hw, wx_g92_34 hw, wx_s92_34 hw, wx_N114 hw, wx_a114 hw, wx_g92_35 hw, wx_s92_35 hw, wx_N115 hw, wx_a115 hw, wx_g92_38 hw, wx_s92_38 hw, wx_N116 hw, wx_a116 hw, wx_g92_41 hw, wx_s92_41 hw, wx_N117 hw, wx_a117 hw, wx_g92_44 hw, wx_s92_44 hw, wx_N118 hw, wx_a118 hw, wx_g92_45 hw, wx_s92_45 hw, wx_N119 hw, wx_a119 hw, wx_g92_46 hw, wx_s92_46 hw, wx_N120 hw, wx_a120 hw, wx_g92_52 hw, wx_s92_52 hw, wx_N121 hw, wx_a121 hw, wx_g92_55 hw, wx_s92_55 hw, wx_N122 hw, wx_a122 hw, wx_g92_56 hw, wx_s92_56 hw, wx_N123 hw, wx_a123 hw, wx_g92_57 hw, wx_s92_57 hw, wx_N124 hw, wx_a124 hw, wx_g92_58 hw, wx_s92_58 hw, wx_N125 hw, wx_a125 hw, wx_g92_64 hw, wx_s92_64 hw, wx_N126 hw, wx_a126 hw, wx_g92_65 hw, wx_s92_65 hw, wx_N127 hw, wx_a127 hw, wx_g92_66 hw, wx_s92_66 hw, wx_N128 hw, wx_a128 hw, wx_g92_67 hw, wx_s92_67 hw, wx_N129 hw, wx_a129 hw, wx_g92_68 hw, wx_s92_68 hw, wx_N130 hw, wx_a130 hw, wx_g92_69 hw, wx_s92_69 hw, wx_N131 hw, wx_a131 hw, wx_g92_70 hw, wx_s92_70 hw, wx_N132 hw, wx_a132 hw, wx_g92_71 hw, wx_s92_71 hw, wx_N133 hw, wx_a133 hw, wx_g92_72 hw, wx_s92_72 hw, wx_N134 hw, wx_a134 hw, wx_g92_73 hw, wx_s92_73 hw, wx_N135 hw, wx_a135 hw, wx_g92_75 hw, wx_s92_75 hw, wx_N136 hw, wx_a136 hw, List.not_mem_nil, false_implies, implies_true, nI_clamp, nI_add, Nat.reducePow, hp_bd, hp_bdi, hp_ts, hp_tn, hp_tsc, hp_tnc, Nat.reduceAdd, Nat.reduceSub, Nat.reduceMul, Nat.reduceLT, Nat.reduceLeDiff, Nat.reduceEqDiff, reduceIte, not_true_eq_false, not_false_eq_true, and_true, true_and, and_self, and_false, false_and, or_true, true_or, or_false, false_or, decide_true, decide_false, Bool.and_true, Bool.true_and, Bool.not_false, Bool.or_false, Bool.false_or, Bool.or_true, Bool.true_or, i01, k, cl, hbi, p1, hs, p2, k62]
  · have k62 := m62s (d := d + 1) (S := S) sz hi
    have k64 := s208 (d := d + 1) (S := S) (v := v) h5
    have ci : (nI (60 * t + i)).toNatClampNeg = 60 * t + i := nI_clamp (by omega)
    have ii : mm_inb (nI (60 * t + i)) 360 = true := hp_inb (by omega) (by omega)
    have eo : op_32 G (nI t) (nI i) v = (nI 1, gS_p G (ab_up1 (gb_p G) t ((gb_p G t).1, (gb_p G t).2.1, ab_up1 (gb_p G t).2.2 i (ab_cut (gb_p G t).1 v)))) := by unfold op_32; simp only [e, hs, if_false, ei]
    have f : sf_f gm_pp S (mm_uL S 112 (60 * t + i) (ab_cut (gb_p G t).1 v)) := sf_uL (by unfold gm_pp; omega)
    rw [eo]
    refine oM_p ok hR (T := mm_uL S 112 (60 * t + i) (ab_cut (gb_p G t).1 v)) ?_ f hw (mp_up hp p1 p2 (fun u hu => tsz ok hu) (fun k hk => ?_) (fun u hu => ⟨rfl, rfl, fun k hk => ?_⟩)) rfl rfl
    · simp only [b209_0, b209_5, b209_8, b209_10, b209_20, b209_23, b209_36, b209_39, b209_42, b209_62, e209, wx_o92 hw, wx_k92 hw, wx_q92 hw, wx_g92_1 hw, wx_s92_1 hw, wx_N93 hw, wx_a93 hw, wx_g92_2 hw, wx_s92_2 hw, wx_N94 hw, wx_a94 hw, wx_g92_3 hw, wx_s92_3 hw, wx_N95 hw, wx_a95 hw, wx_g92_4 hw, wx_s92_4 hw, wx_N96 hw, wx_a96 hw, wx_g92_5 hw, wx_s92_5 hw, wx_N97 hw, wx_a97 hw, wx_g92_6 hw, wx_s92_6 hw, wx_N98 hw, wx_a98 hw, wx_g92_7 hw, wx_s92_7 hw, wx_N99 hw, wx_a99 hw, wx_g92_9 hw, wx_s92_9 hw, wx_N100 hw, wx_a100 hw, wx_g92_16 hw, wx_s92_16 hw, wx_N101 hw, wx_a101 hw, wx_g92_19 hw, wx_s92_19 hw, wx_N102 hw, wx_a102 hw, wx_g92_20 hw, wx_s92_20 hw, wx_N103 hw, wx_a103 hw, wx_g92_21 hw, wx_s92_21 hw, wx_N104 hw, wx_a104 hw, wx_g92_22 hw, wx_s92_22 hw, wx_N105 hw, wx_a105 hw, wx_g92_23 hw, wx_s92_23 hw, wx_N106 hw, wx_a106 hw, wx_g92_24 hw, wx_s92_24 hw, wx_N107 hw, wx_a107 hw, wx_g92_25 hw, wx_s92_25 hw, wx_N108 hw, wx_a108 hw, wx_g92_29 hw, wx_s92_29 hw, wx_N109 hw, wx_a109 hw, wx_g92_30 hw, wx_s92_30 hw, wx_N110 hw, wx_a110 hw, wx_g92_31 hw, wx_s92_31 hw, wx_N111 hw, wx_a111 hw, wx_g92_32 hw, wx_s92_32 hw, wx_N112 hw, wx_a112 hw, wx_g92_33 hw, wx_s92_33 hw, wx_N113 hw, wx_a113 hw, wx_g92_34 hw, wx_s92_34 hw, wx_N114 hw, wx_a114 hw, wx_g92_35 hw, wx_s92_35 hw, wx_N115 hw, wx_a115 hw, wx_g92_38 hw, wx_s92_38 hw, wx_N116 hw, wx_a116 hw, wx_g92_41 hw, wx_s92_41 hw, wx_N117 hw, wx_a117 hw, wx_g92_44 hw, wx_s92_44 hw, wx_N118 hw, wx_a118 hw, wx_g92_45 hw, wx_s92_45 hw, wx_N119 hw, wx_a119 hw, wx_g92_46 hw, wx_s92_46 hw, wx_N120 hw, wx_a120 hw, wx_g92_52 hw, wx_s92_52 hw, wx_N121 hw, wx_a121 hw, wx_g92_55 hw, wx_s92_55 hw, wx_N122 hw, wx_a122 hw, wx_g92_56 hw, wx_s92_56 hw, wx_N123 hw, wx_a123 hw, wx_g92_57 hw, wx_s92_57 hw, wx_N124 hw, wx_a124 hw, wx_g92_58 hw, wx_s92_58 hw, wx_N125 hw, wx_a125 hw, wx_g92_64 hw, wx_s92_64 hw, wx_N126 hw, wx_a126 hw, wx_g92_65 hw, wx_s92_65 hw, wx_N127 hw, wx_a127 hw, wx_g92_66 hw, wx_s92_66 hw, wx_N128 hw, wx_a128 hw, wx_g92_67 hw, wx_s92_67 hw, wx_N129 hw, wx_a129 hw, wx_g92_68 hw, wx_s92_68 hw, wx_N130 hw, wx_a130 hw, wx_g92_69 hw, wx_s92_69 hw, wx_N131 hw, wx_a131 hw, wx_g92_70 hw, wx_s92_70 hw, wx_N132 hw, wx_a132 hw, wx_g92_71 hw, wx_s92_71 hw, wx_N133 hw, wx_a133 hw, wx_g92_72 hw, wx_s92_72 hw, wx_N134 hw, wx_a134 hw, wx_g92_73 hw, wx_s92_73 hw, wx_N135 hw, wx_a135 hw, wx_g92_75 hw, wx_s92_75 hw, wx_N136 hw, wx_a136 hw, List.not_mem_nil, false_implies, implies_true, nI_clamp, nI_add, Nat.reducePow, hp_bd, hp_bdi, hp_ts, hp_tn, hp_tsc, hp_tnc, Nat.reduceAdd, Nat.reduceSub, Nat.reduceMul, Nat.reduceLT, Nat.reduceLeDiff, Nat.reduceEqDiff, reduceIte, not_true_eq_false, not_false_eq_true, and_true, true_and, and_self, and_false, false_and, or_true, true_or, or_false, false_or, decide_true, decide_false, Bool.and_true, Bool.true_and, Bool.not_false, Bool.or_false, Bool.false_or, Bool.or_true, Bool.true_or, i01, k, cl, hbi, p1, hs, p2, k62, k64, nI_mul, ci, ii]
    · rw [hp_LuL]
      show _ = (if k = i then ab_cut (gb_p G t).1 v else (gb_p G t).2.2 k)
      by_cases h : k = i
      · rw [if_pos ⟨rfl, by rw [h]⟩, if_pos h]
      · rw [if_neg (fun e => h (by omega)), if_neg h]; exact p3 k hk
    · rw [hp_LuL, if_neg (fun e => by omega)]
theorem m_33 (ok : gb_ok G) (hR : RM S G) : oM S (d + 2) 210 [.ref 92, .int t, .int i] (.long (an_33 G t i)) G := by
  have hw := hR.1
  have hp := hR.2.2.2.2.2.1
  refine oM_id hR ?_
  rcases kw_c (n := 6) (by decide) t with ⟨e, h⟩ | ⟨t, ht, e, rfl⟩
  · have k := m194n (d := d) (S := S) e (a := 92)
    have eo : an_33 G t i = -9223372036854775808 := by unfold an_33; simp only [e]
    simp only [eo, b210_0, b210_5, b210_8, b210_18, b210_31, b210_34, b210_48, e210, wx_o92 hw, wx_k92 hw, wx_q92 hw, wx_g92_1 hw, wx_s92_1 hw, wx_N93 hw, wx_a93 hw, wx_g92_2 hw, wx_s92_2 hw, wx_N94 hw, wx_a94 hw, wx_g92_3 hw, wx_s92_3 hw, wx_N95 hw, wx_a95 hw, wx_g92_4 hw, wx_s92_4 hw, wx_N96 hw, wx_a96 hw, wx_g92_5 hw, wx_s92_5 hw, wx_N97 hw, wx_a97 hw, wx_g92_6 hw, wx_s92_6 hw, wx_N98 hw, wx_a98 hw, wx_g92_7 hw, wx_s92_7 hw, wx_N99 hw, wx_a99 hw, wx_g92_9 hw, wx_s92_9 hw, wx_N100 hw, wx_a100 hw, wx_g92_16 hw, wx_s92_16 hw, wx_N101 hw, wx_a101 hw, wx_g92_19 hw, wx_s92_19 hw, wx_N102 hw, wx_a102 hw, wx_g92_20 hw, wx_s92_20 hw, wx_N103 hw, wx_a103 hw, wx_g92_21 hw, wx_s92_21 hw, wx_N104 hw, wx_a104 hw, wx_g92_22 hw, wx_s92_22 hw, wx_N105 hw, wx_a105 hw, wx_g92_23 hw, wx_s92_23 hw, wx_N106 hw, wx_a106 hw, wx_g92_24 hw, wx_s92_24 hw, wx_N107 hw, wx_a107 hw, wx_g92_25 hw, wx_s92_25 hw, wx_N108 hw, wx_a108 hw, wx_g92_29 hw, wx_s92_29 hw, wx_N109 hw, wx_a109 hw, wx_g92_30 hw, wx_s92_30 hw, wx_N110 hw, wx_a110 hw, wx_g92_31 hw, wx_s92_31 hw, wx_N111 hw, wx_a111 hw, wx_g92_32 hw, wx_s92_32 hw, wx_N112 hw, wx_a112 hw, wx_g92_33 hw, wx_s92_33 hw, wx_N113 hw, wx_a113 hw, wx_g92_34 hw, wx_s92_34 hw, wx_N114 hw, wx_a114 hw, wx_g92_35 hw, wx_s92_35 hw, wx_N115 hw, wx_a115 hw, wx_g92_38 hw, wx_s92_38 hw, wx_N116 hw, wx_a116 hw, wx_g92_41 hw, wx_s92_41 hw, wx_N117 hw, wx_a117 hw, wx_g92_44 hw, wx_s92_44 hw, wx_N118 hw, wx_a118 hw, wx_g92_45 hw, wx_s92_45 hw, wx_N119 hw, wx_a119 hw, wx_g92_46 hw, wx_s92_46 hw, wx_N120 hw, wx_a120 hw, wx_g92_52 hw, wx_s92_52 hw, wx_N121 hw, wx_a121 hw, wx_g92_55 hw, wx_s92_55 hw, wx_N122 hw, wx_a122 hw, wx_g92_56 hw, wx_s92_56 hw, wx_N123 hw, wx_a123 hw, wx_g92_57 hw, wx_s92_57 hw, wx_N124 hw, wx_a124 hw, wx_g92_58 hw, wx_s92_58 hw, wx_N125 hw, wx_a125 hw, wx_g92_64 hw, wx_s92_64 hw, wx_N126 hw, wx_a126 hw, wx_g92_65 hw, wx_s92_65 hw, wx_N127 hw, wx_a127 hw, wx_g92_66 hw, wx_s92_66 hw, wx_N128 hw, wx_a128 hw, wx_g92_67 hw, wx_s92_67 hw, wx_N129 hw, wx_a129 hw, wx_g92_68 hw, wx_s92_68 hw, wx_N130 hw, wx_a130 hw, wx_g92_69 hw, wx_s92_69 hw, wx_N131 hw, wx_a131 hw, wx_g92_70 hw, wx_s92_70 hw, wx_N132 hw, wx_a132 hw, wx_g92_71 hw, wx_s92_71 hw, wx_N133 hw, wx_a133 hw, wx_g92_72 hw, wx_s92_72 hw, wx_N134 hw, wx_a134 hw, wx_g92_73 hw, wx_s92_73 hw, wx_N135 hw, wx_a135 hw, wx_g92_75 hw, wx_s92_75 hw, wx_N136 hw, wx_a136 hw, List.not_mem_nil, false_implies, implies_true, nI_clamp, nI_add, Nat.reducePow, hp_bd, hp_bdi, hp_ts, hp_tn, hp_tsc, hp_tnc, Nat.reduceAdd, Nat.reduceSub, Nat.reduceMul, Nat.reduceLT, Nat.reduceLeDiff, Nat.reduceEqDiff, reduceIte, not_true_eq_false, not_false_eq_true, and_true, true_and, and_self, and_false, false_and, or_true, true_or, or_false, false_or, decide_true, decide_false, Bool.and_true, Bool.true_and, Bool.not_false, Bool.or_false, Bool.false_or, Bool.or_true, Bool.true_or, i01, k]
  have k := m194s (d := d) (S := S) ht (a := 92)
  have cl : (nI t).toNatClampNeg = t := nI_clamp (by omega)
  have hbi : mm_inb (nI t) 6 = true := hp_inb (by omega) (by omega)
  obtain ⟨p1, p2, p3⟩ := hp t ht
  have sz := tsz ok ht
  by_cases hs : (gb_p G t).1 = -1
  · have e0 : ab_kw (gb_p G t).2.1 i = none := by
      rw [tso ok ht hs]
      rcases kw_e (n := 0) (by decide) i with h | ⟨b, hb, -⟩
      · exact h
      · exact absurd hb (Nat.not_lt_zero b)
    have eo : an_33 G (nI t) i = -9223372036854775808 := by unfold an_33; simp only [e, e0]
    simp only [eo, b210_0, b210_5, b210_8, b210_18, b210_31, b210_34, b210_48, e210, wx_o92 hw, wx_k92 hw, wx_q92 hw, wx_g92_1 hw, wx_s92_1 hw, wx_N93 hw, wx_a93 hw, wx_g92_2 hw, wx_s92_2 hw, wx_N94 hw, wx_a94 hw, wx_g92_3 hw, wx_s92_3 hw, wx_N95 hw, wx_a95 hw, wx_g92_4 hw, wx_s92_4 hw, wx_N96 hw, wx_a96 hw, wx_g92_5 hw, wx_s92_5 hw, wx_N97 hw, wx_a97 hw, wx_g92_6 hw, wx_s92_6 hw, wx_N98 hw, wx_a98 hw, wx_g92_7 hw, wx_s92_7 hw, wx_N99 hw, wx_a99 hw, wx_g92_9 hw, wx_s92_9 hw, wx_N100 hw, wx_a100 hw, wx_g92_16 hw, wx_s92_16 hw, wx_N101 hw, wx_a101 hw, wx_g92_19 hw, wx_s92_19 hw, wx_N102 hw, wx_a102 hw, wx_g92_20 hw, wx_s92_20 hw, wx_N103 hw, wx_a103 hw, wx_g92_21 hw, wx_s92_21 hw, wx_N104 hw, wx_a104 hw, wx_g92_22 hw, wx_s92_22 hw, wx_N105 hw, wx_a105 hw, wx_g92_23 hw, wx_s92_23 hw, wx_N106 hw, wx_a106 hw, wx_g92_24 hw, wx_s92_24 hw, wx_N107 hw, wx_a107 hw, wx_g92_25 hw, wx_s92_25 hw, wx_N108 hw, wx_a108 hw, wx_g92_29 hw, wx_s92_29 hw, wx_N109 hw, wx_a109 hw, wx_g92_30 hw, wx_s92_30 hw, wx_N110 hw, wx_a110 hw, wx_g92_31 hw, wx_s92_31 hw, wx_N111 hw, wx_a111 hw, wx_g92_32 hw, wx_s92_32 hw, wx_N112 hw, wx_a112 hw, wx_g92_33 hw, wx_s92_33 hw, wx_N113 hw, wx_a113 hw, wx_g92_34 hw, wx_s92_34 hw, wx_N114 hw, wx_a114 hw, wx_g92_35 hw, wx_s92_35 hw, wx_N115 hw, wx_a115 hw, wx_g92_38 hw, wx_s92_38 hw, wx_N116 hw, wx_a116 hw, wx_g92_41 hw, wx_s92_41 hw, wx_N117 hw, wx_a117 hw, wx_g92_44 hw, wx_s92_44 hw, wx_N118 hw, wx_a118 hw, wx_g92_45 hw, wx_s92_45 hw, wx_N119 hw, wx_a119 hw, wx_g92_46 hw, wx_s92_46 hw, wx_N120 hw, wx_a120 hw, wx_g92_52 hw, wx_s92_52 hw, wx_N121 hw, wx_a121 hw, wx_g92_55 hw, wx_s92_55 hw, wx_N122 hw, wx_a122 hw, wx_g92_56 hw, wx_s92_56 hw, wx_N123 hw, wx_a123 hw, wx_g92_57 hw, wx_s92_57 hw, wx_N124 hw, wx_a124 hw, wx_g92_58 hw, wx_s92_58 hw, wx_N125 hw, wx_a125 hw, wx_g92_64 hw, wx_s92_64 hw, wx_N126 hw, wx_a126 hw, wx_g92_65 hw, wx_s92_65 hw, wx_N127 hw, wx_a127 hw, wx_g92_66 hw, wx_s92_66 hw, wx_N128 hw, wx_a128 hw, wx_g92_67 hw, wx_s92_67 hw, wx_N129 hw, wx_a129 hw, wx_g92_68 hw, wx_s92_68 hw, wx_N130 hw, wx_a130 hw, wx_g92_69 hw, wx_s92_69 hw, wx_N131 hw, wx_a131 hw, wx_g92_70 hw, wx_s92_70 hw, wx_N132 hw, wx_a132 hw, wx_g92_71 hw, wx_s92_71 hw, wx_N133 hw, wx_a133 hw, wx_g92_72 hw, wx_s92_72 hw, wx_N134 hw, wx_a134 hw, wx_g92_73 hw, wx_s92_73 hw, wx_N135 hw, wx_a135 hw, wx_g92_75 hw, wx_s92_75 hw, wx_N136 hw, wx_a136 hw, List.not_mem_nil, false_implies, implies_true, nI_clamp, nI_add, Nat.reducePow, hp_bd, hp_bdi, hp_ts, hp_tn, hp_tsc, hp_tnc, Nat.reduceAdd, Nat.reduceSub, Nat.reduceMul, Nat.reduceLT, Nat.reduceLeDiff, Nat.reduceEqDiff, reduceIte, not_true_eq_false, not_false_eq_true, and_true, true_and, and_self, and_false, false_and, or_true, true_or, or_false, false_or, decide_true, decide_false, Bool.and_true, Bool.true_and, Bool.not_false, Bool.or_false, Bool.false_or, Bool.or_true, Bool.true_or, i01, k, cl, hbi, p1, hs]
  replace p2 := p2 hs
  rcases kw_e sz i with ei | ⟨i, hi, ei, rfl⟩
  · have k62 := m62n (d := d + 1) (S := S) sz ei
    have eo : an_33 G (nI t) i = -9223372036854775808 := by unfold an_33; simp only [e, ei]
    simp only [eo, b210_0, b210_5, b210_8, b210_18, b210_31, b210_34, b210_48, e210, wx_o92 hw, wx_k92 hw, wx_q92 hw, wx_g92_1 hw, wx_s92_1 hw, wx_N93 hw, wx_a93 hw, wx_g92_2 hw, wx_s92_2 hw, wx_N94 hw, wx_a94 hw, wx_g92_3 hw, wx_s92_3 hw, wx_N95 hw, wx_a95 hw, wx_g92_4 hw, wx_s92_4 hw, wx_N96 hw, wx_a96 hw, wx_g92_5 hw, wx_s92_5 hw, wx_N97 hw, wx_a97 hw, wx_g92_6 hw, wx_s92_6 hw, wx_N98 hw, wx_a98 hw, wx_g92_7 hw, wx_s92_7 hw, wx_N99 hw, wx_a99 hw, wx_g92_9 hw, wx_s92_9 hw, wx_N100 hw, wx_a100 hw, wx_g92_16 hw, wx_s92_16 hw, wx_N101 hw, wx_a101 hw, wx_g92_19 hw, wx_s92_19 hw, wx_N102 hw, wx_a102 hw, wx_g92_20 hw, wx_s92_20 hw, wx_N103 hw, wx_a103 hw, wx_g92_21 hw, wx_s92_21 hw, wx_N104 hw, wx_a104 hw, wx_g92_22 hw, wx_s92_22 hw, wx_N105 hw, wx_a105 hw, wx_g92_23 hw, wx_s92_23 hw, wx_N106 hw, wx_a106 hw, wx_g92_24 hw, wx_s92_24 hw, wx_N107 hw, wx_a107 hw, wx_g92_25 hw, wx_s92_25 hw, wx_N108 hw, wx_a108 hw, wx_g92_29 hw, wx_s92_29 hw, wx_N109 hw, wx_a109 hw, wx_g92_30 hw, wx_s92_30 hw, wx_N110 hw, wx_a110 hw, wx_g92_31 hw, wx_s92_31 hw, wx_N111 hw, wx_a111 hw, wx_g92_32 hw, wx_s92_32 hw, wx_N112 hw, wx_a112 hw, wx_g92_33 hw, wx_s92_33 hw, wx_N113 hw, wx_a113 hw, wx_g92_34 hw, wx_s92_34 hw, wx_N114 hw, wx_a114 hw, wx_g92_35 hw, wx_s92_35 hw, wx_N115 hw, wx_a115 hw, wx_g92_38 hw, wx_s92_38 hw, wx_N116 hw, wx_a116 hw, wx_g92_41 hw, wx_s92_41 hw, wx_N117 hw, wx_a117 hw, wx_g92_44 hw, wx_s92_44 hw, wx_N118 hw, wx_a118 hw, wx_g92_45 hw, wx_s92_45 hw, wx_N119 hw, wx_a119 hw, wx_g92_46 hw, wx_s92_46 hw, wx_N120 hw, wx_a120 hw, wx_g92_52 hw, wx_s92_52 hw, wx_N121 hw, wx_a121 hw, wx_g92_55 hw, wx_s92_55 hw, wx_N122 hw, wx_a122 hw, wx_g92_56 hw, wx_s92_56 hw, wx_N123 hw, wx_a123 hw, wx_g92_57 hw, wx_s92_57 hw, wx_N124 hw, wx_a124 hw, wx_g92_58 hw, wx_s92_58 hw, wx_N125 hw, wx_a125 hw, wx_g92_64 hw, wx_s92_64 hw, wx_N126 hw, wx_a126 hw, wx_g92_65 hw, wx_s92_65 hw, wx_N127 hw, wx_a127 hw, wx_g92_66 hw, wx_s92_66 hw, wx_N128 hw, wx_a128 hw, wx_g92_67 hw, wx_s92_67 hw, wx_N129 hw, wx_a129 hw, wx_g92_68 hw, wx_s92_68 hw, wx_N130 hw, wx_a130 hw, wx_g92_69 hw, wx_s92_69 hw, wx_N131 hw, wx_a131 hw, wx_g92_70 hw, wx_s92_70 hw, wx_N132 hw, wx_a132 hw, wx_g92_71 hw, wx_s92_71 hw, wx_N133 hw, wx_a133 hw, wx_g92_72 hw, wx_s92_72 hw, wx_N134 hw, wx_a134 hw, wx_g92_73 hw, wx_s92_73 hw, wx_N135 hw, wx_a135 hw, wx_g92_75 hw, wx_s92_75 hw, wx_N136 hw, wx_a136 hw, List.not_mem_nil, false_implies, implies_true, nI_clamp, nI_add, Nat.reducePow, hp_bd, hp_bdi, hp_ts, hp_tn, hp_tsc, hp_tnc, Nat.reduceAdd, Nat.reduceSub, Nat.reduceMul, Nat.reduceLT, Nat.reduceLeDiff, Nat.reduceEqDiff, reduceIte, not_true_eq_false, not_false_eq_true, and_true, true_and, and_self, and_false, false_and, or_true, true_or, or_false, false_or, decide_true, decide_false, Bool.and_true, Bool.true_and, Bool.not_false, Bool.or_false, Bool.false_or, Bool.or_true, Bool.true_or, i01, k, cl, hbi, p1, hs, p2, k62]
  · have k62 := m62s (d := d + 1) (S := S) sz hi
    have ci : (nI (60 * t + i)).toNatClampNeg = 60 * t + i := nI_clamp (by omega)
    have ii : mm_inb (nI (60 * t + i)) 360 = true := hp_inb (by omega) (by omega)
    have eo : an_33 G (nI t) (nI i) = (gb_p G t).2.2 i := by unfold an_33; simp only [e, ei]
    have g := p3 i hi
    simp only [eo, b210_0, b210_5, b210_8, b210_18, b210_31, b210_34, b210_48, e210, wx_o92 hw, wx_k92 hw, wx_q92 hw, wx_g92_1 hw, wx_s92_1 hw, wx_N93 hw, wx_a93 hw, wx_g92_2 hw, wx_s92_2 hw, wx_N94 hw, wx_a94 hw, wx_g92_3 hw, wx_s92_3 hw, wx_N95 hw, wx_a95 hw, wx_g92_4 hw, wx_s92_4 hw, wx_N96 hw, wx_a96 hw, wx_g92_5 hw, wx_s92_5 hw, wx_N97 hw, wx_a97 hw, wx_g92_6 hw, wx_s92_6 hw, wx_N98 hw, wx_a98 hw, wx_g92_7 hw, wx_s92_7 hw, wx_N99 hw, wx_a99 hw, wx_g92_9 hw, wx_s92_9 hw, wx_N100 hw, wx_a100 hw, wx_g92_16 hw, wx_s92_16 hw, wx_N101 hw, wx_a101 hw, wx_g92_19 hw, wx_s92_19 hw, wx_N102 hw, wx_a102 hw, wx_g92_20 hw, wx_s92_20 hw, wx_N103 hw, wx_a103 hw, wx_g92_21 hw, wx_s92_21 hw, wx_N104 hw, wx_a104 hw, wx_g92_22 hw, wx_s92_22 hw, wx_N105 hw, wx_a105 hw, wx_g92_23 hw, wx_s92_23 hw, wx_N106 hw, wx_a106 hw, wx_g92_24 hw, wx_s92_24 hw, wx_N107 hw, wx_a107 hw, wx_g92_25 hw, wx_s92_25 hw, wx_N108 hw, wx_a108 hw, wx_g92_29 hw, wx_s92_29 hw, wx_N109 hw, wx_a109 hw, wx_g92_30 hw, wx_s92_30 hw, wx_N110 hw, wx_a110 hw, wx_g92_31 hw, wx_s92_31 hw, wx_N111 hw, wx_a111 hw, wx_g92_32 hw, wx_s92_32 hw, wx_N112 hw, wx_a112 hw, wx_g92_33 hw, wx_s92_33 hw, wx_N113 hw, wx_a113 hw, wx_g92_34 hw, wx_s92_34 hw, wx_N114 hw, wx_a114 hw, wx_g92_35 hw, wx_s92_35 hw, wx_N115 hw, wx_a115 hw, wx_g92_38 hw, wx_s92_38 hw, wx_N116 hw, wx_a116 hw, wx_g92_41 hw, wx_s92_41 hw, wx_N117 hw, wx_a117 hw, wx_g92_44 hw, wx_s92_44 hw, wx_N118 hw, wx_a118 hw, wx_g92_45 hw, wx_s92_45 hw, wx_N119 hw, wx_a119 hw, wx_g92_46 hw, wx_s92_46 hw, wx_N120 hw, wx_a120 hw, wx_g92_52 hw, wx_s92_52 hw, wx_N121 hw, wx_a121 hw, wx_g92_55 hw, wx_s92_55 hw, wx_N122 hw, wx_a122 hw, wx_g92_56 hw, wx_s92_56 hw, wx_N123 hw, wx_a123 hw, wx_g92_57 hw, wx_s92_57 hw, wx_N124 hw, wx_a124 hw, wx_g92_58 hw, wx_s92_58 hw, wx_N125 hw, wx_a125 hw, wx_g92_64 hw, wx_s92_64 hw, wx_N126 hw, wx_a126 hw, wx_g92_65 hw, wx_s92_65 hw, wx_N127 hw, wx_a127 hw, wx_g92_66 hw, wx_s92_66 hw, wx_N128 hw, wx_a128 hw, wx_g92_67 hw, wx_s92_67 hw, wx_N129 hw, wx_a129 hw, wx_g92_68 hw, wx_s92_68 hw, wx_N130 hw, wx_a130 hw, wx_g92_69 hw, wx_s92_69 hw, wx_N131 hw, wx_a131 hw, wx_g92_70 hw, wx_s92_70 hw, wx_N132 hw, wx_a132 hw, wx_g92_71 hw, wx_s92_71 hw, wx_N133 hw, wx_a133 hw, wx_g92_72 hw, wx_s92_72 hw, wx_N134 hw, wx_a134 hw, wx_g92_73 hw, wx_s92_73 hw, wx_N135 hw, wx_a135 hw, wx_g92_75 hw, wx_s92_75 hw, wx_N136 hw, wx_a136 hw, List.not_mem_nil, false_implies, implies_true, nI_clamp, nI_add, Nat.reducePow, hp_bd, hp_bdi, hp_ts, hp_tn, hp_tsc, hp_tnc, Nat.reduceAdd, Nat.reduceSub, Nat.reduceMul, Nat.reduceLT, Nat.reduceLeDiff, Nat.reduceEqDiff, reduceIte, not_true_eq_false, not_false_eq_true, and_true, true_and, and_self, and_false, false_and, or_true, true_or, or_false, false_or, decide_true, decide_false, Bool.and_true, Bool.true_and, Bool.not_false, Bool.or_false, Bool.false_or, Bool.or_true, Bool.true_or, i01, k, cl, hbi, p1, hs, p2, k62, nI_mul, ci, ii, g]
def mh_1 (S : mm_S) (a q : Nat) : mm_S := mm_wL S (fun c j => if c = 136 ∧ j < q then mm_L S 112 (a + j) else mm_L S c j)
def mh_2 (S : mm_S) (b q : Nat) : mm_S := mm_wL S (fun c j => if c = 112 ∧ b ≤ j ∧ j < b + q then mm_L S 136 (j - b) else mm_L S c j)
theorem mh1_L {a q c j : Nat} : mm_L (mh_1 S a q) c j = if c = 136 ∧ j < q then mm_L S 112 (a + j) else mm_L S c j := id rfl
theorem mh2_L {a q c j : Nat} : mm_L (mh_2 S a q) c j = if c = 112 ∧ a ≤ j ∧ j < a + q then mm_L S 136 (j - a) else mm_L S c j := id rfl
theorem l211a (hw : mm_W S) {t a u b n : Nat} (ha : 60 * t + a + n ≤ 360) (hn : n ≤ 60) : ∀ k q : Nat, q + k = n → mm_ex d 211 127 [.ref 92, .int (nI t), .int (nI a), .int (nI u), .int (nI b), .int (nI n), .int (nI q)] [] (mh_1 S (60 * t + a) q) = mm_ex d 211 161 [.ref 92, .int (nI t), .int (nI a), .int (nI u), .int (nI b), .int (nI n), .int (nI n)] [] (mh_1 S (60 * t + a) n) := by
  intro k
  induction k with
  | zero =>
    intro q hq
    have e : q = n := by omega
    subst e
    rw [b211_127, if_pos (nI_le (Nat.le_refl _) (by omega))]
  | succ k ih =>
    intro q hq
    have hw' : mm_W (mh_1 S (60 * t + a) q) := hw
    have e1 : mm_L (mh_1 S (60 * t + a) q) 112 (60 * t + a + q) = mm_L S 112 (60 * t + a + q) := by rw [mh1_L, if_neg (fun e => by omega)]
    rw [b211_127, if_neg (nI_ge (by omega) (by omega)), b211_134 (wx_o92 hw') (wx_s92_75 hw') (wx_s92_32 hw') (by rw [nI_mul, nI_add, nI_add, wx_g92_32 hw', wx_N112 hw']; exact hp_inb (by omega) (by omega)) (by rw [wx_g92_32 hw']; exact wx_a112 hw') (by rw [wx_g92_75 hw']; exact wx_a136 hw') (by rw [wx_g92_75 hw', wx_N136 hw']; exact hp_inb (by omega) (by omega)), nI_mul, nI_add (60 * t), nI_add (60 * t + a), nI_add q, wx_g92_32 hw', wx_g92_75 hw', nI_clamp (by omega), nI_clamp (by omega), e1, ← ih (q + 1) (by omega)]
    congr 1
    refine st_ext (fun _ _ => rfl) (fun c j => ?_) (fun _ _ => rfl) (fun _ => rfl) (fun _ => rfl) rfl rfl
    rw [hp_LuL, mh1_L, mh1_L]
    by_cases h : c = 136
    · by_cases h2 : j = q
      · rw [if_pos ⟨h, h2⟩, if_pos ⟨h, by omega⟩, h2]
      · rw [if_neg (fun e => h2 e.2)]
        by_cases h3 : j < q
        · rw [if_pos ⟨h, h3⟩, if_pos ⟨h, by omega⟩]
        · rw [if_neg (fun e => h3 e.2), if_neg (fun e => by omega)]
    · rw [if_neg (fun e => h e.1), if_neg (fun e => h e.1), if_neg (fun e => h e.1)]
theorem l211b (hw : mm_W S) {t a u b n : Nat} (hb : 60 * u + b + n ≤ 360) (hn : n ≤ 60) : ∀ k q : Nat, q + k = n → mm_ex d 211 164 [.ref 92, .int (nI t), .int (nI a), .int (nI u), .int (nI b), .int (nI n), .int (nI q)] [] (mh_2 S (60 * u + b) q) = some (some (.int (nI n)), mh_2 S (60 * u + b) n) := by
  intro k
  induction k with
  | zero =>
    intro q hq
    have e : q = n := by omega
    subst e
    rw [b211_164, if_pos (nI_le (Nat.le_refl _) (by omega)), b211_199]
  | succ k ih =>
    intro q hq
    have hw' : mm_W (mh_2 S (60 * u + b) q) := hw
    have e1 : mm_L (mh_2 S (60 * u + b) q) 136 q = mm_L S 136 q := by rw [mh2_L, if_neg (fun e => by omega)]
    rw [b211_164, if_neg (nI_ge (by omega) (by omega)), b211_171 (wx_o92 hw') (wx_s92_32 hw') (wx_s92_75 hw') (by rw [wx_g92_75 hw', wx_N136 hw']; exact hp_inb (by omega) (by omega)) (by rw [wx_g92_75 hw']; exact wx_a136 hw') (by rw [wx_g92_32 hw']; exact wx_a112 hw') (by rw [nI_mul, nI_add, nI_add, wx_g92_32 hw', wx_N112 hw']; exact hp_inb (by omega) (by omega)), nI_mul, nI_add (60 * u), nI_add (60 * u + b), nI_add q, wx_g92_32 hw', wx_g92_75 hw', nI_clamp (by omega), nI_clamp (by omega), e1, ← ih (q + 1) (by omega)]
    congr 1
    refine st_ext (fun _ _ => rfl) (fun c j => ?_) (fun _ _ => rfl) (fun _ => rfl) (fun _ => rfl) rfl rfl
    rw [hp_LuL, mh2_L, mh2_L]
    by_cases h : c = 112
    · by_cases h2 : j = 60 * u + b + q
      · rw [if_pos ⟨h, h2⟩, if_pos ⟨h, by omega⟩, h2, Nat.add_sub_cancel_left]
      · rw [if_neg (fun e => h2 e.2)]
        by_cases h3 : 60 * u + b ≤ j ∧ j < 60 * u + b + q
        · rw [if_pos ⟨h, h3⟩, if_pos ⟨h, by omega⟩]
        · rw [if_neg (fun e => h3 e.2), if_neg (fun e => by omega)]
    · rw [if_neg (fun e => h e.1), if_neg (fun e => h e.1), if_neg (fun e => h e.1)]
theorem kw61 {n : Nat} (h : n < 2 ^ 31) : ab_kw 61 (nI n) = if n < 61 then some n else none := by
  unfold ab_kw
  by_cases h2 : n < 61
  · rw [if_pos h2, if_neg (fun e => e.elim (nI_n0 h) (nI_ge h2 (by decide))), nI_clamp h]
  · rw [if_neg h2, if_pos (Or.inr (nI_le (by omega) h))]
theorem op34 (ok : gb_ok G) {t u n i j : Nat} (ht : t < 6) (hu : u < 6) (hs : ¬ (gb_p G t).1 = -1) (hs2 : ¬ (gb_p G u).1 = -1) (hne : (gb_p G t).1 = (gb_p G u).1) (hn : n < 2 ^ 31) (hi : i < 2 ^ 31) (hj : j < 2 ^ 31) : op_34 G (nI t) (nI i) (nI u) (nI j) (nI n) = if i + n ≤ (gb_p G t).2.1 ∧ j + n ≤ (gb_p G u).2.1 then (nI n, gS_p G (ab_up1 (gb_p G) u ((gb_p G u).1, (gb_p G u).2.1, va_cpy (gb_p G t).2.2 (gb_p G u).2.2 i j n))) else (-13, G) := by
  have e := kw_b (n := 6) (by decide) ht
  have eu := kw_b (n := 6) (by decide) hu
  have sz := tsz ok ht
  have su := tsz ok hu
  unfold op_34
  simp only [e, eu]
  rw [if_neg (fun q => q.elim hs hs2), if_neg (fun q => q hne), kw61 hn, kw61 hi, kw61 hj]
  by_cases h1 : n < 61
  · rw [if_pos h1]
    by_cases h2 : i < 61
    · rw [if_pos h2]
      by_cases h3 : j < 61
      · rw [if_pos h3]
      · have key : ¬ (i + n ≤ (gb_p G t).2.1 ∧ j + n ≤ (gb_p G u).2.1) := fun q => by omega
        rw [if_neg h3, if_neg key]
    · have key : ¬ (i + n ≤ (gb_p G t).2.1 ∧ j + n ≤ (gb_p G u).2.1) := fun q => by omega
      rw [if_neg h2, if_neg key]
  · have key : ¬ (i + n ≤ (gb_p G t).2.1 ∧ j + n ≤ (gb_p G u).2.1) := fun q => by omega
    rw [if_neg h1, if_neg key]
theorem op34n {t u : Nat} (ht : t < 6) (hu : u < 6) (hs : ¬ (gb_p G t).1 = -1) (hs2 : ¬ (gb_p G u).1 = -1) (hne : (gb_p G t).1 = (gb_p G u).1) (hx : y < nI 0 ∨ i < nI 0 ∨ j < nI 0) : op_34 G (nI t) i (nI u) j y = (-13, G) := by
  have e := kw_b (n := 6) (by decide) ht
  have eu := kw_b (n := 6) (by decide) hu
  have kn : ∀ x : Int32, x < nI 0 → ab_kw 61 x = none := fun x h => if_pos (Or.inl h)
  unfold op_34
  simp only [e, eu]
  rw [if_neg (fun q => q.elim hs hs2), if_neg (fun q => q hne)]
  rcases hx with h | h | h
  · rw [kn _ h]
  · rw [kn _ h]; cases ab_kw 61 y <;> rfl
  · rw [kn _ h]; cases ab_kw 61 y <;> cases ab_kw 61 i <;> rfl
theorem m_34 (ok : gb_ok G) (hR : RM S G) : oM S (d + 2) 211 [.ref 92, .int t, .int i, .int o, .int j, .int y] (.int (op_34 G t i o j y).1) (op_34 G t i o j y).2 := by
  have hw := hR.1
  have hp := hR.2.2.2.2.2.1
  rcases kw_c (n := 6) (by decide) t with ⟨e, h⟩ | ⟨t, ht, e, rfl⟩
  · have k := m194n (d := d) (S := S) e (a := 92)
    have eo : op_34 G t i o j y = (-1, G) := by unfold op_34; simp only [e]
    rw [eo]
    refine oM_id hR ?_
    simp only [b211_0, b211_5, b211_8, b211_13, b211_16, b211_18, b211_28, b211_38, b211_41, b211_56, b211_59, b211_64, b211_68, b211_73, b211_83, b211_94, b211_107, b211_121, b211_124, b211_161, b211_199, e211, wx_o92 hw, wx_k92 hw, wx_q92 hw, wx_g92_1 hw, wx_s92_1 hw, wx_N93 hw, wx_a93 hw, wx_g92_2 hw, wx_s92_2 hw, wx_N94 hw, wx_a94 hw, wx_g92_3 hw, wx_s92_3 hw, wx_N95 hw, wx_a95 hw, wx_g92_4 hw, wx_s92_4 hw, wx_N96 hw, wx_a96 hw, wx_g92_5 hw, wx_s92_5 hw, wx_N97 hw, wx_a97 hw, wx_g92_6 hw, wx_s92_6 hw, wx_N98 hw, wx_a98 hw, wx_g92_7 hw, wx_s92_7 hw, wx_N99 hw, wx_a99 hw, wx_g92_9 hw, wx_s92_9 hw, wx_N100 hw, wx_a100 hw, wx_g92_16 hw, wx_s92_16 hw, wx_N101 hw, wx_a101 hw, wx_g92_19 hw, wx_s92_19 hw, wx_N102 hw, wx_a102 hw, wx_g92_20 hw, wx_s92_20 hw, wx_N103 hw, wx_a103 hw, wx_g92_21 hw, wx_s92_21 hw, wx_N104 hw, wx_a104 hw, wx_g92_22 hw, wx_s92_22 hw, wx_N105 hw, wx_a105 hw, wx_g92_23 hw, wx_s92_23 hw, wx_N106 hw, wx_a106 hw, wx_g92_24 hw, wx_s92_24 hw, wx_N107 hw, wx_a107 hw, wx_g92_25 hw, wx_s92_25 hw, wx_N108 hw, wx_a108 hw, wx_g92_29 hw, wx_s92_29 hw, wx_N109 hw, wx_a109 hw, wx_g92_30 hw, wx_s92_30 hw, wx_N110 hw, wx_a110 hw, wx_g92_31 hw, wx_s92_31 hw, wx_N111 hw, wx_a111 hw, wx_g92_32 hw, wx_s92_32 hw, wx_N112 hw, wx_a112 hw, wx_g92_33 hw, wx_s92_33 hw, wx_N113 hw, wx_a113 hw, wx_g92_34 hw, wx_s92_34 hw, wx_N114 hw, wx_a114 hw, wx_g92_35 hw, wx_s92_35 hw, wx_N115 hw, wx_a115 hw, wx_g92_38 hw, wx_s92_38 hw, wx_N116 hw, wx_a116 hw, wx_g92_41 hw, wx_s92_41 hw, wx_N117 hw, wx_a117 hw, wx_g92_44 hw, wx_s92_44 hw, wx_N118 hw, wx_a118 hw, wx_g92_45 hw, wx_s92_45 hw, wx_N119 hw, wx_a119 hw, wx_g92_46 hw, wx_s92_46 hw, wx_N120 hw, wx_a120 hw, wx_g92_52 hw, wx_s92_52 hw, wx_N121 hw, wx_a121 hw, wx_g92_55 hw, wx_s92_55 hw, wx_N122 hw, wx_a122 hw, wx_g92_56 hw, wx_s92_56 hw, wx_N123 hw, wx_a123 hw, wx_g92_57 hw, wx_s92_57 hw, wx_N124 hw, wx_a124 hw, wx_g92_58 hw, wx_s92_58 hw, wx_N125 hw, wx_a125 hw, wx_g92_64 hw, wx_s92_64 hw, wx_N126 hw, wx_a126 hw, wx_g92_65 hw, wx_s92_65 hw, wx_N127 hw, wx_a127 hw, wx_g92_66 hw, wx_s92_66 hw, wx_N128 hw, wx_a128 hw, wx_g92_67 hw, wx_s92_67 hw, wx_N129 hw, wx_a129 hw, wx_g92_68 hw, wx_s92_68 hw, wx_N130 hw, wx_a130 hw, wx_g92_69 hw, wx_s92_69 hw, wx_N131 hw, wx_a131 hw, wx_g92_70 hw, wx_s92_70 hw, wx_N132 hw, wx_a132 hw, wx_g92_71 hw, wx_s92_71 hw, wx_N133 hw, wx_a133 hw, wx_g92_72 hw, wx_s92_72 hw, wx_N134 hw, wx_a134 hw, wx_g92_73 hw, wx_s92_73 hw, wx_N135 hw, wx_a135 hw, wx_g92_75 hw, wx_s92_75 hw, wx_N136 hw, wx_a136 hw, List.not_mem_nil, false_implies, implies_true, nI_clamp, nI_add, Nat.reducePow, hp_bd, hp_bdi, hp_ts, hp_tn, hp_tsc, hp_tnc, Nat.reduceAdd, Nat.reduceSub, Nat.reduceMul, Nat.reduceLT, Nat.reduceLeDiff, Nat.reduceEqDiff, reduceIte, not_true_eq_false, not_false_eq_true, and_true, true_and, and_self, and_false, false_and, or_true, true_or, or_false, false_or, decide_true, decide_false, Bool.and_true, Bool.true_and, Bool.not_false, Bool.or_false, Bool.false_or, Bool.or_true, Bool.true_or, i01, k]
  have k := m194s (d := d) (S := S) ht (a := 92)
  rcases kw_c (n := 6) (by decide) o with ⟨eu, h⟩ | ⟨u, hu, eu, rfl⟩
  · have k2 := m194n (d := d) (S := S) eu (a := 92)
    have eo : op_34 G (nI t) i o j y = (-1, G) := by unfold op_34; simp only [e, eu]
    rw [eo]
    refine oM_id hR ?_
    simp only [b211_0, b211_5, b211_8, b211_13, b211_16, b211_18, b211_28, b211_38, b211_41, b211_56, b211_59, b211_64, b211_68, b211_73, b211_83, b211_94, b211_107, b211_121, b211_124, b211_161, b211_199, e211, wx_o92 hw, wx_k92 hw, wx_q92 hw, wx_g92_1 hw, wx_s92_1 hw, wx_N93 hw, wx_a93 hw, wx_g92_2 hw, wx_s92_2 hw, wx_N94 hw, wx_a94 hw, wx_g92_3 hw, wx_s92_3 hw, wx_N95 hw, wx_a95 hw, wx_g92_4 hw, wx_s92_4 hw, wx_N96 hw, wx_a96 hw, wx_g92_5 hw, wx_s92_5 hw, wx_N97 hw, wx_a97 hw, wx_g92_6 hw, wx_s92_6 hw, wx_N98 hw, wx_a98 hw, wx_g92_7 hw, wx_s92_7 hw, wx_N99 hw, wx_a99 hw, wx_g92_9 hw, wx_s92_9 hw, wx_N100 hw, wx_a100 hw, wx_g92_16 hw, wx_s92_16 hw, wx_N101 hw, wx_a101 hw, wx_g92_19 hw, wx_s92_19 hw, wx_N102 hw, wx_a102 hw, wx_g92_20 hw, wx_s92_20 hw, wx_N103 hw, wx_a103 hw, wx_g92_21 hw, wx_s92_21 hw, wx_N104 hw, wx_a104 hw, wx_g92_22 hw, wx_s92_22 hw, wx_N105 hw, wx_a105 hw, wx_g92_23 hw, wx_s92_23 hw, wx_N106 hw, wx_a106 hw, wx_g92_24 hw, wx_s92_24 hw, wx_N107 hw, wx_a107 hw, wx_g92_25 hw, wx_s92_25 hw, wx_N108 hw, wx_a108 hw, wx_g92_29 hw, wx_s92_29 hw, wx_N109 hw, wx_a109 hw, wx_g92_30 hw, wx_s92_30 hw, wx_N110 hw, wx_a110 hw, wx_g92_31 hw, wx_s92_31 hw, wx_N111 hw, wx_a111 hw, wx_g92_32 hw, wx_s92_32 hw, wx_N112 hw, wx_a112 hw, wx_g92_33 hw, wx_s92_33 hw, wx_N113 hw, wx_a113 hw, wx_g92_34 hw, wx_s92_34 hw, wx_N114 hw, wx_a114 hw, wx_g92_35 hw, wx_s92_35 hw, wx_N115 hw, wx_a115 hw, wx_g92_38 hw, wx_s92_38 hw, wx_N116 hw, wx_a116 hw, wx_g92_41 hw, wx_s92_41 hw, wx_N117 hw, wx_a117 hw, wx_g92_44 hw, wx_s92_44 hw, wx_N118 hw, wx_a118 hw, wx_g92_45 hw, wx_s92_45 hw, wx_N119 hw, wx_a119 hw, wx_g92_46 hw, wx_s92_46 hw, wx_N120 hw, wx_a120 hw, wx_g92_52 hw, wx_s92_52 hw, wx_N121 hw, wx_a121 hw, wx_g92_55 hw, wx_s92_55 hw, wx_N122 hw, wx_a122 hw, wx_g92_56 hw, wx_s92_56 hw, wx_N123 hw, wx_a123 hw, wx_g92_57 hw, wx_s92_57 hw, wx_N124 hw, wx_a124 hw, wx_g92_58 hw, wx_s92_58 hw, wx_N125 hw, wx_a125 hw, wx_g92_64 hw, wx_s92_64 hw, wx_N126 hw, wx_a126 hw, wx_g92_65 hw, wx_s92_65 hw, wx_N127 hw, wx_a127 hw, wx_g92_66 hw, wx_s92_66 hw, wx_N128 hw, wx_a128 hw, wx_g92_67 hw, wx_s92_67 hw, wx_N129 hw, wx_a129 hw, wx_g92_68 hw, wx_s92_68 hw, wx_N130 hw, wx_a130 hw, wx_g92_69 hw, wx_s92_69 hw, wx_N131 hw, wx_a131 hw, wx_g92_70 hw, wx_s92_70 hw, wx_N132 hw, wx_a132 hw, wx_g92_71 hw, wx_s92_71 hw, wx_N133 hw, wx_a133 hw, wx_g92_72 hw, wx_s92_72 hw, wx_N134 hw, wx_a134 hw, wx_g92_73 hw, wx_s92_73 hw, wx_N135 hw, wx_a135 hw, wx_g92_75 hw, wx_s92_75 hw, wx_N136 hw, wx_a136 hw, List.not_mem_nil, false_implies, implies_true, nI_clamp, nI_add, Nat.reducePow, hp_bd, hp_bdi, hp_ts, hp_tn, hp_tsc, hp_tnc, Nat.reduceAdd, Nat.reduceSub, Nat.reduceMul, Nat.reduceLT, Nat.reduceLeDiff, Nat.reduceEqDiff, reduceIte, not_true_eq_false, not_false_eq_true, and_true, true_and, and_self, and_false, false_and, or_true, true_or, or_false, false_or, decide_true, decide_false, Bool.and_true, Bool.true_and, Bool.not_false, Bool.or_false, Bool.false_or, Bool.or_true, Bool.true_or, i01, k, k2]
  have k2 := m194s (d := d) (S := S) hu (a := 92)
  have cl : (nI t).toNatClampNeg = t := nI_clamp (by omega)
  have hbi : mm_inb (nI t) 6 = true := hp_inb (by omega) (by omega)
  have cu : (nI u).toNatClampNeg = u := nI_clamp (by omega)
  have hui : mm_inb (nI u) 6 = true := hp_inb (by omega) (by omega)
  obtain ⟨p1, p2, p3⟩ := hp t ht
  obtain ⟨u1, u2, u3⟩ := hp u hu
  have sz := tsz ok ht
  have su := tsz ok hu
  by_cases hs : (gb_p G t).1 = -1
  · have eo : op_34 G (nI t) i (nI u) j y = (-11, G) := by unfold op_34; simp only [e, eu, hs, true_or, if_true]
    rw [eo]
    refine oM_id hR ?_
    simp only [b211_0, b211_5, b211_8, b211_13, b211_16, b211_18, b211_28, b211_38, b211_41, b211_56, b211_59, b211_64, b211_68, b211_73, b211_83, b211_94, b211_107, b211_121, b211_124, b211_161, b211_199, e211, wx_o92 hw, wx_k92 hw, wx_q92 hw, wx_g92_1 hw, wx_s92_1 hw, wx_N93 hw, wx_a93 hw, wx_g92_2 hw, wx_s92_2 hw, wx_N94 hw, wx_a94 hw, wx_g92_3 hw, wx_s92_3 hw, wx_N95 hw, wx_a95 hw, wx_g92_4 hw, wx_s92_4 hw, wx_N96 hw, wx_a96 hw, wx_g92_5 hw, wx_s92_5 hw, wx_N97 hw, wx_a97 hw, wx_g92_6 hw, wx_s92_6 hw, wx_N98 hw, wx_a98 hw, wx_g92_7 hw, wx_s92_7 hw, wx_N99 hw, wx_a99 hw, wx_g92_9 hw, wx_s92_9 hw, wx_N100 hw, wx_a100 hw, wx_g92_16 hw, wx_s92_16 hw, wx_N101 hw, wx_a101 hw, wx_g92_19 hw, wx_s92_19 hw, wx_N102 hw, wx_a102 hw, wx_g92_20 hw, wx_s92_20 hw, wx_N103 hw, wx_a103 hw, wx_g92_21 hw, wx_s92_21 hw, wx_N104 hw, wx_a104 hw, wx_g92_22 hw, wx_s92_22 hw, wx_N105 hw, wx_a105 hw, wx_g92_23 hw, wx_s92_23 hw, wx_N106 hw, wx_a106 hw, wx_g92_24 hw, wx_s92_24 hw, wx_N107 hw, wx_a107 hw, wx_g92_25 hw, wx_s92_25 hw, wx_N108 hw, wx_a108 hw, wx_g92_29 hw, wx_s92_29 hw, wx_N109 hw, wx_a109 hw, wx_g92_30 hw, wx_s92_30 hw, wx_N110 hw, wx_a110 hw, wx_g92_31 hw, wx_s92_31 hw, wx_N111 hw, wx_a111 hw, wx_g92_32 hw, wx_s92_32 hw, wx_N112 hw, wx_a112 hw, wx_g92_33 hw, wx_s92_33 hw, wx_N113 hw, wx_a113 hw, wx_g92_34 hw, wx_s92_34 hw, wx_N114 hw, wx_a114 hw, wx_g92_35 hw, wx_s92_35 hw, wx_N115 hw, wx_a115 hw, wx_g92_38 hw, wx_s92_38 hw, wx_N116 hw, wx_a116 hw, wx_g92_41 hw, wx_s92_41 hw, wx_N117 hw, wx_a117 hw, wx_g92_44 hw, wx_s92_44 hw, wx_N118 hw, wx_a118 hw, wx_g92_45 hw, wx_s92_45 hw, wx_N119 hw, wx_a119 hw, wx_g92_46 hw, wx_s92_46 hw, wx_N120 hw, wx_a120 hw, wx_g92_52 hw, wx_s92_52 hw, wx_N121 hw, wx_a121 hw, wx_g92_55 hw, wx_s92_55 hw, wx_N122 hw, wx_a122 hw, wx_g92_56 hw, wx_s92_56 hw, wx_N123 hw, wx_a123 hw, wx_g92_57 hw, wx_s92_57 hw, wx_N124 hw, wx_a124 hw, wx_g92_58 hw, wx_s92_58 hw, wx_N125 hw, wx_a125 hw, wx_g92_64 hw, wx_s92_64 hw, wx_N126 hw, wx_a126 hw, wx_g92_65 hw, wx_s92_65 hw, wx_N127 hw, wx_a127 hw, wx_g92_66 hw, wx_s92_66 hw, wx_N128 hw, wx_a128 hw, wx_g92_67 hw, wx_s92_67 hw, wx_N129 hw, wx_a129 hw, wx_g92_68 hw, wx_s92_68 hw, wx_N130 hw, wx_a130 hw, wx_g92_69 hw, wx_s92_69 hw, wx_N131 hw, wx_a131 hw, wx_g92_70 hw, wx_s92_70 hw, wx_N132 hw, wx_a132 hw, wx_g92_71 hw, wx_s92_71 hw, wx_N133 hw, wx_a133 hw, wx_g92_72 hw, wx_s92_72 hw, wx_N134 hw, wx_a134 hw, wx_g92_73 hw, wx_s92_73 hw, wx_N135 hw, wx_a135 hw, wx_g92_75 hw, wx_s92_75 hw, wx_N136 hw, wx_a136 hw, List.not_mem_nil, false_implies, implies_true, nI_clamp, nI_add, Nat.reducePow, hp_bd, hp_bdi, hp_ts, hp_tn, hp_tsc, hp_tnc, Nat.reduceAdd, Nat.reduceSub, Nat.reduceMul, Nat.reduceLT, Nat.reduceLeDiff, Nat.reduceEqDiff, reduceIte, not_true_eq_false, not_false_eq_true, and_true, true_and, and_self, and_false, false_and, or_true, true_or, or_false, false_or, decide_true, decide_false, Bool.and_true, Bool.true_and, Bool.not_false, Bool.or_false, Bool.false_or, Bool.or_true, Bool.true_or, i01, k, k2, cl, hbi, cu, hui, p1, hs]
  by_cases hs2 : (gb_p G u).1 = -1
  · have eo : op_34 G (nI t) i (nI u) j y = (-11, G) := by unfold op_34; simp only [e, eu, hs2, or_true, if_true]
    rw [eo]
    refine oM_id hR ?_
    simp only [b211_0, b211_5, b211_8, b211_13, b211_16, b211_18, b211_28, b211_38, b211_41, b211_56, b211_59, b211_64, b211_68, b211_73, b211_83, b211_94, b211_107, b211_121, b211_124, b211_161, b211_199, e211, wx_o92 hw, wx_k92 hw, wx_q92 hw, wx_g92_1 hw, wx_s92_1 hw, wx_N93 hw, wx_a93 hw, wx_g92_2 hw, wx_s92_2 hw, wx_N94 hw, wx_a94 hw, wx_g92_3 hw, wx_s92_3 hw, wx_N95 hw, wx_a95 hw, wx_g92_4 hw, wx_s92_4 hw, wx_N96 hw, wx_a96 hw, wx_g92_5 hw, wx_s92_5 hw, wx_N97 hw, wx_a97 hw, wx_g92_6 hw, wx_s92_6 hw, wx_N98 hw, wx_a98 hw, wx_g92_7 hw, wx_s92_7 hw, wx_N99 hw, wx_a99 hw, wx_g92_9 hw, wx_s92_9 hw, wx_N100 hw, wx_a100 hw, wx_g92_16 hw, wx_s92_16 hw, wx_N101 hw, wx_a101 hw, wx_g92_19 hw, wx_s92_19 hw, wx_N102 hw, wx_a102 hw, wx_g92_20 hw, wx_s92_20 hw, wx_N103 hw, wx_a103 hw, wx_g92_21 hw, wx_s92_21 hw, wx_N104 hw, wx_a104 hw, wx_g92_22 hw, wx_s92_22 hw, wx_N105 hw, wx_a105 hw, wx_g92_23 hw, wx_s92_23 hw, wx_N106 hw, wx_a106 hw, wx_g92_24 hw, wx_s92_24 hw, wx_N107 hw, wx_a107 hw, wx_g92_25 hw, wx_s92_25 hw, wx_N108 hw, wx_a108 hw, wx_g92_29 hw, wx_s92_29 hw, wx_N109 hw, wx_a109 hw, wx_g92_30 hw, wx_s92_30 hw, wx_N110 hw, wx_a110 hw, wx_g92_31 hw, wx_s92_31 hw, wx_N111 hw, wx_a111 hw, wx_g92_32 hw, wx_s92_32 hw, wx_N112 hw, wx_a112 hw, wx_g92_33 hw, wx_s92_33 hw, wx_N113 hw, wx_a113 hw, wx_g92_34 hw, wx_s92_34 hw, wx_N114 hw, wx_a114 hw, wx_g92_35 hw, wx_s92_35 hw, wx_N115 hw, wx_a115 hw, wx_g92_38 hw, wx_s92_38 hw, wx_N116 hw, wx_a116 hw, wx_g92_41 hw, wx_s92_41 hw, wx_N117 hw, wx_a117 hw, wx_g92_44 hw, wx_s92_44 hw, wx_N118 hw, wx_a118 hw, wx_g92_45 hw, wx_s92_45 hw, wx_N119 hw, wx_a119 hw, wx_g92_46 hw, wx_s92_46 hw, wx_N120 hw, wx_a120 hw, wx_g92_52 hw, wx_s92_52 hw, wx_N121 hw, wx_a121 hw, wx_g92_55 hw, wx_s92_55 hw, wx_N122 hw, wx_a122 hw, wx_g92_56 hw, wx_s92_56 hw, wx_N123 hw, wx_a123 hw, wx_g92_57 hw, wx_s92_57 hw, wx_N124 hw, wx_a124 hw, wx_g92_58 hw, wx_s92_58 hw, wx_N125 hw, wx_a125 hw, wx_g92_64 hw, wx_s92_64 hw, wx_N126 hw, wx_a126 hw, wx_g92_65 hw, wx_s92_65 hw, wx_N127 hw, wx_a127 hw, wx_g92_66 hw, wx_s92_66 hw, wx_N128 hw, wx_a128 hw, wx_g92_67 hw, wx_s92_67 hw, wx_N129 hw, wx_a129 hw, wx_g92_68 hw, wx_s92_68 hw, wx_N130 hw, wx_a130 hw, wx_g92_69 hw, wx_s92_69 hw, wx_N131 hw, wx_a131 hw, wx_g92_70 hw, wx_s92_70 hw, wx_N132 hw, wx_a132 hw, wx_g92_71 hw, wx_s92_71 hw, wx_N133 hw, wx_a133 hw, wx_g92_72 hw, wx_s92_72 hw, wx_N134 hw, wx_a134 hw, wx_g92_73 hw, wx_s92_73 hw, wx_N135 hw, wx_a135 hw, wx_g92_75 hw, wx_s92_75 hw, wx_N136 hw, wx_a136 hw, List.not_mem_nil, false_implies, implies_true, nI_clamp, nI_add, Nat.reducePow, hp_bd, hp_bdi, hp_ts, hp_tn, hp_tsc, hp_tnc, Nat.reduceAdd, Nat.reduceSub, Nat.reduceMul, Nat.reduceLT, Nat.reduceLeDiff, Nat.reduceEqDiff, reduceIte, not_true_eq_false, not_false_eq_true, and_true, true_and, and_self, and_false, false_and, or_true, true_or, or_false, false_or, decide_true, decide_false, Bool.and_true, Bool.true_and, Bool.not_false, Bool.or_false, Bool.false_or, Bool.or_true, Bool.true_or, i01, k, k2, cl, hbi, cu, hui, p1, hs, u1, hs2]
  replace p2 := p2 hs
  replace u2 := u2 hs2
  by_cases hne : (gb_p G t).1 = (gb_p G u).1
  rotate_left 1
  · have eo : op_34 G (nI t) i (nI u) j y = (-12, G) := by unfold op_34; simp only [e, eu]; rw [if_neg (fun q => q.elim hs hs2), if_pos hne]
    rw [eo]
    refine oM_id hR ?_
    simp only [b211_0, b211_5, b211_8, b211_13, b211_16, b211_18, b211_28, b211_38, b211_41, b211_56, b211_59, b211_64, b211_68, b211_73, b211_83, b211_94, b211_107, b211_121, b211_124, b211_161, b211_199, e211, wx_o92 hw, wx_k92 hw, wx_q92 hw, wx_g92_1 hw, wx_s92_1 hw, wx_N93 hw, wx_a93 hw, wx_g92_2 hw, wx_s92_2 hw, wx_N94 hw, wx_a94 hw, wx_g92_3 hw, wx_s92_3 hw, wx_N95 hw, wx_a95 hw, wx_g92_4 hw, wx_s92_4 hw, wx_N96 hw, wx_a96 hw, wx_g92_5 hw, wx_s92_5 hw, wx_N97 hw, wx_a97 hw, wx_g92_6 hw, wx_s92_6 hw, wx_N98 hw, wx_a98 hw, wx_g92_7 hw, wx_s92_7 hw, wx_N99 hw, wx_a99 hw, wx_g92_9 hw, wx_s92_9 hw, wx_N100 hw, wx_a100 hw, wx_g92_16 hw, wx_s92_16 hw, wx_N101 hw, wx_a101 hw, wx_g92_19 hw, wx_s92_19 hw, wx_N102 hw, wx_a102 hw, wx_g92_20 hw, wx_s92_20 hw, wx_N103 hw, wx_a103 hw, wx_g92_21 hw, wx_s92_21 hw, wx_N104 hw, wx_a104 hw, wx_g92_22 hw, wx_s92_22 hw, wx_N105 hw, wx_a105 hw, wx_g92_23 hw, wx_s92_23 hw, wx_N106 hw, wx_a106 hw, wx_g92_24 hw, wx_s92_24 hw, wx_N107 hw, wx_a107 hw, wx_g92_25 hw, wx_s92_25 hw, wx_N108 hw, wx_a108 hw, wx_g92_29 hw, wx_s92_29 hw, wx_N109 hw, wx_a109 hw, wx_g92_30 hw, wx_s92_30 hw, wx_N110 hw, wx_a110 hw, wx_g92_31 hw, wx_s92_31 hw, wx_N111 hw, wx_a111 hw, wx_g92_32 hw, wx_s92_32 hw, wx_N112 hw, wx_a112 hw, wx_g92_33 hw, wx_s92_33 hw, wx_N113 hw, wx_a113 hw, wx_g92_34 hw, wx_s92_34 hw, wx_N114 hw, wx_a114 hw, wx_g92_35 hw, wx_s92_35 hw, wx_N115 hw, wx_a115 hw, wx_g92_38 hw, wx_s92_38 hw, wx_N116 hw, wx_a116 hw, wx_g92_41 hw, wx_s92_41 hw, wx_N117 hw, wx_a117 hw, wx_g92_44 hw, wx_s92_44 hw, wx_N118 hw, wx_a118 hw, wx_g92_45 hw, wx_s92_45 hw, wx_N119 hw, wx_a119 hw, wx_g92_46 hw, wx_s92_46 hw, wx_N120 hw, wx_a120 hw, wx_g92_52 hw, wx_s92_52 hw, wx_N121 hw, wx_a121 hw, wx_g92_55 hw, wx_s92_55 hw, wx_N122 hw, wx_a122 hw, wx_g92_56 hw, wx_s92_56 hw, wx_N123 hw, wx_a123 hw, wx_g92_57 hw, wx_s92_57 hw, wx_N124 hw, wx_a124 hw, wx_g92_58 hw, wx_s92_58 hw, wx_N125 hw, wx_a125 hw, wx_g92_64 hw, wx_s92_64 hw, wx_N126 hw, wx_a126 hw, wx_g92_65 hw, wx_s92_65 hw, wx_N127 hw, wx_a127 hw, wx_g92_66 hw, wx_s92_66 hw, wx_N128 hw, wx_a128 hw, wx_g92_67 hw, wx_s92_67 hw, wx_N129 hw, wx_a129 hw, wx_g92_68 hw, wx_s92_68 hw, wx_N130 hw, wx_a130 hw, wx_g92_69 hw, wx_s92_69 hw, wx_N131 hw, wx_a131 hw, wx_g92_70 hw, wx_s92_70 hw, wx_N132 hw, wx_a132 hw, wx_g92_71 hw, wx_s92_71 hw, wx_N133 hw, wx_a133 hw, wx_g92_72 hw, wx_s92_72 hw, wx_N134 hw, wx_a134 hw, wx_g92_73 hw, wx_s92_73 hw, wx_N135 hw, wx_a135 hw, wx_g92_75 hw, wx_s92_75 hw, wx_N136 hw, wx_a136 hw, List.not_mem_nil, false_implies, implies_true, nI_clamp, nI_add, Nat.reducePow, hp_bd, hp_bdi, hp_ts, hp_tn, hp_tsc, hp_tnc, Nat.reduceAdd, Nat.reduceSub, Nat.reduceMul, Nat.reduceLT, Nat.reduceLeDiff, Nat.reduceEqDiff, reduceIte, not_true_eq_false, not_false_eq_true, and_true, true_and, and_self, and_false, false_and, or_true, true_or, or_false, false_or, decide_true, decide_false, Bool.and_true, Bool.true_and, Bool.not_false, Bool.or_false, Bool.false_or, Bool.or_true, Bool.true_or, i01, k, k2, cl, hbi, cu, hui, p1, hs, u1, hs2, hne]
  by_cases n0 : y < nI 0
  · rw [op34n ht hu hs hs2 hne (Or.inl n0)]
    refine oM_id hR ?_
    rw [hne] at hs
    simp only [b211_0, b211_5, b211_8, b211_13, b211_16, b211_18, b211_28, b211_38, b211_41, b211_56, b211_59, b211_64, b211_68, b211_73, b211_83, b211_94, b211_107, b211_121, b211_124, b211_161, b211_199, e211, wx_o92 hw, wx_k92 hw, wx_q92 hw, wx_g92_1 hw, wx_s92_1 hw, wx_N93 hw, wx_a93 hw, wx_g92_2 hw, wx_s92_2 hw, wx_N94 hw, wx_a94 hw, wx_g92_3 hw, wx_s92_3 hw, wx_N95 hw, wx_a95 hw, wx_g92_4 hw, wx_s92_4 hw, wx_N96 hw, wx_a96 hw, wx_g92_5 hw, wx_s92_5 hw, wx_N97 hw, wx_a97 hw, wx_g92_6 hw, wx_s92_6 hw, wx_N98 hw, wx_a98 hw, wx_g92_7 hw, wx_s92_7 hw, wx_N99 hw, wx_a99 hw, wx_g92_9 hw, wx_s92_9 hw, wx_N100 hw, wx_a100 hw, wx_g92_16 hw, wx_s92_16 hw, wx_N101 hw, wx_a101 hw, wx_g92_19 hw, wx_s92_19 hw, wx_N102 hw, wx_a102 hw, wx_g92_20 hw, wx_s92_20 hw, wx_N103 hw, wx_a103 hw, wx_g92_21 hw, wx_s92_21 hw, wx_N104 hw, wx_a104 hw, wx_g92_22 hw, wx_s92_22 hw, wx_N105 hw, wx_a105 hw, wx_g92_23 hw, wx_s92_23 hw, wx_N106 hw, wx_a106 hw, wx_g92_24 hw, wx_s92_24 hw, wx_N107 hw, wx_a107 hw, wx_g92_25 hw, wx_s92_25 hw, wx_N108 hw, wx_a108 hw, wx_g92_29 hw, wx_s92_29 hw, wx_N109 hw, wx_a109 hw, wx_g92_30 hw, wx_s92_30 hw, wx_N110 hw, wx_a110 hw, wx_g92_31 hw, wx_s92_31 hw, wx_N111 hw, wx_a111 hw, wx_g92_32 hw, wx_s92_32 hw, wx_N112 hw, wx_a112 hw, wx_g92_33 hw, wx_s92_33 hw, wx_N113 hw, wx_a113 hw, wx_g92_34 hw, wx_s92_34 hw, wx_N114 hw, wx_a114 hw, wx_g92_35 hw, wx_s92_35 hw, wx_N115 hw, wx_a115 hw, wx_g92_38 hw, wx_s92_38 hw, wx_N116 hw, wx_a116 hw, wx_g92_41 hw, wx_s92_41 hw, wx_N117 hw, wx_a117 hw, wx_g92_44 hw, wx_s92_44 hw, wx_N118 hw, wx_a118 hw, wx_g92_45 hw, wx_s92_45 hw, wx_N119 hw, wx_a119 hw, wx_g92_46 hw, wx_s92_46 hw, wx_N120 hw, wx_a120 hw, wx_g92_52 hw, wx_s92_52 hw, wx_N121 hw, wx_a121 hw, wx_g92_55 hw, wx_s92_55 hw, wx_N122 hw, wx_a122 hw, wx_g92_56 hw, wx_s92_56 hw, wx_N123 hw, wx_a123 hw, wx_g92_57 hw, wx_s92_57 hw, wx_N124 hw, wx_a124 hw, wx_g92_58 hw, wx_s92_58 hw, wx_N125 hw, wx_a125 hw, wx_g92_64 hw, wx_s92_64 hw, wx_N126 hw, wx_a126 hw, wx_g92_65 hw, wx_s92_65 hw, wx_N127 hw, wx_a127 hw, wx_g92_66 hw, wx_s92_66 hw, wx_N128 hw, wx_a128 hw, wx_g92_67 hw, wx_s92_67 hw, wx_N129 hw, wx_a129 hw, wx_g92_68 hw, wx_s92_68 hw, wx_N130 hw, wx_a130 hw, wx_g92_69 hw, wx_s92_69 hw, wx_N131 hw, wx_a131 hw, wx_g92_70 hw, wx_s92_70 hw, wx_N132 hw, wx_a132 hw, wx_g92_71 hw, wx_s92_71 hw, wx_N133 hw, wx_a133 hw, wx_g92_72 hw, wx_s92_72 hw, wx_N134 hw, wx_a134 hw, wx_g92_73 hw, wx_s92_73 hw, wx_N135 hw, wx_a135 hw, wx_g92_75 hw, wx_s92_75 hw, wx_N136 hw, wx_a136 hw, List.not_mem_nil, false_implies, implies_true, nI_clamp, nI_add, Nat.reducePow, hp_bd, hp_bdi, hp_ts, hp_tn, hp_tsc, hp_tnc, Nat.reduceAdd, Nat.reduceSub, Nat.reduceMul, Nat.reduceLT, Nat.reduceLeDiff, Nat.reduceEqDiff, reduceIte, not_true_eq_false, not_false_eq_true, and_true, true_and, and_self, and_false, false_and, or_true, true_or, or_false, false_or, decide_true, decide_false, Bool.and_true, Bool.true_and, Bool.not_false, Bool.or_false, Bool.false_or, Bool.or_true, Bool.true_or, i01, k, k2, cl, hbi, cu, hui, p1, u1, hne, hs, n0]
  by_cases i0 : i < nI 0
  · rw [op34n ht hu hs hs2 hne (Or.inr (Or.inl i0))]
    refine oM_id hR ?_
    rw [hne] at hs
    simp only [b211_0, b211_5, b211_8, b211_13, b211_16, b211_18, b211_28, b211_38, b211_41, b211_56, b211_59, b211_64, b211_68, b211_73, b211_83, b211_94, b211_107, b211_121, b211_124, b211_161, b211_199, e211, wx_o92 hw, wx_k92 hw, wx_q92 hw, wx_g92_1 hw, wx_s92_1 hw, wx_N93 hw, wx_a93 hw, wx_g92_2 hw, wx_s92_2 hw, wx_N94 hw, wx_a94 hw, wx_g92_3 hw, wx_s92_3 hw, wx_N95 hw, wx_a95 hw, wx_g92_4 hw, wx_s92_4 hw, wx_N96 hw, wx_a96 hw, wx_g92_5 hw, wx_s92_5 hw, wx_N97 hw, wx_a97 hw, wx_g92_6 hw, wx_s92_6 hw, wx_N98 hw, wx_a98 hw, wx_g92_7 hw, wx_s92_7 hw, wx_N99 hw, wx_a99 hw, wx_g92_9 hw, wx_s92_9 hw, wx_N100 hw, wx_a100 hw, wx_g92_16 hw, wx_s92_16 hw, wx_N101 hw, wx_a101 hw, wx_g92_19 hw, wx_s92_19 hw, wx_N102 hw, wx_a102 hw, wx_g92_20 hw, wx_s92_20 hw, wx_N103 hw, wx_a103 hw, wx_g92_21 hw, wx_s92_21 hw, wx_N104 hw, wx_a104 hw, wx_g92_22 hw, wx_s92_22 hw, wx_N105 hw, wx_a105 hw, wx_g92_23 hw, wx_s92_23 hw, wx_N106 hw, wx_a106 hw, wx_g92_24 hw, wx_s92_24 hw, wx_N107 hw, wx_a107 hw, wx_g92_25 hw, wx_s92_25 hw, wx_N108 hw, wx_a108 hw, wx_g92_29 hw, wx_s92_29 hw, wx_N109 hw, wx_a109 hw, wx_g92_30 hw, wx_s92_30 hw, wx_N110 hw, wx_a110 hw, wx_g92_31 hw, wx_s92_31 hw, wx_N111 hw, wx_a111 hw, wx_g92_32 hw, wx_s92_32 hw, wx_N112 hw, wx_a112 hw, wx_g92_33 hw, wx_s92_33 hw, wx_N113 hw, wx_a113 hw, wx_g92_34 hw, wx_s92_34 hw, wx_N114 hw, wx_a114 hw, wx_g92_35 hw, wx_s92_35 hw, wx_N115 hw, wx_a115 hw, wx_g92_38 hw, wx_s92_38 hw, wx_N116 hw, wx_a116 hw, wx_g92_41 hw, wx_s92_41 hw, wx_N117 hw, wx_a117 hw, wx_g92_44 hw, wx_s92_44 hw, wx_N118 hw, wx_a118 hw, wx_g92_45 hw, wx_s92_45 hw, wx_N119 hw, wx_a119 hw, wx_g92_46 hw, wx_s92_46 hw, wx_N120 hw, wx_a120 hw, wx_g92_52 hw, wx_s92_52 hw, wx_N121 hw, wx_a121 hw, wx_g92_55 hw, wx_s92_55 hw, wx_N122 hw, wx_a122 hw, wx_g92_56 hw, wx_s92_56 hw, wx_N123 hw, wx_a123 hw, wx_g92_57 hw, wx_s92_57 hw, wx_N124 hw, wx_a124 hw, wx_g92_58 hw, wx_s92_58 hw, wx_N125 hw, wx_a125 hw, wx_g92_64 hw, wx_s92_64 hw, wx_N126 hw, wx_a126 hw, wx_g92_65 hw, wx_s92_65 hw, wx_N127 hw, wx_a127 hw, wx_g92_66 hw, wx_s92_66 hw, wx_N128 hw, wx_a128 hw, wx_g92_67 hw, wx_s92_67 hw, wx_N129 hw, wx_a129 hw, wx_g92_68 hw, wx_s92_68 hw, wx_N130 hw, wx_a130 hw, wx_g92_69 hw, wx_s92_69 hw, wx_N131 hw, wx_a131 hw, wx_g92_70 hw, wx_s92_70 hw, wx_N132 hw, wx_a132 hw, wx_g92_71 hw, wx_s92_71 hw, wx_N133 hw, wx_a133 hw, wx_g92_72 hw, wx_s92_72 hw, wx_N134 hw, wx_a134 hw, wx_g92_73 hw, wx_s92_73 hw, wx_N135 hw, wx_a135 hw, wx_g92_75 hw, wx_s92_75 hw, wx_N136 hw, wx_a136 hw, List.not_mem_nil, false_implies, implies_true, nI_clamp, nI_add, Nat.reducePow, hp_bd, hp_bdi, hp_ts, hp_tn, hp_tsc, hp_tnc, Nat.reduceAdd, Nat.reduceSub, Nat.reduceMul, Nat.reduceLT, Nat.reduceLeDiff, Nat.reduceEqDiff, reduceIte, not_true_eq_false, not_false_eq_true, and_true, true_and, and_self, and_false, false_and, or_true, true_or, or_false, false_or, decide_true, decide_false, Bool.and_true, Bool.true_and, Bool.not_false, Bool.or_false, Bool.false_or, Bool.or_true, Bool.true_or, i01, k, k2, cl, hbi, cu, hui, p1, u1, hne, hs, n0, i0]
  by_cases j0 : j < nI 0
  · rw [op34n ht hu hs hs2 hne (Or.inr (Or.inr j0))]
    refine oM_id hR ?_
    rw [hne] at hs
    simp only [b211_0, b211_5, b211_8, b211_13, b211_16, b211_18, b211_28, b211_38, b211_41, b211_56, b211_59, b211_64, b211_68, b211_73, b211_83, b211_94, b211_107, b211_121, b211_124, b211_161, b211_199, e211, wx_o92 hw, wx_k92 hw, wx_q92 hw, wx_g92_1 hw, wx_s92_1 hw, wx_N93 hw, wx_a93 hw, wx_g92_2 hw, wx_s92_2 hw, wx_N94 hw, wx_a94 hw, wx_g92_3 hw, wx_s92_3 hw, wx_N95 hw, wx_a95 hw, wx_g92_4 hw, wx_s92_4 hw, wx_N96 hw, wx_a96 hw, wx_g92_5 hw, wx_s92_5 hw, wx_N97 hw, wx_a97 hw, wx_g92_6 hw, wx_s92_6 hw, wx_N98 hw, wx_a98 hw, wx_g92_7 hw, wx_s92_7 hw, wx_N99 hw, wx_a99 hw, wx_g92_9 hw, wx_s92_9 hw, wx_N100 hw, wx_a100 hw, wx_g92_16 hw, wx_s92_16 hw, wx_N101 hw, wx_a101 hw, wx_g92_19 hw, wx_s92_19 hw, wx_N102 hw, wx_a102 hw, wx_g92_20 hw, wx_s92_20 hw, wx_N103 hw, wx_a103 hw, wx_g92_21 hw, wx_s92_21 hw, wx_N104 hw, wx_a104 hw, wx_g92_22 hw, wx_s92_22 hw, wx_N105 hw, wx_a105 hw, wx_g92_23 hw, wx_s92_23 hw, wx_N106 hw, wx_a106 hw, wx_g92_24 hw, wx_s92_24 hw, wx_N107 hw, wx_a107 hw, wx_g92_25 hw, wx_s92_25 hw, wx_N108 hw, wx_a108 hw, wx_g92_29 hw, wx_s92_29 hw, wx_N109 hw, wx_a109 hw, wx_g92_30 hw, wx_s92_30 hw, wx_N110 hw, wx_a110 hw, wx_g92_31 hw, wx_s92_31 hw, wx_N111 hw, wx_a111 hw, wx_g92_32 hw, wx_s92_32 hw, wx_N112 hw, wx_a112 hw, wx_g92_33 hw, wx_s92_33 hw, wx_N113 hw, wx_a113 hw, wx_g92_34 hw, wx_s92_34 hw, wx_N114 hw, wx_a114 hw, wx_g92_35 hw, wx_s92_35 hw, wx_N115 hw, wx_a115 hw, wx_g92_38 hw, wx_s92_38 hw, wx_N116 hw, wx_a116 hw, wx_g92_41 hw, wx_s92_41 hw, wx_N117 hw, wx_a117 hw, wx_g92_44 hw, wx_s92_44 hw, wx_N118 hw, wx_a118 hw, wx_g92_45 hw, wx_s92_45 hw, wx_N119 hw, wx_a119 hw, wx_g92_46 hw, wx_s92_46 hw, wx_N120 hw, wx_a120 hw, wx_g92_52 hw, wx_s92_52 hw, wx_N121 hw, wx_a121 hw, wx_g92_55 hw, wx_s92_55 hw, wx_N122 hw, wx_a122 hw, wx_g92_56 hw, wx_s92_56 hw, wx_N123 hw, wx_a123 hw, wx_g92_57 hw, wx_s92_57 hw, wx_N124 hw, wx_a124 hw, wx_g92_58 hw, wx_s92_58 hw, wx_N125 hw, wx_a125 hw, wx_g92_64 hw, wx_s92_64 hw, wx_N126 hw, wx_a126 hw, wx_g92_65 hw, wx_s92_65 hw, wx_N127 hw, wx_a127 hw, wx_g92_66 hw, wx_s92_66 hw, wx_N128 hw, wx_a128 hw, wx_g92_67 hw, wx_s92_67 hw, wx_N129 hw, wx_a129 hw, wx_g92_68 hw, wx_s92_68 hw, wx_N130 hw, wx_a130 hw, wx_g92_69 hw, wx_s92_69 hw, wx_N131 hw, wx_a131 hw, wx_g92_70 hw, wx_s92_70 hw, wx_N132 hw, wx_a132 hw, wx_g92_71 hw, wx_s92_71 hw, wx_N133 hw, wx_a133 hw, wx_g92_72 hw, wx_s92_72 hw, wx_N134 hw, wx_a134 hw, wx_g92_73 hw, wx_s92_73 hw, wx_N135 hw, wx_a135 hw, wx_g92_75 hw, wx_s92_75 hw, wx_N136 hw, wx_a136 hw, List.not_mem_nil, false_implies, implies_true, nI_clamp, nI_add, Nat.reducePow, hp_bd, hp_bdi, hp_ts, hp_tn, hp_tsc, hp_tnc, Nat.reduceAdd, Nat.reduceSub, Nat.reduceMul, Nat.reduceLT, Nat.reduceLeDiff, Nat.reduceEqDiff, reduceIte, not_true_eq_false, not_false_eq_true, and_true, true_and, and_self, and_false, false_and, or_true, true_or, or_false, false_or, decide_true, decide_false, Bool.and_true, Bool.true_and, Bool.not_false, Bool.or_false, Bool.false_or, Bool.or_true, Bool.true_or, i01, k, k2, cl, hbi, cu, hui, p1, u1, hne, hs, n0, i0, j0]
  obtain ⟨n, hn, rfl⟩ := nI_of (x := y) n0
  obtain ⟨i, hi, rfl⟩ := nI_of (x := i) i0
  obtain ⟨j, hj, rfl⟩ := nI_of (x := j) j0
  rw [op34 ok ht hu hs hs2 hne hn hi hj]
  have hs' := hs
  rw [hne] at hs
  by_cases l1 : (gb_p G t).2.1 < i
  · have q1 : (nI (gb_p G t).2.1 < nI i) = True := eq_true (nI_lt l1 hi)
    rw [if_neg (fun q => by omega)]
    refine oM_id hR ?_
    simp only [b211_0, b211_5, b211_8, b211_13, b211_16, b211_18, b211_28, b211_38, b211_41, b211_56, b211_59, b211_64, b211_68, b211_73, b211_83, b211_94, b211_107, b211_121, b211_124, b211_161, b211_199, e211, wx_o92 hw, wx_k92 hw, wx_q92 hw, wx_g92_1 hw, wx_s92_1 hw, wx_N93 hw, wx_a93 hw, wx_g92_2 hw, wx_s92_2 hw, wx_N94 hw, wx_a94 hw, wx_g92_3 hw, wx_s92_3 hw, wx_N95 hw, wx_a95 hw, wx_g92_4 hw, wx_s92_4 hw, wx_N96 hw, wx_a96 hw, wx_g92_5 hw, wx_s92_5 hw, wx_N97 hw, wx_a97 hw, wx_g92_6 hw, wx_s92_6 hw, wx_N98 hw, wx_a98 hw, wx_g92_7 hw, wx_s92_7 hw, wx_N99 hw, wx_a99 hw, wx_g92_9 hw, wx_s92_9 hw, wx_N100 hw, wx_a100 hw, wx_g92_16 hw, wx_s92_16 hw, wx_N101 hw, wx_a101 hw, wx_g92_19 hw, wx_s92_19 hw, wx_N102 hw, wx_a102 hw, wx_g92_20 hw, wx_s92_20 hw, wx_N103 hw, wx_a103 hw, wx_g92_21 hw, wx_s92_21 hw, wx_N104 hw, wx_a104 hw, wx_g92_22 hw, wx_s92_22 hw, wx_N105 hw, wx_a105 hw, wx_g92_23 hw, wx_s92_23 hw, wx_N106 hw, wx_a106 hw, wx_g92_24 hw, wx_s92_24 hw, wx_N107 hw, wx_a107 hw, wx_g92_25 hw, wx_s92_25 hw, wx_N108 hw, wx_a108 hw, wx_g92_29 hw, wx_s92_29 hw, wx_N109 hw, wx_a109 hw, wx_g92_30 hw, wx_s92_30 hw, wx_N110 hw, wx_a110 hw, wx_g92_31 hw, wx_s92_31 hw, wx_N111 hw, wx_a111 hw, wx_g92_32 hw, wx_s92_32 hw, wx_N112 hw, wx_a112 hw, wx_g92_33 hw, wx_s92_33 hw, wx_N113 hw, wx_a113 hw, wx_g92_34 hw, wx_s92_34 hw, wx_N114 hw, wx_a114 hw, wx_g92_35 hw, wx_s92_35 hw, wx_N115 hw, wx_a115 hw, wx_g92_38 hw, wx_s92_38 hw, wx_N116 hw, wx_a116 hw, wx_g92_41 hw, wx_s92_41 hw, wx_N117 hw, wx_a117 hw, wx_g92_44 hw, wx_s92_44 hw, wx_N118 hw, wx_a118 hw, wx_g92_45 hw, wx_s92_45 hw, wx_N119 hw, wx_a119 hw, wx_g92_46 hw, wx_s92_46 hw, wx_N120 hw, wx_a120 hw, wx_g92_52 hw, wx_s92_52 hw, wx_N121 hw, wx_a121 hw, wx_g92_55 hw, wx_s92_55 hw, wx_N122 hw, wx_a122 hw, wx_g92_56 hw, wx_s92_56 hw, wx_N123 hw, wx_a123 hw, wx_g92_57 hw, wx_s92_57 hw, wx_N124 hw, wx_a124 hw, wx_g92_58 hw, wx_s92_58 hw, wx_N125 hw, wx_a125 hw, wx_g92_64 hw, wx_s92_64 hw, wx_N126 hw, wx_a126 hw, wx_g92_65 hw, wx_s92_65 hw, wx_N127 hw, wx_a127 hw, wx_g92_66 hw, wx_s92_66 hw, wx_N128 hw, wx_a128 hw, wx_g92_67 hw, wx_s92_67 hw, wx_N129 hw, wx_a129 hw, wx_g92_68 hw, wx_s92_68 hw, wx_N130 hw, wx_a130 hw, wx_g92_69 hw, wx_s92_69 hw, wx_N131 hw, wx_a131 hw, wx_g92_70 hw, wx_s92_70 hw, wx_N132 hw, wx_a132 hw, wx_g92_71 hw, wx_s92_71 hw, wx_N133 hw, wx_a133 hw, wx_g92_72 hw, wx_s92_72 hw, wx_N134 hw, wx_a134 hw, wx_g92_73 hw, wx_s92_73 hw, wx_N135 hw, wx_a135 hw, wx_g92_75 hw, wx_s92_75 hw, wx_N136 hw, wx_a136 hw, List.not_mem_nil, false_implies, implies_true, nI_clamp, nI_add, Nat.reducePow, hp_bd, hp_bdi, hp_ts, hp_tn, hp_tsc, hp_tnc, Nat.reduceAdd, Nat.reduceSub, Nat.reduceMul, Nat.reduceLT, Nat.reduceLeDiff, Nat.reduceEqDiff, reduceIte, not_true_eq_false, not_false_eq_true, and_true, true_and, and_self, and_false, false_and, or_true, true_or, or_false, false_or, decide_true, decide_false, Bool.and_true, Bool.true_and, Bool.not_false, Bool.or_false, Bool.false_or, Bool.or_true, Bool.true_or, i01, k, k2, cl, hbi, cu, hui, p1, u1, hne, hs, n0, i0, j0, p2, q1]
  have q1 : (nI (gb_p G t).2.1 < nI i) = False := eq_false (nI_nlt (by omega) (by omega))
  by_cases l2 : (gb_p G u).2.1 < j
  · have q2 : (nI (gb_p G u).2.1 < nI j) = True := eq_true (nI_lt l2 hj)
    rw [if_neg (fun q => by omega)]
    refine oM_id hR ?_
    simp only [b211_0, b211_5, b211_8, b211_13, b211_16, b211_18, b211_28, b211_38, b211_41, b211_56, b211_59, b211_64, b211_68, b211_73, b211_83, b211_94, b211_107, b211_121, b211_124, b211_161, b211_199, e211, wx_o92 hw, wx_k92 hw, wx_q92 hw, wx_g92_1 hw, wx_s92_1 hw, wx_N93 hw, wx_a93 hw, wx_g92_2 hw, wx_s92_2 hw, wx_N94 hw, wx_a94 hw, wx_g92_3 hw, wx_s92_3 hw, wx_N95 hw, wx_a95 hw, wx_g92_4 hw, wx_s92_4 hw, wx_N96 hw, wx_a96 hw, wx_g92_5 hw, wx_s92_5 hw, wx_N97 hw, wx_a97 hw, wx_g92_6 hw, wx_s92_6 hw, wx_N98 hw, wx_a98 hw, wx_g92_7 hw, wx_s92_7 hw, wx_N99 hw, wx_a99 hw, wx_g92_9 hw, wx_s92_9 hw, wx_N100 hw, wx_a100 hw, wx_g92_16 hw, wx_s92_16 hw, wx_N101 hw, wx_a101 hw, wx_g92_19 hw, wx_s92_19 hw, wx_N102 hw, wx_a102 hw, wx_g92_20 hw, wx_s92_20 hw, wx_N103 hw, wx_a103 hw, wx_g92_21 hw, wx_s92_21 hw, wx_N104 hw, wx_a104 hw, wx_g92_22 hw, wx_s92_22 hw, wx_N105 hw, wx_a105 hw, wx_g92_23 hw, wx_s92_23 hw, wx_N106 hw, wx_a106 hw, wx_g92_24 hw, wx_s92_24 hw, wx_N107 hw, wx_a107 hw, wx_g92_25 hw, wx_s92_25 hw, wx_N108 hw, wx_a108 hw, wx_g92_29 hw, wx_s92_29 hw, wx_N109 hw, wx_a109 hw, wx_g92_30 hw, wx_s92_30 hw, wx_N110 hw, wx_a110 hw, wx_g92_31 hw, wx_s92_31 hw, wx_N111 hw, wx_a111 hw, wx_g92_32 hw, wx_s92_32 hw, wx_N112 hw, wx_a112 hw, wx_g92_33 hw, wx_s92_33 hw, wx_N113 hw, wx_a113 hw, wx_g92_34 hw, wx_s92_34 hw, wx_N114 hw, wx_a114 hw, wx_g92_35 hw, wx_s92_35 hw, wx_N115 hw, wx_a115 hw, wx_g92_38 hw, wx_s92_38 hw, wx_N116 hw, wx_a116 hw, wx_g92_41 hw, wx_s92_41 hw, wx_N117 hw, wx_a117 hw, wx_g92_44 hw, wx_s92_44 hw, wx_N118 hw, wx_a118 hw, wx_g92_45 hw, wx_s92_45 hw, wx_N119 hw, wx_a119 hw, wx_g92_46 hw, wx_s92_46 hw, wx_N120 hw, wx_a120 hw, wx_g92_52 hw, wx_s92_52 hw, wx_N121 hw, wx_a121 hw, wx_g92_55 hw, wx_s92_55 hw, wx_N122 hw, wx_a122 hw, wx_g92_56 hw, wx_s92_56 hw, wx_N123 hw, wx_a123 hw, wx_g92_57 hw, wx_s92_57 hw, wx_N124 hw, wx_a124 hw, wx_g92_58 hw, wx_s92_58 hw, wx_N125 hw, wx_a125 hw, wx_g92_64 hw, wx_s92_64 hw, wx_N126 hw, wx_a126 hw, wx_g92_65 hw, wx_s92_65 hw, wx_N127 hw, wx_a127 hw, wx_g92_66 hw, wx_s92_66 hw, wx_N128 hw, wx_a128 hw, wx_g92_67 hw, wx_s92_67 hw, wx_N129 hw, wx_a129 hw, wx_g92_68 hw, wx_s92_68 hw, wx_N130 hw, wx_a130 hw, wx_g92_69 hw, wx_s92_69 hw, wx_N131 hw, wx_a131 hw, wx_g92_70 hw, wx_s92_70 hw, wx_N132 hw, wx_a132 hw, wx_g92_71 hw, wx_s92_71 hw, wx_N133 hw, wx_a133 hw, wx_g92_72 hw, wx_s92_72 hw, wx_N134 hw, wx_a134 hw, wx_g92_73 hw, wx_s92_73 hw, wx_N135 hw, wx_a135 hw, wx_g92_75 hw, wx_s92_75 hw, wx_N136 hw, wx_a136 hw, List.not_mem_nil, false_implies, implies_true, nI_clamp, nI_add, Nat.reducePow, hp_bd, hp_bdi, hp_ts, hp_tn, hp_tsc, hp_tnc, Nat.reduceAdd, Nat.reduceSub, Nat.reduceMul, Nat.reduceLT, Nat.reduceLeDiff, Nat.reduceEqDiff, reduceIte, not_true_eq_false, not_false_eq_true, and_true, true_and, and_self, and_false, false_and, or_true, true_or, or_false, false_or, decide_true, decide_false, Bool.and_true, Bool.true_and, Bool.not_false, Bool.or_false, Bool.false_or, Bool.or_true, Bool.true_or, i01, k, k2, cl, hbi, cu, hui, p1, u1, hne, hs, n0, i0, j0, p2, q1, u2, q2]
  have q2 : (nI (gb_p G u).2.1 < nI j) = False := eq_false (nI_nlt (by omega) (by omega))
  have s1 : nI (gb_p G t).2.1 - nI i = nI ((gb_p G t).2.1 - i) := pk_sub (by omega)
  have s2 : nI (gb_p G u).2.1 - nI j = nI ((gb_p G u).2.1 - j) := pk_sub (by omega)
  by_cases l3 : (gb_p G t).2.1 - i < n
  · have q3 : (nI ((gb_p G t).2.1 - i) < nI n) = True := eq_true (nI_lt l3 hn)
    rw [if_neg (fun q => by omega)]
    refine oM_id hR ?_
    simp only [b211_0, b211_5, b211_8, b211_13, b211_16, b211_18, b211_28, b211_38, b211_41, b211_56, b211_59, b211_64, b211_68, b211_73, b211_83, b211_94, b211_107, b211_121, b211_124, b211_161, b211_199, e211, wx_o92 hw, wx_k92 hw, wx_q92 hw, wx_g92_1 hw, wx_s92_1 hw, wx_N93 hw, wx_a93 hw, wx_g92_2 hw, wx_s92_2 hw, wx_N94 hw, wx_a94 hw, wx_g92_3 hw, wx_s92_3 hw, wx_N95 hw, wx_a95 hw, wx_g92_4 hw, wx_s92_4 hw, wx_N96 hw, wx_a96 hw, wx_g92_5 hw, wx_s92_5 hw, wx_N97 hw, wx_a97 hw, wx_g92_6 hw, wx_s92_6 hw, wx_N98 hw, wx_a98 hw, wx_g92_7 hw, wx_s92_7 hw, wx_N99 hw, wx_a99 hw, wx_g92_9 hw, wx_s92_9 hw, wx_N100 hw, wx_a100 hw, wx_g92_16 hw, wx_s92_16 hw, wx_N101 hw, wx_a101 hw, wx_g92_19 hw, wx_s92_19 hw, wx_N102 hw, wx_a102 hw, wx_g92_20 hw, wx_s92_20 hw, wx_N103 hw, wx_a103 hw, wx_g92_21 hw, wx_s92_21 hw, wx_N104 hw, wx_a104 hw, wx_g92_22 hw, wx_s92_22 hw, wx_N105 hw, wx_a105 hw, wx_g92_23 hw, wx_s92_23 hw, wx_N106 hw, wx_a106 hw, wx_g92_24 hw, wx_s92_24 hw, wx_N107 hw, wx_a107 hw, wx_g92_25 hw, wx_s92_25 hw, wx_N108 hw, wx_a108 hw, wx_g92_29 hw, wx_s92_29 hw, wx_N109 hw, wx_a109 hw, wx_g92_30 hw, wx_s92_30 hw, wx_N110 hw, wx_a110 hw, wx_g92_31 hw, wx_s92_31 hw, wx_N111 hw, wx_a111 hw, wx_g92_32 hw, wx_s92_32 hw, wx_N112 hw, wx_a112 hw, wx_g92_33 hw, wx_s92_33 hw, wx_N113 hw, wx_a113 hw, wx_g92_34 hw, wx_s92_34 hw, wx_N114 hw, wx_a114 hw, wx_g92_35 hw, wx_s92_35 hw, wx_N115 hw, wx_a115 hw, wx_g92_38 hw, wx_s92_38 hw, wx_N116 hw, wx_a116 hw, wx_g92_41 hw, wx_s92_41 hw, wx_N117 hw, wx_a117 hw, wx_g92_44 hw, wx_s92_44 hw, wx_N118 hw, wx_a118 hw, wx_g92_45 hw, wx_s92_45 hw, wx_N119 hw, wx_a119 hw, wx_g92_46 hw, wx_s92_46 hw, wx_N120 hw, wx_a120 hw, wx_g92_52 hw, wx_s92_52 hw, wx_N121 hw, wx_a121 hw, wx_g92_55 hw, wx_s92_55 hw, wx_N122 hw, wx_a122 hw, wx_g92_56 hw, wx_s92_56 hw, wx_N123 hw, wx_a123 hw, wx_g92_57 hw, wx_s92_57 hw, wx_N124 hw, wx_a124 hw, wx_g92_58 hw, wx_s92_58 hw, wx_N125 hw, wx_a125 hw, wx_g92_64 hw, wx_s92_64 hw, wx_N126 hw, wx_a126 hw, wx_g92_65 hw, wx_s92_65 hw, wx_N127 hw, wx_a127 hw, wx_g92_66 hw, wx_s92_66 hw, wx_N128 hw, wx_a128 hw, wx_g92_67 hw, wx_s92_67 hw, wx_N129 hw, wx_a129 hw, wx_g92_68 hw, wx_s92_68 hw, wx_N130 hw, wx_a130 hw, wx_g92_69 hw, wx_s92_69 hw, wx_N131 hw, wx_a131 hw, wx_g92_70 hw, wx_s92_70 hw, wx_N132 hw, wx_a132 hw, wx_g92_71 hw, wx_s92_71 hw, wx_N133 hw, wx_a133 hw, wx_g92_72 hw, wx_s92_72 hw, wx_N134 hw, wx_a134 hw, wx_g92_73 hw, wx_s92_73 hw, wx_N135 hw, wx_a135 hw, wx_g92_75 hw, wx_s92_75 hw, wx_N136 hw, wx_a136 hw, List.not_mem_nil, false_implies, implies_true, nI_clamp, nI_add, Nat.reducePow, hp_bd, hp_bdi, hp_ts, hp_tn, hp_tsc, hp_tnc, Nat.reduceAdd, Nat.reduceSub, Nat.reduceMul, Nat.reduceLT, Nat.reduceLeDiff, Nat.reduceEqDiff, reduceIte, not_true_eq_false, not_false_eq_true, and_true, true_and, and_self, and_false, false_and, or_true, true_or, or_false, false_or, decide_true, decide_false, Bool.and_true, Bool.true_and, Bool.not_false, Bool.or_false, Bool.false_or, Bool.or_true, Bool.true_or, i01, k, k2, cl, hbi, cu, hui, p1, u1, hne, hs, n0, i0, j0, p2, q1, u2, q2, s1, q3]
  have q3 : (nI ((gb_p G t).2.1 - i) < nI n) = False := eq_false (nI_nlt (by omega) (by omega))
  by_cases l4 : n ≤ (gb_p G u).2.1 - j
  · have q4 : (nI n ≤ nI ((gb_p G u).2.1 - j)) = True := eq_true (nI_le l4 (by omega))
    rw [if_pos ⟨by omega, by omega⟩]
    have la := l211a (d := d + 2) hw (t := t) (a := i) (u := u) (b := j) (n := n) (by omega) (by omega) n 0 (Nat.zero_add _)
    have z1 : mh_1 S (60 * t + i) 0 = S := st_ext (fun _ _ => rfl) (fun c j => by rw [mh1_L, if_neg (fun e => absurd e.2 (Nat.not_lt_zero j))]) (fun _ _ => rfl) (fun _ => rfl) (fun _ => rfl) rfl rfl
    rw [z1] at la
    have w1 : mm_W (mh_1 S (60 * t + i) n) := hw
    have lb := l211b (d := d + 2) w1 (t := t) (a := i) (u := u) (b := j) (n := n) (by omega) (by omega) n 0 (Nat.zero_add _)
    have z2 : mh_2 (mh_1 S (60 * t + i) n) (60 * u + j) 0 = mh_1 S (60 * t + i) n := st_ext (fun _ _ => rfl) (fun c j => by rw [mh2_L, if_neg (fun e => by omega)]) (fun _ _ => rfl) (fun _ => rfl) (fun _ => rfl) rfl rfl
    rw [z2] at lb
    refine oM_p ok hR (T := mh_2 (mh_1 S (60 * t + i) n) (60 * u + j) n) ?_ ?_ hw (mp_up hp u1 u2 (fun u hu => tsz ok hu) (fun k hk => ?_) (fun w hw => ⟨rfl, rfl, fun k hk => ?_⟩)) rfl rfl
    · have st : mm_cl (d + 2) 211 [.ref 92, .int (nI t), .int (nI i), .int (nI u), .int (nI j), .int (nI n)] S = mm_ex (d + 2) 211 127 [.ref 92, .int (nI t), .int (nI i), .int (nI u), .int (nI j), .int (nI n), .int (nI 0)] [] S := by
        simp only [b211_0, b211_5, b211_8, b211_13, b211_16, b211_18, b211_28, b211_38, b211_41, b211_56, b211_59, b211_64, b211_68, b211_73, b211_83, b211_94, b211_107, b211_121, b211_124, b211_161, b211_199, e211, wx_o92 hw, wx_k92 hw, wx_q92 hw, wx_g92_1 hw, wx_s92_1 hw, wx_N93 hw, wx_a93 hw, wx_g92_2 hw, wx_s92_2 hw, wx_N94 hw, wx_a94 hw, wx_g92_3 hw, wx_s92_3 hw, wx_N95 hw, wx_a95 hw, wx_g92_4 hw, wx_s92_4 hw, wx_N96 hw, wx_a96 hw, wx_g92_5 hw, wx_s92_5 hw, wx_N97 hw, wx_a97 hw, wx_g92_6 hw, wx_s92_6 hw, wx_N98 hw, wx_a98 hw, wx_g92_7 hw, wx_s92_7 hw, wx_N99 hw, wx_a99 hw, wx_g92_9 hw, wx_s92_9 hw, wx_N100 hw, wx_a100 hw, wx_g92_16 hw, wx_s92_16 hw, wx_N101 hw, wx_a101 hw, wx_g92_19 hw, wx_s92_19 hw, wx_N102 hw, wx_a102 hw, wx_g92_20 hw, wx_s92_20 hw, wx_N103 hw, wx_a103 hw, wx_g92_21 hw, wx_s92_21 hw, wx_N104 hw, wx_a104 hw, wx_g92_22 hw, wx_s92_22 hw, wx_N105 hw, wx_a105 hw, wx_g92_23 hw, wx_s92_23 hw, wx_N106 hw, wx_a106 hw, wx_g92_24 hw, wx_s92_24 hw, wx_N107 hw, wx_a107 hw, wx_g92_25 hw, wx_s92_25 hw, wx_N108 hw, wx_a108 hw, wx_g92_29 hw, wx_s92_29 hw, wx_N109 hw, wx_a109 hw, wx_g92_30 hw, wx_s92_30 hw, wx_N110 hw, wx_a110 hw, wx_g92_31 hw, wx_s92_31 hw, wx_N111 hw, wx_a111 hw, wx_g92_32 hw, wx_s92_32 hw, wx_N112 hw, wx_a112 hw, wx_g92_33 hw, wx_s92_33 hw, wx_N113 hw, wx_a113 hw, wx_g92_34 hw, wx_s92_34 hw, wx_N114 hw, wx_a114 hw, wx_g92_35 hw, wx_s92_35 hw, wx_N115 hw, wx_a115 hw, wx_g92_38 hw, wx_s92_38 hw, wx_N116 hw, wx_a116 hw, wx_g92_41 hw, wx_s92_41 hw, wx_N117 hw, wx_a117 hw, wx_g92_44 hw, wx_s92_44 hw, wx_N118 hw, wx_a118 hw, wx_g92_45 hw, wx_s92_45 hw, wx_N119 hw, wx_a119 hw, wx_g92_46 hw, wx_s92_46 hw, wx_N120 hw, wx_a120 hw, wx_g92_52 hw, wx_s92_52 hw, wx_N121 hw, wx_a121 hw, wx_g92_55 hw, wx_s92_55 hw, wx_N122 hw, wx_a122 hw, wx_g92_56 hw, wx_s92_56 hw, wx_N123 hw, wx_a123 hw, wx_g92_57 hw, wx_s92_57 hw, wx_N124 hw, wx_a124 hw, wx_g92_58 hw, wx_s92_58 hw, wx_N125 hw, wx_a125 hw, wx_g92_64 hw, wx_s92_64 hw, wx_N126 hw, wx_a126 hw, wx_g92_65 hw, wx_s92_65 hw, wx_N127 hw, wx_a127 hw, wx_g92_66 hw, wx_s92_66 hw, wx_N128 hw, wx_a128 hw, wx_g92_67 hw, wx_s92_67 hw, wx_N129 hw, wx_a129 hw, wx_g92_68 hw, wx_s92_68 hw, wx_N130 hw, wx_a130 hw, wx_g92_69 hw, wx_s92_69 hw, wx_N131 hw, wx_a131 hw, wx_g92_70 hw, wx_s92_70 hw, wx_N132 hw, wx_a132 hw, wx_g92_71 hw, wx_s92_71 hw, wx_N133 hw, wx_a133 hw, wx_g92_72 hw, wx_s92_72 hw, wx_N134 hw, wx_a134 hw, wx_g92_73 hw, wx_s92_73 hw, wx_N135 hw, wx_a135 hw, wx_g92_75 hw, wx_s92_75 hw, wx_N136 hw, wx_a136 hw, List.not_mem_nil, false_implies, implies_true, nI_clamp, nI_add, Nat.reducePow, hp_bd, hp_bdi, hp_ts, hp_tn, hp_tsc, hp_tnc, Nat.reduceAdd, Nat.reduceSub, Nat.reduceMul, Nat.reduceLT, Nat.reduceLeDiff, Nat.reduceEqDiff, reduceIte, not_true_eq_false, not_false_eq_true, and_true, true_and, and_self, and_false, false_and, or_true, true_or, or_false, false_or, decide_true, decide_false, Bool.and_true, Bool.true_and, Bool.not_false, Bool.or_false, Bool.false_or, Bool.or_true, Bool.true_or, i01, k, k2, cl, hbi, cu, hui, p1, u1, hne, hs, n0, i0, j0, p2, q1, u2, q2, s1, q3, s2, q4]
      rw [st, la, b211_161, lb]
    · refine ⟨fun c j hc => ⟨rfl, ?_, rfl⟩, fun _ _ => ⟨rfl, rfl⟩, Nat.le_refl _⟩
      unfold gm_pp at hc
      rw [mh2_L, if_neg (fun e => by omega), mh1_L, if_neg (fun e => by omega)]
    · rw [mh2_L]
      show _ = va_cpy (gb_p G t).2.2 (gb_p G u).2.2 i j n k
      unfold va_cpy
      by_cases h : j ≤ k ∧ k < j + n
      · rw [if_pos ⟨rfl, by omega, by omega⟩, mh1_L, if_pos ⟨rfl, by omega⟩, if_pos h]
        have e1 : 60 * t + i + (60 * u + k - (60 * u + j)) = 60 * t + (i + (k - j)) := by omega
        rw [e1]
        exact p3 _ (by omega)
      · rw [if_neg (fun e => h (by omega)), mh1_L, if_neg (fun e => by omega), if_neg h]
        exact u3 k hk
    · rw [mh2_L, if_neg (fun e => by omega), mh1_L, if_neg (fun e => by omega)]
  · have q4 : (nI n ≤ nI ((gb_p G u).2.1 - j)) = False := eq_false (nI_ge (by omega) (by omega))
    rw [if_neg (fun q => by omega)]
    refine oM_id hR ?_
    simp only [b211_0, b211_5, b211_8, b211_13, b211_16, b211_18, b211_28, b211_38, b211_41, b211_56, b211_59, b211_64, b211_68, b211_73, b211_83, b211_94, b211_107, b211_121, b211_124, b211_161, b211_199, e211, wx_o92 hw, wx_k92 hw, wx_q92 hw, wx_g92_1 hw, wx_s92_1 hw, wx_N93 hw, wx_a93 hw, wx_g92_2 hw, wx_s92_2 hw, wx_N94 hw, wx_a94 hw, wx_g92_3 hw, wx_s92_3 hw, wx_N95 hw, wx_a95 hw, wx_g92_4 hw, wx_s92_4 hw, wx_N96 hw, wx_a96 hw, wx_g92_5 hw, wx_s92_5 hw, wx_N97 hw, wx_a97 hw, wx_g92_6 hw, wx_s92_6 hw, wx_N98 hw, wx_a98 hw, wx_g92_7 hw, wx_s92_7 hw, wx_N99 hw, wx_a99 hw, wx_g92_9 hw, wx_s92_9 hw, wx_N100 hw, wx_a100 hw, wx_g92_16 hw, wx_s92_16 hw, wx_N101 hw, wx_a101 hw, wx_g92_19 hw, wx_s92_19 hw, wx_N102 hw, wx_a102 hw, wx_g92_20 hw, wx_s92_20 hw, wx_N103 hw, wx_a103 hw, wx_g92_21 hw, wx_s92_21 hw, wx_N104 hw, wx_a104 hw, wx_g92_22 hw, wx_s92_22 hw, wx_N105 hw, wx_a105 hw, wx_g92_23 hw, wx_s92_23 hw, wx_N106 hw, wx_a106 hw, wx_g92_24 hw, wx_s92_24 hw, wx_N107 hw, wx_a107 hw, wx_g92_25 hw, wx_s92_25 hw, wx_N108 hw, wx_a108 hw, wx_g92_29 hw, wx_s92_29 hw, wx_N109 hw, wx_a109 hw, wx_g92_30 hw, wx_s92_30 hw, wx_N110 hw, wx_a110 hw, wx_g92_31 hw, wx_s92_31 hw, wx_N111 hw, wx_a111 hw, wx_g92_32 hw, wx_s92_32 hw, wx_N112 hw, wx_a112 hw, wx_g92_33 hw, wx_s92_33 hw, wx_N113 hw, wx_a113 hw, wx_g92_34 hw, wx_s92_34 hw, wx_N114 hw, wx_a114 hw, wx_g92_35 hw, wx_s92_35 hw, wx_N115 hw, wx_a115 hw, wx_g92_38 hw, wx_s92_38 hw, wx_N116 hw, wx_a116 hw, wx_g92_41 hw, wx_s92_41 hw, wx_N117 hw, wx_a117 hw, wx_g92_44 hw, wx_s92_44 hw, wx_N118 hw, wx_a118 hw, wx_g92_45 hw, wx_s92_45 hw, wx_N119 hw, wx_a119 hw, wx_g92_46 hw, wx_s92_46 hw, wx_N120 hw, wx_a120 hw, wx_g92_52 hw, wx_s92_52 hw, wx_N121 hw, wx_a121 hw, wx_g92_55 hw, wx_s92_55 hw, wx_N122 hw, wx_a122 hw, wx_g92_56 hw, wx_s92_56 hw, wx_N123 hw, wx_a123 hw, wx_g92_57 hw, wx_s92_57 hw, wx_N124 hw, wx_a124 hw, wx_g92_58 hw, wx_s92_58 hw, wx_N125 hw, wx_a125 hw, wx_g92_64 hw, wx_s92_64 hw, wx_N126 hw, wx_a126 hw, wx_g92_65 hw, wx_s92_65 hw, wx_N127 hw, wx_a127 hw, wx_g92_66 hw, wx_s92_66 hw, wx_N128 hw, wx_a128 hw, wx_g92_67 hw, wx_s92_67 hw, wx_N129 hw, wx_a129 hw, wx_g92_68 hw, wx_s92_68 hw, wx_N130 hw, wx_a130 hw, wx_g92_69 hw, wx_s92_69 hw, wx_N131 hw, wx_a131 hw, wx_g92_70 hw, wx_s92_70 hw, wx_N132 hw, wx_a132 hw, wx_g92_71 hw, wx_s92_71 hw, wx_N133 hw, wx_a133 hw, wx_g92_72 hw, wx_s92_72 hw, wx_N134 hw, wx_a134 hw, wx_g92_73 hw, wx_s92_73 hw, wx_N135 hw, wx_a135 hw, wx_g92_75 hw, wx_s92_75 hw, wx_N136 hw, wx_a136 hw, List.not_mem_nil, false_implies, implies_true, nI_clamp, nI_add, Nat.reducePow, hp_bd, hp_bdi, hp_ts, hp_tn, hp_tsc, hp_tnc, Nat.reduceAdd, Nat.reduceSub, Nat.reduceMul, Nat.reduceLT, Nat.reduceLeDiff, Nat.reduceEqDiff, reduceIte, not_true_eq_false, not_false_eq_true, and_true, true_and, and_self, and_false, false_and, or_true, true_or, or_false, false_or, decide_true, decide_false, Bool.and_true, Bool.true_and, Bool.not_false, Bool.or_false, Bool.false_or, Bool.or_true, Bool.true_or, i01, k, k2, cl, hbi, cu, hui, p1, u1, hne, hs, n0, i0, j0, p2, q1, u2, q2, s1, q3, s2, q4]
end M2
end
section
/-! ===== acts, in the reference ===== -/
def gm_rr (c j : Nat) : Prop := (c = 92 ∧ (j = 28 ∨ j = 74)) ∨ c = 109
def mLog (S T : mm_S) (l : List Nat) : Prop := sf_f (fun c j => (c = 92 ∧ j = 28) ∨ c = 109) S T ∧ mm_W T ∧ gm_r T l ∧ mm_n T = mm_n S ∧ mm_z T = mm_z S
def mAct (S : mm_S) (d y k : Nat) (x : Int32) (l : List Nat) (r : Int32 × List Nat) : Prop := ∃ T, mm_cl d y [.ref 92, .int (nI k), .int x] S = some (some (.int r.1), T) ∧ mLog S T (l ++ r.2)
/-- b, of kind k and with v, acts -/
def mA0 (S : mm_S) (b k v : Nat) : Prop := mm_M S 92 74 = nI b ∧ b < 6 ∧ mm_M S 93 b = nI k ∧ mm_M S 94 b = nI v
section MA
variable {S T U : mm_S} {d b e k v w : Nat} {x : Int32} {l m : List Nat}
theorem mg_tr (h : mLog S T l) (h2 : mLog T U m) : mLog S U m := ⟨sf_tr h.1 h2.1, h2.2.1, h2.2.2.1, h2.2.2.2.1.trans h.2.2.2.1, h2.2.2.2.2.trans h.2.2.2.2⟩
theorem mg_A (h : mLog S T l) (hy : mA0 S b k v) : mA0 T b k v := ⟨(h.1.1 92 74 (fun (q : (92 = 92 ∧ 74 = 28) ∨ 92 = 109) => by omega)).1.trans hy.1, hy.2.1, (h.1.1 93 b (fun (q : (93 = 92 ∧ b = 28) ∨ 93 = 109) => by omega)).1.trans hy.2.2.1, (h.1.1 94 b (fun (q : (94 = 92 ∧ b = 28) ∨ 94 = 109) => by omega)).1.trans hy.2.2.2⟩
theorem s198n (hw : mm_W S) (hr : gm_r S l) (hl : l.length < 20) {c : Nat} : ∃ T, mm_cl d 198 [.ref 92, .int (nI c)] S = some (none, T) ∧ mLog S T (l ++ [c]) := by
  obtain ⟨h0, h1⟩ := hr
  have i1 : mm_inb (nI l.length) 20 = true := hp_inb (by omega) (by omega)
  have c1 : (nI l.length).toNatClampNeg = l.length := nI_clamp (by omega)
  have l1 : (nI 20 ≤ nI l.length) = False := eq_false (nI_ge (by omega) (by decide))
  refine ⟨mm_uM (mm_uM S 109 l.length (nI c)) 92 28 (nI (l.length + 1)), ?_, sf_tr (sf_uM (Or.inr rfl)) (sf_uM (Or.inl ⟨rfl, rfl⟩)), hw, ⟨?_, fun i hi => ?_⟩, rfl, rfl⟩
  · simp only [b198_0, b198_9, b198_19, b198_21, e198, wx_o92 hw, wx_k92 hw, wx_q92 hw, wx_g92_1 hw, wx_s92_1 hw, wx_N93 hw, wx_a93 hw, wx_g92_2 hw, wx_s92_2 hw, wx_N94 hw, wx_a94 hw, wx_g92_3 hw, wx_s92_3 hw, wx_N95 hw, wx_a95 hw, wx_g92_4 hw, wx_s92_4 hw, wx_N96 hw, wx_a96 hw, wx_g92_5 hw, wx_s92_5 hw, wx_N97 hw, wx_a97 hw, wx_g92_6 hw, wx_s92_6 hw, wx_N98 hw, wx_a98 hw, wx_g92_7 hw, wx_s92_7 hw, wx_N99 hw, wx_a99 hw, wx_g92_9 hw, wx_s92_9 hw, wx_N100 hw, wx_a100 hw, wx_g92_16 hw, wx_s92_16 hw, wx_N101 hw, wx_a101 hw, wx_g92_19 hw, wx_s92_19 hw, wx_N102 hw, wx_a102 hw, wx_g92_20 hw, wx_s92_20 hw, wx_N103 hw, wx_a103 hw, wx_g92_21 hw, wx_s92_21 hw, wx_N104 hw, wx_a104 hw, wx_g92_22 hw, wx_s92_22 hw, wx_N105 hw, wx_a105 hw, wx_g92_23 hw, wx_s92_23 hw, wx_N106 hw, wx_a106 hw, wx_g92_24 hw, wx_s92_24 hw, wx_N107 hw, wx_a107 hw, wx_g92_25 hw, wx_s92_25 hw, wx_N108 hw, wx_a108 hw, wx_g92_29 hw, wx_s92_29 hw, wx_N109 hw, wx_a109 hw, wx_g92_30 hw, wx_s92_30 hw, wx_N110 hw, wx_a110 hw, wx_g92_31 hw, wx_s92_31 hw, wx_N111 hw, wx_a111 hw, wx_g92_32 hw, wx_s92_32 hw, wx_N112 hw, wx_a112 hw, wx_g92_33 hw, wx_s92_33 hw, wx_N113 hw, wx_a113 hw, wx_g92_34 hw, wx_s92_34 hw, wx_N114 hw, wx_a114 hw, wx_g92_35 hw, wx_s92_35 hw, wx_N115 hw, wx_a115 hw, wx_g92_38 hw, wx_s92_38 hw, wx_N116 hw, wx_a116 hw, wx_g92_41 hw, wx_s92_41 hw, wx_N117 hw, wx_a117 hw, wx_g92_44 hw, wx_s92_44 hw, wx_N118 hw, wx_a118 hw, wx_g92_45 hw, wx_s92_45 hw, wx_N119 hw, wx_a119 hw, wx_g92_46 hw, wx_s92_46 hw, wx_N120 hw, wx_a120 hw, wx_g92_52 hw, wx_s92_52 hw, wx_N121 hw, wx_a121 hw, wx_g92_55 hw, wx_s92_55 hw, wx_N122 hw, wx_a122 hw, wx_g92_56 hw, wx_s92_56 hw, wx_N123 hw, wx_a123 hw, wx_g92_57 hw, wx_s92_57 hw, wx_N124 hw, wx_a124 hw, wx_g92_58 hw, wx_s92_58 hw, wx_N125 hw, wx_a125 hw, wx_g92_64 hw, wx_s92_64 hw, wx_N126 hw, wx_a126 hw, wx_g92_65 hw, wx_s92_65 hw, wx_N127 hw, wx_a127 hw, wx_g92_66 hw, wx_s92_66 hw, wx_N128 hw, wx_a128 hw, wx_g92_67 hw, wx_s92_67 hw, wx_N129 hw, wx_a129 hw, wx_g92_68 hw, wx_s92_68 hw, wx_N130 hw, wx_a130 hw, wx_g92_69 hw, wx_s92_69 hw, wx_N131 hw, wx_a131 hw, wx_g92_70 hw, wx_s92_70 hw, wx_N132 hw, wx_a132 hw, wx_g92_71 hw, wx_s92_71 hw, wx_N133 hw, wx_a133 hw, wx_g92_72 hw, wx_s92_72 hw, wx_N134 hw, wx_a134 hw, wx_g92_73 hw, wx_s92_73 hw, wx_N135 hw, wx_a135 hw, wx_g92_75 hw, wx_s92_75 hw, wx_N136 hw, wx_a136 hw, List.not_mem_nil, false_implies, implies_true, nI_clamp, nI_add, Nat.reducePow, hp_bd, hp_bdi, hp_ts, hp_tn, hp_tsc, hp_tnc, Nat.reduceAdd, Nat.reduceSub, Nat.reduceMul, Nat.reduceLT, Nat.reduceLeDiff, Nat.reduceEqDiff, reduceIte, not_true_eq_false, not_false_eq_true, and_true, true_and, and_self, and_false, false_and, or_true, true_or, or_false, false_or, decide_true, decide_false, Bool.and_true, Bool.true_and, Bool.not_false, Bool.or_false, Bool.false_or, Bool.or_true, Bool.true_or, hp_MuM, hp_LuL, hp_RuR, hp_McpM, hp_LcpL, hp_LuM, hp_RuM, hp_KuM, hp_NuM, hp_nuM, hp_zuM, hp_ouM, hp_auM, hp_kuM, hp_guM, hp_MuL, hp_RuL, hp_KuL, hp_NuL, hp_nuL, hp_zuL, hp_ouL, hp_auL, hp_kuL, hp_guL, hp_MuR, hp_LuR, hp_KuR, hp_NuR, hp_nuR, hp_zuR, hp_ouR, hp_auR, hp_kuR, hp_LcpM, hp_RcpM, hp_KcpM, hp_NcpM, hp_ncpM, hp_zcpM, hp_ocpM, hp_acpM, hp_kcpM, hp_gcpM, hp_McpL, hp_RcpL, hp_KcpL, hp_NcpL, hp_ncpL, hp_zcpL, hp_ocpL, hp_acpL, hp_kcpL, hp_gcpL, hp_MwM, hp_LwM, hp_RwM, hp_KwM, hp_NwM, hp_nwM, hp_zwM, hp_owM, hp_awM, hp_kwM, hp_gwM, hp_MwR, hp_LwR, hp_RwR, hp_KwR, hp_NwR, hp_nwR, hp_zwR, hp_owR, hp_awR, hp_kwR, hp_MwL, hp_LwL, hp_RwL, hp_KwL, hp_NwL, hp_nwL, hp_zwL, hp_owL, hp_awL, hp_kwL, hp_gwL, hp_w2M, hp_w2R, hp_w2L, h0, i1, c1, l1]
  · rw [rds, List.length_append]; rfl
  · rw [List.length_append] at hi
    rw [rdn (by omega), rdk]
    by_cases e : i = l.length
    · rw [if_pos e, e, List.getD_eq_getElem?_getD, List.getElem?_append_right (Nat.le_refl _), Nat.sub_self]; rfl
    · have hi2 : i < l.length := by
        have : [c].length = 1 := rfl
        omega
      rw [if_neg e, List.getD_eq_getElem?_getD, List.getElem?_append_left hi2, ← List.getD_eq_getElem?_getD]
      exact h1 i hi2
theorem nkk {a c : Nat} (ha : a < 7) (hc : c < 7) (h : a ≠ c) : ¬ nI a = nI c := fun e => h ((nI_eq (by omega) (by omega)).mp e)
/-- bids at the level 0 -/
theorem b200z (hw : mm_W S) (hr : gm_r S l) (hl : l.length < 20) (hy : mA0 S b k v) : mAct S (d + 1) 200 0 x l (x + nI b, [10]) := by
  obtain ⟨T, g1, g2⟩ := s198n (d := d) (c := 10) hw hr hl
  have yT := mg_A g2 hy
  refine ⟨T, ?_, g2⟩
  rw [e200, b200_0, if_neg (nkk (by decide) (by decide) (by decide)), b200_23, if_neg (nkk (by decide) (by decide) (by decide)), b200_45, if_neg (nkk (by decide) (by decide) (by decide)), b200_77, if_pos (by decide), b200_91 (wx_k92 hw), g1, hp_bd, hp_tn, b200_97 (wx_o92 g2.2.1), yT.1]
theorem b200a (hw : mm_W S) (hr : gm_r S l) (hl : l.length < 20) (hk : k = 1 ∨ k = 3) (hy : mA0 S b e v) : mAct S (d + 2) 200 k x l (x + nI b, [10]) := by
  obtain ⟨T, g1, g2⟩ := b200z (d := d) (x := x) hw hr hl hy
  refine ⟨T, ?_, g2⟩
  have k199 := s199_a (d := d + 1) (S := S) (k := k) (by omega) (by omega)
  rw [e200, b200_0, if_neg (nkk (by omega) (by decide) (by omega)), b200_23, if_neg (nkk (by omega) (by decide) (by omega)), b200_45, if_neg (nkk (by omega) (by decide) (by omega)), b200_77, if_neg (nI_ge (by omega) (by omega)), b200_81, k199, hp_bd, hp_tsc, b200_86 (wx_k92 hw), g1, hp_bd, hp_ts, b200_90]
theorem b200c (hw : mm_W S) (hr : gm_r S l) (hl : l.length + 2 ≤ 20) (hy : mA0 S b e v) : mAct S (d + 2) 200 2 x l (x * nI 3 + nI b, [30, 10]) := by
  obtain ⟨T, g1, g2⟩ := s198n (d := d + 1) (c := 30) hw hr (by omega)
  have yT := mg_A g2 hy
  obtain ⟨U, g3, g4⟩ := b200z (d := d) (x := x * nI 3) g2.2.1 g2.2.2.1 (by rw [len1]; omega) yT
  rw [ll] at g4
  have k199 := s199_a (d := d + 1) (S := T) (k := 2) (by omega) (by omega)
  refine ⟨U, ?_, mg_tr g2 g4⟩
  rw [e200, b200_0, if_pos rfl, b200_5 (wx_k92 hw), g1, hp_bd, hp_tn, b200_11, k199, hp_bd, hp_tsc, b200_16 (wx_k92 g2.2.1), g3, hp_bd, hp_ts, b200_22]
theorem bid_m (hw : mm_W S) (hr : gm_r S l) (hl : l.length + 2 ≤ 20) (hk : k < 7) (hy : mA0 S b e v) : mAct S (d + 3) 200 k x l (ab_bid k (nI b) (nI v) x) := by
  rcases k7c hk with rfl | rfl | rfl | rfl | rfl | rfl | rfl
  · exact b200z hw hr (by omega) hy
  · exact b200a hw hr (by omega) (Or.inl rfl) hy
  · exact b200c hw hr hl hy
  · exact b200a hw hr (by omega) (Or.inr rfl) hy
  · obtain ⟨T, g1, g2⟩ := s198n (d := d + 2) (c := 50) hw hr (by omega)
    have yT := mg_A g2 hy
    obtain ⟨U, g3, g4⟩ := b200a (d := d) (k := 1) (x := x) g2.2.1 g2.2.2.1 (by rw [len1]; omega) (Or.inl rfl) yT
    rw [ll] at g4
    have k199 := s199_b (d := d + 2) (S := T) (k := 4) (by omega) (by omega)
    refine ⟨U, ?_, mg_tr g2 g4⟩
    rw [e200, b200_0, if_neg (nkk (by decide) (by decide) (by decide)), b200_23, if_pos rfl, b200_28 (wx_k92 hw), g1, hp_bd, hp_tn, b200_34, k199, hp_bd, hp_tsc, b200_39 (wx_k92 g2.2.1), g3, hp_bd, hp_ts, b200_43]
    rfl
  · obtain ⟨T, g1, g2⟩ := b200c (d := d) (x := x) hw hr hl hy
    have k199 := s199_b (d := d + 2) (S := S) (k := 5) (by omega) (by omega)
    refine ⟨T, ?_, g2⟩
    rw [e200, b200_0, if_neg (nkk (by decide) (by decide) (by decide)), b200_23, if_neg (nkk (by decide) (by decide) (by decide)), b200_45, if_neg (nkk (by decide) (by decide) (by decide)), b200_77, if_neg (by decide), b200_81, k199, hp_bd, hp_tsc, b200_86 (wx_k92 hw), g1, hp_bd, hp_ts, b200_90]
    rfl
  · obtain ⟨T, g1, g2⟩ := s198n (d := d + 2) (c := 71) hw hr (by omega)
    have yT := mg_A g2 hy
    obtain ⟨U, g3, g4⟩ := b200a (d := d) (k := 3) (x := x) g2.2.1 g2.2.2.1 (by rw [len1]; omega) (Or.inr rfl) yT
    have yU := mg_A g4 yT
    have wU := g4.2.1
    rw [ll] at g4
    have k199 := s199_b (d := d + 2) (S := T) (k := 6) (by omega) (by omega)
    refine ⟨U, ?_, mg_tr g2 g4⟩
    rw [e200, b200_0, if_neg (nkk (by decide) (by decide) (by decide)), b200_23, if_neg (nkk (by decide) (by decide) (by decide)), b200_45, if_pos rfl, b200_51 (wx_k92 hw), g1, hp_bd, hp_tn, b200_57, k199, hp_bd, hp_tsc, b200_62 (wx_k92 g2.2.1), g3, hp_bd, hp_ts, b200_66 (wx_o92 wU) (wx_s92_2 wU) (by rw [yU.1, wx_g92_2 wU, wx_N94 wU]; exact hp_inb hy.2.1 (by have := hy.2.1; omega)) (by rw [wx_g92_2 wU]; exact wx_a94 wU), wx_g92_2 wU, yU.1, nI_clamp (by have := hy.2.1; omega), yU.2.2.2]
    rfl
/-- waits at the level 0 -/
theorem b201z (hw : mm_W S) (hr : gm_r S l) (hl : l.length + 3 ≤ 20) (hk : k < 7) (hy : mA0 S b k v) : mAct S (d + 4) 201 0 x l (ab_w0 k (nI b) (nI v) x) := by
  obtain ⟨T, g1, g2⟩ := s198n (d := d + 3) (c := 11) hw hr (by omega)
  have yT := mg_A g2 hy
  have wT := g2.2.1
  obtain ⟨U, g3, g4⟩ := bid_m (d := d) (k := k) (x := x) g2.2.1 g2.2.2.1 (by rw [len1]; omega) hk yT
  have yU := mg_A g4 yT
  have wU := g4.2.1
  rw [ll] at g4
  have hb := hy.2.1
  refine ⟨U, ?_, mg_tr g2 g4⟩
  rw [e201, b201_0, if_neg (nkk (by decide) (by decide) (by decide)), b201_24, if_neg (nkk (by decide) (by decide) (by decide)), b201_47, if_neg (nkk (by decide) (by decide) (by decide)), b201_81, if_pos (by decide), b201_95 (wx_k92 hw), g1, hp_bd, hp_tn, b201_101 (wx_o92 wT) (wx_s92_1 wT) (by rw [yT.1, wx_g92_1 wT, wx_N93 wT]; exact hp_inb hb (by omega)) (by rw [wx_g92_1 wT]; exact wx_a93 wT) (wx_k92 wT), wx_g92_1 wT, yT.1, nI_clamp (by omega), yT.2.2.1, g3, hp_bd, hp_ts, b201_115 (wx_o92 wU) (wx_s92_2 wU) (by rw [yU.1, wx_g92_2 wU, wx_N94 wU]; exact hp_inb hb (by omega)) (by rw [wx_g92_2 wU]; exact wx_a94 wU), wx_g92_2 wU, yU.1, nI_clamp (by omega), yU.2.2.2]
  rfl
theorem b201a (hw : mm_W S) (hr : gm_r S l) (hl : l.length + 3 ≤ 20) (hk : k < 7) (hy : mA0 S b k v) (he : e = 2 ∨ e = 3) : mAct S (d + 5) 201 e x l (ab_w0 k (nI b) (nI v) x) := by
  obtain ⟨T, g1, g2⟩ := b201z (d := d) (x := x) hw hr hl hk hy
  have k199 := s199_a (d := d + 4) (S := S) (k := e) (by omega) (by omega)
  refine ⟨T, ?_, g2⟩
  rw [e201, b201_0, if_neg (nkk (by omega) (by decide) (by omega)), b201_24, if_neg (nkk (by omega) (by decide) (by omega)), b201_47, if_neg (nkk (by omega) (by decide) (by omega)), b201_81, if_neg (nI_ge (by omega) (by omega)), b201_85, k199, hp_bd, hp_tsc, b201_90 (wx_k92 hw), g1, hp_bd, hp_ts, b201_94]
theorem b201b (hw : mm_W S) (hr : gm_r S l) (hl : l.length + 4 ≤ 20) (hk : k < 7) (hy : mA0 S b k v) : mAct S (d + 5) 201 1 x l ((ab_w0 k (nI b) (nI v) x).1 ^^^ nI 6, 20 :: (ab_w0 k (nI b) (nI v) x).2) := by
  obtain ⟨T, g1, g2⟩ := s198n (d := d + 4) (c := 20) hw hr (by omega)
  have yT := mg_A g2 hy
  obtain ⟨U, g3, g4⟩ := b201z (d := d) (x := x) g2.2.1 g2.2.2.1 (by rw [len1]; omega) hk yT
  rw [ll] at g4
  have k199 := s199_a (d := d + 4) (S := T) (k := 1) (by omega) (by omega)
  refine ⟨U, ?_, mg_tr g2 g4⟩
  rw [e201, b201_0, if_pos rfl, b201_5 (wx_k92 hw), g1, hp_bd, hp_tn, b201_11, k199, hp_bd, hp_tsc, b201_16 (wx_k92 g2.2.1), g3, hp_bd, hp_ts, b201_20]
theorem wait_m (hw : mm_W S) (hr : gm_r S l) (hl : l.length + 5 ≤ 20) (hk : k < 7) (hy : mA0 S b k v) : mAct S (d + 6) 201 k x l (ab_wait k (nI b) (nI v) x) := by
  rcases k7c hk with rfl | rfl | rfl | rfl | rfl | rfl | rfl
  · exact b201z hw hr (by omega) hk hy
  · exact b201b hw hr (by omega) hk hy
  · exact b201a hw hr (by omega) hk hy (Or.inl rfl)
  · exact b201a hw hr (by omega) hk hy (Or.inr rfl)
  · obtain ⟨T, g1, g2⟩ := s198n (d := d + 5) (c := 51) hw hr (by omega)
    have yT := mg_A g2 hy
    obtain ⟨U, g3, g4⟩ := b201b (d := d) (x := x + nI 1) g2.2.1 g2.2.2.1 (by rw [len1]; omega) hk yT
    rw [ll] at g4
    have k199 := s199_b (d := d + 5) (S := T) (k := 4) (by omega) (by omega)
    refine ⟨U, ?_, mg_tr g2 g4⟩
    rw [e201, b201_0, if_neg (nkk (by decide) (by decide) (by decide)), b201_24, if_pos rfl, b201_29 (wx_k92 hw), g1, hp_bd, hp_tn, b201_35, k199, hp_bd, hp_tsc, b201_40 (wx_k92 g2.2.1), g3, hp_bd, hp_ts, b201_46]
    rfl
  · obtain ⟨T, g1, g2⟩ := b201a (d := d) (e := 2) (x := x) hw hr (by omega) hk hy (Or.inl rfl)
    have k199 := s199_b (d := d + 5) (S := S) (k := 5) (by omega) (by omega)
    refine ⟨T, ?_, g2⟩
    rw [e201, b201_0, if_neg (nkk (by decide) (by decide) (by decide)), b201_24, if_neg (nkk (by decide) (by decide) (by decide)), b201_47, if_neg (nkk (by decide) (by decide) (by decide)), b201_81, if_neg (by decide), b201_85, k199, hp_bd, hp_tsc, b201_90 (wx_k92 hw), g1, hp_bd, hp_ts, b201_94]
    rfl
  · obtain ⟨T, g1, g2⟩ := s198n (d := d + 5) (c := 70) hw hr (by omega)
    have yT := mg_A g2 hy
    obtain ⟨U, g3, g4⟩ := b201a (d := d) (e := 3) (x := x) g2.2.1 g2.2.2.1 (by rw [len1]; omega) hk yT (Or.inr rfl)
    have yU := mg_A g4 yT
    have wU := g4.2.1
    obtain ⟨V, g5, g6⟩ := b200a (d := d + 3) (k := 3) (x := nI 2) g4.2.1 g4.2.2.1 (by
      have h2 : (ab_w0 6 (nI b) (nI v) x).2.length = 3 := rfl
      rw [List.length_append, len1, h2]; omega) (Or.inr rfl) yU
    rw [ll] at g4
    have g6' : mLog U V (l ++ (70 :: (ab_w0 6 (nI b) (nI v) x).2 ++ [10])) := by
      have e : l ++ [70] ++ (ab_w0 6 (nI b) (nI v) x).2 ++ [10] = l ++ (70 :: (ab_w0 6 (nI b) (nI v) x).2 ++ [10]) := by rw [ll, List.append_assoc]
      rw [← e]; exact g6
    have k199 := s199_b (d := d + 5) (S := T) (k := 6) (by omega) (by omega)
    have k199U := s199_b (d := d + 5) (S := U) (k := 6) (by omega) (by omega)
    refine ⟨V, ?_, mg_tr g2 (mg_tr g4 g6')⟩
    rw [e201, b201_0, if_neg (nkk (by decide) (by decide) (by decide)), b201_24, if_neg (nkk (by decide) (by decide) (by decide)), b201_47, if_pos rfl, b201_53 (wx_k92 hw), g1, hp_bd, hp_tn, b201_59, k199, hp_bd, hp_tsc, b201_64 (wx_k92 g2.2.1), g3, hp_bd, hp_ts, b201_68, k199U, hp_bd, hp_tsc, b201_75 (wx_k92 wU), g5, hp_bd, hp_tsc, b201_79]
    rfl
/-- tells at the level 0 -/
theorem b202z (hw : mm_W S) (hr : gm_r S l) (hl : l.length + 6 ≤ 20) (hk : k < 7) (hy : mA0 S b k v) : mAct S (d + 7) 202 0 x l (ab_t0 k (nI b) (nI v) x) := by
  obtain ⟨T, g1, g2⟩ := s198n (d := d + 6) (c := 12) hw hr (by omega)
  have yT := mg_A g2 hy
  have wT := g2.2.1
  obtain ⟨U, g3, g4⟩ := wait_m (d := d) (k := k) (x := x) g2.2.1 g2.2.2.1 (by rw [len1]; omega) hk yT
  rw [ll] at g4
  have hb := hy.2.1
  refine ⟨U, ?_, mg_tr g2 g4⟩
  rw [e202, b202_0, if_neg (nkk (by decide) (by decide) (by decide)), b202_38, if_neg (nkk (by decide) (by decide) (by decide)), b202_64, if_pos (by decide), b202_78 (wx_k92 hw), g1, hp_bd, hp_tn, b202_84 (wx_o92 wT) (wx_s92_1 wT) (by rw [yT.1, wx_g92_1 wT, wx_N93 wT]; exact hp_inb hb (by omega)) (by rw [wx_g92_1 wT]; exact wx_a93 wT) (wx_k92 wT), wx_g92_1 wT, yT.1, nI_clamp (by omega), yT.2.2.1, g3, hp_bd, hp_ts, b202_98]
  rfl
theorem b202a (hw : mm_W S) (hr : gm_r S l) (hl : l.length + 6 ≤ 20) (hk : k < 7) (hy : mA0 S b k v) (he : e = 1 ∨ e = 2) : mAct S (d + 8) 202 e x l (ab_t0 k (nI b) (nI v) x) := by
  obtain ⟨T, g1, g2⟩ := b202z (d := d) (x := x) hw hr hl hk hy
  have k199 := s199_a (d := d + 7) (S := S) (k := e) (by omega) (by omega)
  refine ⟨T, ?_, g2⟩
  rw [e202, b202_0, if_neg (nkk (by omega) (by decide) (by omega)), b202_38, if_neg (nkk (by omega) (by decide) (by omega)), b202_64, if_neg (nI_ge (by omega) (by omega)), b202_68, k199, hp_bd, hp_tsc, b202_73 (wx_k92 hw), g1, hp_bd, hp_ts, b202_77]
theorem b202b (hw : mm_W S) (hr : gm_r S l) (hl : l.length + 12 ≤ 20) (hk : k < 7) (hy : mA0 S b k v) : mAct S (d + 8) 202 3 x l ((ab_t0 k (nI b) (nI v) x).1 + (ab_wait k (nI b) (nI v) (nI 1)).1, 40 :: (ab_t0 k (nI b) (nI v) x).2 ++ (ab_wait k (nI b) (nI v) (nI 1)).2) := by
  obtain ⟨T, g1, g2⟩ := s198n (d := d + 7) (c := 40) hw hr (by omega)
  have yT := mg_A g2 hy
  obtain ⟨U, g3, g4⟩ := b202z (d := d) (x := x) g2.2.1 g2.2.2.1 (by rw [len1]; omega) hk yT
  have yU := mg_A g4 yT
  have wU := g4.2.1
  have hb := hy.2.1
  have hl2 : (ab_t0 k (nI b) (nI v) x).2.length ≤ 6 := by
    have := @wait_len k x hk (nI b) (nI v)
    show (12 :: (ab_wait k (nI b) (nI v) x).2).length ≤ 6
    rw [List.length_cons]; omega
  obtain ⟨V, g5, g6⟩ := wait_m (d := d + 1) (x := nI 1) g4.2.1 g4.2.2.1 (by rw [List.length_append, len1]; omega) hk yU
  rw [ll] at g4
  have g6' : mLog U V (l ++ (40 :: (ab_t0 k (nI b) (nI v) x).2 ++ (ab_wait k (nI b) (nI v) (nI 1)).2)) := by
    have e : l ++ [40] ++ (ab_t0 k (nI b) (nI v) x).2 ++ (ab_wait k (nI b) (nI v) (nI 1)).2 = l ++ (40 :: (ab_t0 k (nI b) (nI v) x).2 ++ (ab_wait k (nI b) (nI v) (nI 1)).2) := by rw [ll, List.append_assoc]
    rw [← e]; exact g6
  have k199 := s199_a (d := d + 7) (S := T) (k := 3) (by omega) (by omega)
  refine ⟨V, ?_, mg_tr g2 (mg_tr g4 g6')⟩
  rw [e202, b202_0, if_pos rfl, b202_5 (wx_k92 hw), g1, hp_bd, hp_tn, b202_11, k199, hp_bd, hp_tsc, b202_16 (wx_k92 g2.2.1), g3, hp_bd, hp_ts, b202_20 (wx_o92 wU) (wx_s92_1 wU) (by rw [yU.1, wx_g92_1 wU, wx_N93 wU]; exact hp_inb hb (by omega)) (by rw [wx_g92_1 wU]; exact wx_a93 wU) (wx_k92 wU), wx_g92_1 wU, yU.1, nI_clamp (by omega), yU.2.2.1, g5, hp_bd, hp_tsc, b202_36]
theorem tell_m (hw : mm_W S) (hr : gm_r S l) (hl : l.length + 12 ≤ 20) (hk : k < 7) (hy : mA0 S b k v) : mAct S (d + 9) 202 k x l (ab_tell k (nI b) (nI v) x) := by
  rcases k7c hk with rfl | rfl | rfl | rfl | rfl | rfl | rfl
  · exact b202z hw hr (by omega) hk hy
  · exact b202a hw hr (by omega) hk hy (Or.inl rfl)
  · exact b202a hw hr (by omega) hk hy (Or.inr rfl)
  · exact b202b hw hr (by omega) hk hy
  · obtain ⟨T, g1, g2⟩ := b202a (d := d) (e := 1) (x := x) hw hr (by omega) hk hy (Or.inl rfl)
    have k199 := s199_b (d := d + 8) (S := S) (k := 4) (by omega) (by omega)
    refine ⟨T, ?_, g2⟩
    rw [e202, b202_0, if_neg (nkk (by decide) (by decide) (by decide)), b202_38, if_neg (nkk (by decide) (by decide) (by decide)), b202_64, if_neg (by decide), b202_68, k199, hp_bd, hp_tsc, b202_73 (wx_k92 hw), g1, hp_bd, hp_ts, b202_77]
    rfl
  · obtain ⟨T, g1, g2⟩ := s198n (d := d + 8) (c := 60) hw hr (by omega)
    have yT := mg_A g2 hy
    have wT := g2.2.1
    obtain ⟨U, g3, g4⟩ := b202a (d := d) (e := 2) (x := x - nI b) g2.2.1 g2.2.2.1 (by rw [len1]; omega) hk yT (Or.inr rfl)
    rw [ll] at g4
    have k199 := s199_b (d := d + 8) (S := T) (k := 5) (by omega) (by omega)
    refine ⟨U, ?_, mg_tr g2 g4⟩
    rw [e202, b202_0, if_neg (nkk (by decide) (by decide) (by decide)), b202_38, if_pos rfl, b202_43 (wx_k92 hw), g1, hp_bd, hp_tn, b202_49, k199, hp_bd, hp_tsc, b202_54 (wx_o92 wT) (wx_k92 wT), yT.1, g3, hp_bd, hp_ts, b202_63]
    rfl
  · obtain ⟨T, g1, g2⟩ := b202b (d := d) (x := x) hw hr hl hk hy
    have k199 := s199_b (d := d + 8) (S := S) (k := 6) (by omega) (by omega)
    refine ⟨T, ?_, g2⟩
    rw [e202, b202_0, if_neg (nkk (by decide) (by decide) (by decide)), b202_38, if_neg (nkk (by decide) (by decide) (by decide)), b202_64, if_neg (by decide), b202_68, k199, hp_bd, hp_tsc, b202_73 (wx_k92 hw), g1, hp_bd, hp_ts, b202_77]
    rfl
end MA
section MAD
variable {S T U : mm_S} {G : gb_G} {d b e k v w : Nat} {x a y : Int32} {l m : List Nat}
theorem RM_r (ok : gb_ok G) (h : sf_f gm_rr S T) (hw : mm_W T) (hR : RM S G) (ht : gm_r T l) : RM T (gS_r G l) := by
  obtain ⟨-, h1, h2, h3, h4, h5, h6, h7⟩ := hR
  have g : ∀ c j, ¬ ((c = 92 ∧ (j = 28 ∨ j = 74)) ∨ c = 109) → mm_M T c j = mm_M S c j := fun c j q => (h.1 c j q).1
  exact ⟨hw, mt_X ok.1.1.1 (row_le ok.1.1 ok.1.2.1) (fun c j q => g c j (by unfold nX at q; omega)) h1, mt_i (fun c j q => g c j (by omega)) h2, mt_s (fun c j q => g c j (by omega)) h3, mt_t (fun c j q => g c j (by omega)) h4, mt_p (fun c j q => g c j (by omega)) (fun j => (h.1 112 j (by unfold gm_rr; omega)).2.1) h5, ht, mt_c (fun c j q => g c j (by omega)) h7⟩
theorem mrr_0 (h : sf_f gm_rr S T) : sf_f gm_0 S T := sf_mo h (fun c j h => by unfold gm_rr at h; unfold gm_0; omega)
theorem m_27 (ok : gb_ok G) (hR : RM S G) : oM S (d + 10) 203 [.ref 92, .int x, .int a, .int y] (.int (op_27 G x a y).1) (op_27 G x a y).2 := by
  have hw := hR.1
  have hk : gK G ≤ 6 := ok.1.1.1
  have f0 : sf_f gm_rr S (mm_uM S 92 28 (nI 0)) := sf_uM (Or.inl ⟨rfl, Or.inl rfl⟩)
  have w0 : mm_W (mm_uM S 92 28 (nI 0)) := hw
  have r0 : gm_r (mm_uM S 92 28 (nI 0)) [] := ⟨rds, fun i hi => absurd hi (Nat.not_lt_zero i)⟩
  have R0 := RM_r ok f0 w0 hR r0
  have ok0 : gb_ok (gS_r G []) := ok_r ok (by decide) (fun b hb => by cases hb)
  have st : mm_cl (d + 10) 203 [.ref 92, .int x, .int a, .int y] S = mm_bd (mm_cl (d + 9) 129 [.ref 92, .int x] (mm_uM S 92 28 (nI 0))) (fun v S2 => mm_ex (d + 10) 203 10 [.ref 92, .int x, .int a, .int y] (v.toList ++ []) S2) := by
    rw [e203, b203_0 (wx_o92 hw) (wx_k92 hw)]
  rcases kw_c hk x with ⟨e, h⟩ | ⟨b, hb, e, rfl⟩
  · have k := m129n (G := gS_r G []) (d := d + 8) ok0 R0 e
    have eo : op_27 G x a y = (nI 0, gS_r G []) := by unfold op_27; simp only [e]
    rw [eo]
    refine ⟨_, ?_, R0, mrr_0 f0, rfl, rfl⟩
    rw [st, k, hp_bd, hp_ts, b203_10, if_pos rfl, b203_22]
  have k := m129s (G := gS_r G []) (d := d + 8) ok0 R0 hb
  have hk7 : ab_ki (gP G) b < 7 := (ok.1.1.2.2.2.1 b hb).1
  have hb6 : b < 6 := by omega
  have k128 : mm_cl (d + 9) 128 [.int a, .int (nI 0), .int (nI 2)] (mm_uM S 92 28 (nI 0)) = some (some (.int (if a < nI 0 ∨ nI 2 < a then nI 0 else nI 1)), mm_uM S 92 28 (nI 0)) := s128
  have st2 : mm_cl (d + 10) 203 [.ref 92, .int (nI b), .int a, .int y] S = mm_ex (d + 10) 203 19 [.ref 92, .int (nI b), .int a, .int y] [.int (if a < nI 0 ∨ nI 2 < a then nI 0 else nI 1)] (mm_uM S 92 28 (nI 0)) := by
    rw [st, k, hp_bd, hp_ts, b203_10, if_neg i01, b203_13, k128, hp_bd, hp_ts]
  have f1 : sf_f gm_rr S (mm_uM (mm_uM S 92 28 (nI 0)) 92 74 (nI b)) := sf_tr f0 (sf_uM (Or.inl ⟨rfl, Or.inr rfl⟩))
  have w1 : mm_W (mm_uM (mm_uM S 92 28 (nI 0)) 92 74 (nI b)) := hw
  have r1 : gm_r (mm_uM (mm_uM S 92 28 (nI 0)) 92 74 (nI b)) [] := ⟨(rdn (by omega)).trans rds, fun i hi => absurd hi (Nat.not_lt_zero i)⟩
  have p1 := hR.2.1.1.2.1 b hb
  have y1 : mA0 (mm_uM (mm_uM S 92 28 (nI 0)) 92 74 (nI b)) b (ab_ki (gP G) b) (ab_v (gP G) b) := ⟨rds, hb6, (rdn (by omega)).trans ((rdn (by omega)).trans p1.1), (rdn (by omega)).trans ((rdn (by omega)).trans p1.2.1)⟩
  have cl : (nI b).toNatClampNeg = b := nI_clamp (by omega)
  have hbi : mm_inb (nI b) 6 = true := hp_inb hb6 (by omega)
  have k93 : mm_M (mm_uM (mm_uM S 92 28 (nI 0)) 92 74 (nI b)) 93 b = nI (ab_ki (gP G) b) := y1.2.2.1
  have fin : ∀ {r : Int32 × List Nat} {U : mm_S}, mm_cl (d + 10) 203 [.ref 92, .int (nI b), .int a, .int y] S = some (some (.int r.1), U) → mLog (mm_uM (mm_uM S 92 28 (nI 0)) 92 74 (nI b)) U ([] ++ r.2) → oM S (d + 10) 203 [.ref 92, .int (nI b), .int a, .int y] (.int r.1) (gS_r G r.2) := by
    intro r U h1 h2
    have f := sf_tr f1 (sf_mo h2.1 (fun c j (h : (c = 92 ∧ j = 28) ∨ c = 109) => by unfold gm_rr; omega))
    exact ⟨U, h1, RM_r ok f h2.2.1 hR h2.2.2.1, mrr_0 f, h2.2.2.2.1, h2.2.2.2.2⟩
  generalize hV : mm_uM (mm_uM S 92 28 (nI 0)) 92 74 (nI b) = V at *
  by_cases a0 : a = nI 0
  · have eo : op_27 G (nI b) a y = ((ab_bid (ab_ki (gP G) b) (nI b) (nI (ab_v (gP G) b)) y).1, gS_r G (ab_bid (ab_ki (gP G) b) (nI b) (nI (ab_v (gP G) b)) y).2) := by unfold op_27; simp only [e, a0, if_true]
    obtain ⟨U, g1, g2⟩ := bid_m (d := d + 6) (x := y) w1 r1 (by decide) hk7 y1
    rw [eo]
    refine fin ?_ g2
    rw [st2, a0, if_neg (by decide), b203_19, if_neg i01, b203_24 (wx_o92 w0), if_pos rfl, hV, b203_33 (wx_o92 w1) (wx_s92_1 w1) (by rw [wx_g92_1 w1, wx_N93 w1]; exact hbi) (by rw [wx_g92_1 w1]; exact wx_a93 w1) (wx_k92 w1), wx_g92_1 w1, cl, k93, g1, hp_bd, hp_ts, b203_44]
  by_cases a1 : a = nI 1
  · have eo : op_27 G (nI b) a y = ((ab_wait (ab_ki (gP G) b) (nI b) (nI (ab_v (gP G) b)) y).1, gS_r G (ab_wait (ab_ki (gP G) b) (nI b) (nI (ab_v (gP G) b)) y).2) := by unfold op_27; simp only [e]; rw [if_neg a0, if_pos a1]
    obtain ⟨U, g1, g2⟩ := wait_m (d := d + 3) (x := y) w1 r1 (by decide) hk7 y1
    rw [eo]
    refine fin ?_ g2
    rw [st2, a1, if_neg (by decide), b203_19, if_neg i01, b203_24 (wx_o92 w0), if_neg (by decide), hV, b203_47, if_pos rfl, b203_52 (wx_o92 w1) (wx_s92_1 w1) (by rw [wx_g92_1 w1, wx_N93 w1]; exact hbi) (by rw [wx_g92_1 w1]; exact wx_a93 w1) (wx_k92 w1), wx_g92_1 w1, cl, k93, g1, hp_bd, hp_ts, b203_63]
  by_cases a2 : a = nI 2
  · have eo : op_27 G (nI b) a y = ((ab_tell (ab_ki (gP G) b) (nI b) (nI (ab_v (gP G) b)) y).1, gS_r G (ab_tell (ab_ki (gP G) b) (nI b) (nI (ab_v (gP G) b)) y).2) := by unfold op_27; simp only [e]; rw [if_neg a0, if_neg a1, if_pos a2]
    obtain ⟨U, g1, g2⟩ := tell_m (d := d) (x := y) w1 r1 (by decide) hk7 y1
    rw [eo]
    refine fin ?_ g2
    rw [st2, a2, if_neg (by decide), b203_19, if_neg i01, b203_24 (wx_o92 w0), if_neg (by decide), hV, b203_47, if_neg (by decide), b203_66 (wx_o92 w1) (wx_s92_1 w1) (by rw [wx_g92_1 w1, wx_N93 w1]; exact hbi) (by rw [wx_g92_1 w1]; exact wx_a93 w1) (wx_k92 w1), wx_g92_1 w1, cl, k93, g1, hp_bd, hp_ts, b203_77]
  have eo : op_27 G (nI b) a y = (nI 0, gS_r G []) := by unfold op_27; simp only [e]; rw [if_neg a0, if_neg a1, if_neg a2]
  have hor : a < nI 0 ∨ nI 2 < a := by
    rcases kw_d (n := 2) (m := 3) rfl (by decide) a with ⟨-, z, -⟩ | ⟨-, -, -, z, -⟩ | ⟨n, hn, -, z, -⟩
    · exact Or.inl (of_eq_true z)
    · exact Or.inr (of_eq_true z)
    · exfalso
      rcases (by omega : n = 0 ∨ n = 1 ∨ n = 2) with rfl | rfl | rfl
      · exact a0 z
      · exact a1 z
      · exact a2 z
  rw [eo]
  refine ⟨_, ?_, R0, mrr_0 f0, rfl, rfl⟩
  rw [st2, if_pos hor, b203_19, if_pos rfl, b203_22]
end MAD
end
section
/-! ===== image, undo, buyer of the reference ===== -/
def mi_s (S : mm_S) (i : Nat) : mm_S := mm_wM S (fun c j => if j < i then (if c = 133 then mm_M S 100 j else if c = 131 then mm_M S 98 j else if c = 130 then mm_M S 97 j else if c = 129 then mm_M S 96 j else if c = 128 then mm_M S 95 j else if c = 127 then mm_M S 94 j else if c = 126 then mm_M S 93 j else mm_M S c j) else mm_M S c j)
def mu_s (S : mm_S) (i : Nat) : mm_S := mm_wM S (fun c j => if j < i then (if c = 100 then mm_M S 133 j else if c = 98 then mm_M S 131 j else if c = 97 then mm_M S 130 j else if c = 96 then mm_M S 129 j else if c = 95 then mm_M S 128 j else if c = 94 then mm_M S 127 j else if c = 93 then mm_M S 126 j else mm_M S c j) else mm_M S c j)
/-- one row copied, as far as place i -/
def mc_1 (S : mm_S) (a b i : Nat) : mm_S := mm_wM S (fun c j => if c = a ∧ j < i then mm_M S b j else mm_M S c j)
section IU
variable {S T : mm_S} {a b c d i j f k : Nat}
theorem mi_M : mm_M (mi_s S i) c j = if j < i then (if c = 133 then mm_M S 100 j else if c = 131 then mm_M S 98 j else if c = 130 then mm_M S 97 j else if c = 129 then mm_M S 96 j else if c = 128 then mm_M S 95 j else if c = 127 then mm_M S 94 j else if c = 126 then mm_M S 93 j else mm_M S c j) else mm_M S c j := id rfl
theorem mi_R : mm_R (mi_s S i) = mm_R S := id rfl
theorem mi_N : mm_N (mi_s S i) = mm_N S := id rfl
theorem mi_o : mm_obj (mi_s S i) c f = mm_obj S c f := id rfl
theorem mi_a : mm_arr (mi_s S i) c f = mm_arr S c f := id rfl
theorem mi_g : mm_rg (mi_s S i) c j = mm_rg S c j := id rfl
theorem mi_k : mm_rk (mi_s S i) c = mm_rk S c := id rfl
theorem mi_0 : mi_s S 0 = S := st_ext (fun c j => by rw [mi_M, if_neg (Nat.not_lt_zero j)]) (fun _ _ => rfl) (fun _ _ => rfl) (fun _ => rfl) (fun _ => rfl) rfl rfl
theorem mi_st : mm_uM (mm_uM (mm_uM (mm_uM (mm_uM (mm_uM (mm_uM (mi_s S i) 126 i (mm_M S 93 i)) 127 i (mm_M S 94 i)) 128 i (mm_M S 95 i)) 129 i (mm_M S 96 i)) 130 i (mm_M S 97 i)) 131 i (mm_M S 98 i)) 133 i (mm_M S 100 i) = mi_s S (i + 1) := by
  refine st_ext (fun c j => ?_) (fun _ _ => rfl) (fun _ _ => rfl) (fun _ => rfl) (fun _ => rfl) rfl rfl
  rw [hp_MuM, hp_MuM, hp_MuM, hp_MuM, hp_MuM, hp_MuM, hp_MuM, mi_M, mi_M]
  by_cases h : j = i
  · subst h
    rw [if_pos (Nat.lt_succ_self j), if_neg (Nat.lt_irrefl j)]
    simp only [and_true]
  · have e : (j < i + 1) = (j < i) := propext (by omega)
    simp only [h, and_false, if_false, e]
theorem mu_M : mm_M (mu_s S i) c j = if j < i then (if c = 100 then mm_M S 133 j else if c = 98 then mm_M S 131 j else if c = 97 then mm_M S 130 j else if c = 96 then mm_M S 129 j else if c = 95 then mm_M S 128 j else if c = 94 then mm_M S 127 j else if c = 93 then mm_M S 126 j else mm_M S c j) else mm_M S c j := id rfl
theorem mu_R : mm_R (mu_s S i) = mm_R S := id rfl
theorem mu_N : mm_N (mu_s S i) = mm_N S := id rfl
theorem mu_o : mm_obj (mu_s S i) c f = mm_obj S c f := id rfl
theorem mu_a : mm_arr (mu_s S i) c f = mm_arr S c f := id rfl
theorem mu_g : mm_rg (mu_s S i) c j = mm_rg S c j := id rfl
theorem mu_k : mm_rk (mu_s S i) c = mm_rk S c := id rfl
theorem mu_0 : mu_s S 0 = S := st_ext (fun c j => by rw [mu_M, if_neg (Nat.not_lt_zero j)]) (fun _ _ => rfl) (fun _ _ => rfl) (fun _ => rfl) (fun _ => rfl) rfl rfl
theorem mu_st : mm_uM (mm_uM (mm_uM (mm_uM (mm_uM (mm_uM (mm_uM (mu_s S i) 93 i (mm_M S 126 i)) 94 i (mm_M S 127 i)) 95 i (mm_M S 128 i)) 96 i (mm_M S 129 i)) 97 i (mm_M S 130 i)) 98 i (mm_M S 131 i)) 100 i (mm_M S 133 i) = mu_s S (i + 1) := by
  refine st_ext (fun c j => ?_) (fun _ _ => rfl) (fun _ _ => rfl) (fun _ => rfl) (fun _ => rfl) rfl rfl
  rw [hp_MuM, hp_MuM, hp_MuM, hp_MuM, hp_MuM, hp_MuM, hp_MuM, mu_M, mu_M]
  by_cases h : j = i
  · subst h
    rw [if_pos (Nat.lt_succ_self j), if_neg (Nat.lt_irrefl j)]
    simp only [and_true]
  · have e : (j < i + 1) = (j < i) := propext (by omega)
    simp only [h, and_false, if_false, e]
theorem mc_M : mm_M (mc_1 S a b i) c j = if c = a ∧ j < i then mm_M S b j else mm_M S c j := id rfl
theorem mc_0 : mc_1 S a b 0 = S := st_ext (fun c j => by rw [mc_M, if_neg (fun e => Nat.not_lt_zero j e.2)]) (fun _ _ => rfl) (fun _ _ => rfl) (fun _ => rfl) (fun _ => rfl) rfl rfl
theorem mc_st : mm_uM (mc_1 S a b i) a i (mm_M S b i) = mc_1 S a b (i + 1) := by
  refine st_ext (fun c j => ?_) (fun _ _ => rfl) (fun _ _ => rfl) (fun _ => rfl) (fun _ => rfl) rfl rfl
  rw [hp_MuM, mc_M, mc_M]
  by_cases h : c = a
  · by_cases h2 : j = i
    · rw [if_pos ⟨h, h2⟩, if_pos ⟨h, by omega⟩, h2]
    · rw [if_neg (fun e => h2 e.2)]
      by_cases h3 : j < i
      · rw [if_pos ⟨h, h3⟩, if_pos ⟨h, by omega⟩]
      · rw [if_neg (fun e => h3 e.2), if_neg (fun e => by omega)]
  · rw [if_neg (fun e => h e.1), if_neg (fun e => h e.1), if_neg (fun e => h e.1)]
theorem l196 (hw : mm_W S) : ∀ k i : Nat, i + k = 6 → mm_ex d 196 39 [.ref 92, .int (nI i)] [] (mi_s S i) = mm_ex d 196 135 [.ref 92, .int (nI 6)] [] (mi_s S 6) := by
  intro k
  induction k with
  | zero =>
    intro i hi
    have e : i = 6 := by omega
    subst e
    rw [b196_39, if_pos (by decide)]
  | succ k ih =>
    intro i hi
    have hi6 : i < 6 := by omega
    have hib := hp_inb hi6 (by omega)
    have hcl := nI_clamp (n := i) (by omega)
    rw [b196_39, if_neg (nI_ge hi6 (by decide)), ← ih (i + 1) (by omega), ← mi_st]
    simp +decide only [b196_45, b196_67, b196_79, b196_91, b196_103, b196_115, b196_127, hp_MuM, hp_LuL, hp_RuR, hp_McpM, hp_LcpL, hp_LuM, hp_RuM, hp_KuM, hp_NuM, hp_nuM, hp_zuM, hp_ouM, hp_auM, hp_kuM, hp_guM, hp_MuL, hp_RuL, hp_KuL, hp_NuL, hp_nuL, hp_zuL, hp_ouL, hp_auL, hp_kuL, hp_guL, hp_MuR, hp_LuR, hp_KuR, hp_NuR, hp_nuR, hp_zuR, hp_ouR, hp_auR, hp_kuR, hp_LcpM, hp_RcpM, hp_KcpM, hp_NcpM, hp_ncpM, hp_zcpM, hp_ocpM, hp_acpM, hp_kcpM, hp_gcpM, hp_McpL, hp_RcpL, hp_KcpL, hp_NcpL, hp_ncpL, hp_zcpL, hp_ocpL, hp_acpL, hp_kcpL, hp_gcpL, hp_MwM, hp_LwM, hp_RwM, hp_KwM, hp_NwM, hp_nwM, hp_zwM, hp_owM, hp_awM, hp_kwM, hp_gwM, hp_MwR, hp_LwR, hp_RwR, hp_KwR, hp_NwR, hp_nwR, hp_zwR, hp_owR, hp_awR, hp_kwR, hp_MwL, hp_LwL, hp_RwL, hp_KwL, hp_NwL, hp_nwL, hp_zwL, hp_owL, hp_awL, hp_kwL, hp_gwL, hp_w2M, hp_w2R, hp_w2L, wx_o92 hw, wx_k92 hw, wx_q92 hw, wx_g92_1 hw, wx_s92_1 hw, wx_N93 hw, wx_a93 hw, wx_g92_2 hw, wx_s92_2 hw, wx_N94 hw, wx_a94 hw, wx_g92_3 hw, wx_s92_3 hw, wx_N95 hw, wx_a95 hw, wx_g92_4 hw, wx_s92_4 hw, wx_N96 hw, wx_a96 hw, wx_g92_5 hw, wx_s92_5 hw, wx_N97 hw, wx_a97 hw, wx_g92_6 hw, wx_s92_6 hw, wx_N98 hw, wx_a98 hw, wx_g92_7 hw, wx_s92_7 hw, wx_N99 hw, wx_a99 hw, wx_g92_9 hw, wx_s92_9 hw, wx_N100 hw, wx_a100 hw, wx_g92_16 hw, wx_s92_16 hw, wx_N101 hw, wx_a101 hw, wx_g92_19 hw, wx_s92_19 hw, wx_N102 hw, wx_a102 hw, wx_g92_20 hw, wx_s92_20 hw, wx_N103 hw, wx_a103 hw, wx_g92_21 hw, wx_s92_21 hw, wx_N104 hw, wx_a104 hw, wx_g92_22 hw, wx_s92_22 hw, wx_N105 hw, wx_a105 hw, wx_g92_23 hw, wx_s92_23 hw, wx_N106 hw, wx_a106 hw, wx_g92_24 hw, wx_s92_24 hw, wx_N107 hw, wx_a107 hw, wx_g92_25 hw, wx_s92_25 hw, wx_N108 hw, wx_a108 hw, wx_g92_29 hw, wx_s92_29 hw, wx_N109 hw, wx_a109 hw, wx_g92_30 hw, wx_s92_30 hw, wx_N110 hw, wx_a110 hw, wx_g92_31 hw, wx_s92_31 hw, wx_N111 hw, wx_a111 hw, wx_g92_32 hw, wx_s92_32 hw, wx_N112 hw, wx_a112 hw, wx_g92_33 hw, wx_s92_33 hw, wx_N113 hw, wx_a113 hw, wx_g92_34 hw, wx_s92_34 hw, wx_N114 hw, wx_a114 hw, wx_g92_35 hw, wx_s92_35 hw, wx_N115 hw, wx_a115 hw, wx_g92_38 hw, wx_s92_38 hw, wx_N116 hw, wx_a116 hw, wx_g92_41 hw, wx_s92_41 hw, wx_N117 hw, wx_a117 hw, wx_g92_44 hw, wx_s92_44 hw, wx_N118 hw, wx_a118 hw, wx_g92_45 hw, wx_s92_45 hw, wx_N119 hw, wx_a119 hw, wx_g92_46 hw, wx_s92_46 hw, wx_N120 hw, wx_a120 hw, wx_g92_52 hw, wx_s92_52 hw, wx_N121 hw, wx_a121 hw, wx_g92_55 hw, wx_s92_55 hw, wx_N122 hw, wx_a122 hw, wx_g92_56 hw, wx_s92_56 hw, wx_N123 hw, wx_a123 hw, wx_g92_57 hw, wx_s92_57 hw, wx_N124 hw, wx_a124 hw, wx_g92_58 hw, wx_s92_58 hw, wx_N125 hw, wx_a125 hw, wx_g92_64 hw, wx_s92_64 hw, wx_N126 hw, wx_a126 hw, wx_g92_65 hw, wx_s92_65 hw, wx_N127 hw, wx_a127 hw, wx_g92_66 hw, wx_s92_66 hw, wx_N128 hw, wx_a128 hw, wx_g92_67 hw, wx_s92_67 hw, wx_N129 hw, wx_a129 hw, wx_g92_68 hw, wx_s92_68 hw, wx_N130 hw, wx_a130 hw, wx_g92_69 hw, wx_s92_69 hw, wx_N131 hw, wx_a131 hw, wx_g92_70 hw, wx_s92_70 hw, wx_N132 hw, wx_a132 hw, wx_g92_71 hw, wx_s92_71 hw, wx_N133 hw, wx_a133 hw, wx_g92_72 hw, wx_s92_72 hw, wx_N134 hw, wx_a134 hw, wx_g92_73 hw, wx_s92_73 hw, wx_N135 hw, wx_a135 hw, wx_g92_75 hw, wx_s92_75 hw, wx_N136 hw, wx_a136 hw, mi_M, mi_R, mi_N, mi_o, mi_a, mi_g, hib, hcl, List.not_mem_nil, false_implies, implies_true, nI_clamp, nI_add, Nat.reducePow, hp_bd, hp_bdi, hp_ts, hp_tn, hp_tsc, hp_tnc, Nat.reduceAdd, Nat.reduceSub, Nat.reduceMul, Nat.reduceLT, Nat.reduceLeDiff, Nat.reduceEqDiff, reduceIte, not_true_eq_false, not_false_eq_true, and_true, true_and, and_self, and_false, false_and, or_true, true_or, or_false, false_or, decide_true, decide_false, Bool.and_true, Bool.true_and, Bool.not_false, Bool.or_false, Bool.false_or, Bool.or_true, Bool.true_or, Nat.lt_irrefl, if_false]
theorem l197 (hw : mm_W S) : ∀ k i : Nat, i + k = 6 → mm_ex d 197 44 [.ref 92, .int (nI i)] [] (mu_s S i) = mm_ex d 197 140 [.ref 92, .int (nI 6)] [] (mu_s S 6) := by
  intro k
  induction k with
  | zero =>
    intro i hi
    have e : i = 6 := by omega
    subst e
    rw [b197_44, if_pos (by decide)]
  | succ k ih =>
    intro i hi
    have hi6 : i < 6 := by omega
    have hib := hp_inb hi6 (by omega)
    have hcl := nI_clamp (n := i) (by omega)
    rw [b197_44, if_neg (nI_ge hi6 (by decide)), ← ih (i + 1) (by omega), ← mu_st]
    simp +decide only [b197_50, b197_72, b197_84, b197_96, b197_108, b197_120, b197_132, hp_MuM, hp_LuL, hp_RuR, hp_McpM, hp_LcpL, hp_LuM, hp_RuM, hp_KuM, hp_NuM, hp_nuM, hp_zuM, hp_ouM, hp_auM, hp_kuM, hp_guM, hp_MuL, hp_RuL, hp_KuL, hp_NuL, hp_nuL, hp_zuL, hp_ouL, hp_auL, hp_kuL, hp_guL, hp_MuR, hp_LuR, hp_KuR, hp_NuR, hp_nuR, hp_zuR, hp_ouR, hp_auR, hp_kuR, hp_LcpM, hp_RcpM, hp_KcpM, hp_NcpM, hp_ncpM, hp_zcpM, hp_ocpM, hp_acpM, hp_kcpM, hp_gcpM, hp_McpL, hp_RcpL, hp_KcpL, hp_NcpL, hp_ncpL, hp_zcpL, hp_ocpL, hp_acpL, hp_kcpL, hp_gcpL, hp_MwM, hp_LwM, hp_RwM, hp_KwM, hp_NwM, hp_nwM, hp_zwM, hp_owM, hp_awM, hp_kwM, hp_gwM, hp_MwR, hp_LwR, hp_RwR, hp_KwR, hp_NwR, hp_nwR, hp_zwR, hp_owR, hp_awR, hp_kwR, hp_MwL, hp_LwL, hp_RwL, hp_KwL, hp_NwL, hp_nwL, hp_zwL, hp_owL, hp_awL, hp_kwL, hp_gwL, hp_w2M, hp_w2R, hp_w2L, wx_o92 hw, wx_k92 hw, wx_q92 hw, wx_g92_1 hw, wx_s92_1 hw, wx_N93 hw, wx_a93 hw, wx_g92_2 hw, wx_s92_2 hw, wx_N94 hw, wx_a94 hw, wx_g92_3 hw, wx_s92_3 hw, wx_N95 hw, wx_a95 hw, wx_g92_4 hw, wx_s92_4 hw, wx_N96 hw, wx_a96 hw, wx_g92_5 hw, wx_s92_5 hw, wx_N97 hw, wx_a97 hw, wx_g92_6 hw, wx_s92_6 hw, wx_N98 hw, wx_a98 hw, wx_g92_7 hw, wx_s92_7 hw, wx_N99 hw, wx_a99 hw, wx_g92_9 hw, wx_s92_9 hw, wx_N100 hw, wx_a100 hw, wx_g92_16 hw, wx_s92_16 hw, wx_N101 hw, wx_a101 hw, wx_g92_19 hw, wx_s92_19 hw, wx_N102 hw, wx_a102 hw, wx_g92_20 hw, wx_s92_20 hw, wx_N103 hw, wx_a103 hw, wx_g92_21 hw, wx_s92_21 hw, wx_N104 hw, wx_a104 hw, wx_g92_22 hw, wx_s92_22 hw, wx_N105 hw, wx_a105 hw, wx_g92_23 hw, wx_s92_23 hw, wx_N106 hw, wx_a106 hw, wx_g92_24 hw, wx_s92_24 hw, wx_N107 hw, wx_a107 hw, wx_g92_25 hw, wx_s92_25 hw, wx_N108 hw, wx_a108 hw, wx_g92_29 hw, wx_s92_29 hw, wx_N109 hw, wx_a109 hw, wx_g92_30 hw, wx_s92_30 hw, wx_N110 hw, wx_a110 hw, wx_g92_31 hw, wx_s92_31 hw, wx_N111 hw, wx_a111 hw, wx_g92_32 hw, wx_s92_32 hw, wx_N112 hw, wx_a112 hw, wx_g92_33 hw, wx_s92_33 hw, wx_N113 hw, wx_a113 hw, wx_g92_34 hw, wx_s92_34 hw, wx_N114 hw, wx_a114 hw, wx_g92_35 hw, wx_s92_35 hw, wx_N115 hw, wx_a115 hw, wx_g92_38 hw, wx_s92_38 hw, wx_N116 hw, wx_a116 hw, wx_g92_41 hw, wx_s92_41 hw, wx_N117 hw, wx_a117 hw, wx_g92_44 hw, wx_s92_44 hw, wx_N118 hw, wx_a118 hw, wx_g92_45 hw, wx_s92_45 hw, wx_N119 hw, wx_a119 hw, wx_g92_46 hw, wx_s92_46 hw, wx_N120 hw, wx_a120 hw, wx_g92_52 hw, wx_s92_52 hw, wx_N121 hw, wx_a121 hw, wx_g92_55 hw, wx_s92_55 hw, wx_N122 hw, wx_a122 hw, wx_g92_56 hw, wx_s92_56 hw, wx_N123 hw, wx_a123 hw, wx_g92_57 hw, wx_s92_57 hw, wx_N124 hw, wx_a124 hw, wx_g92_58 hw, wx_s92_58 hw, wx_N125 hw, wx_a125 hw, wx_g92_64 hw, wx_s92_64 hw, wx_N126 hw, wx_a126 hw, wx_g92_65 hw, wx_s92_65 hw, wx_N127 hw, wx_a127 hw, wx_g92_66 hw, wx_s92_66 hw, wx_N128 hw, wx_a128 hw, wx_g92_67 hw, wx_s92_67 hw, wx_N129 hw, wx_a129 hw, wx_g92_68 hw, wx_s92_68 hw, wx_N130 hw, wx_a130 hw, wx_g92_69 hw, wx_s92_69 hw, wx_N131 hw, wx_a131 hw, wx_g92_70 hw, wx_s92_70 hw, wx_N132 hw, wx_a132 hw, wx_g92_71 hw, wx_s92_71 hw, wx_N133 hw, wx_a133 hw, wx_g92_72 hw, wx_s92_72 hw, wx_N134 hw, wx_a134 hw, wx_g92_73 hw, wx_s92_73 hw, wx_N135 hw, wx_a135 hw, wx_g92_75 hw, wx_s92_75 hw, wx_N136 hw, wx_a136 hw, mu_M, mu_R, mu_N, mu_o, mu_a, mu_g, hib, hcl, List.not_mem_nil, false_implies, implies_true, nI_clamp, nI_add, Nat.reducePow, hp_bd, hp_bdi, hp_ts, hp_tn, hp_tsc, hp_tnc, Nat.reduceAdd, Nat.reduceSub, Nat.reduceMul, Nat.reduceLT, Nat.reduceLeDiff, Nat.reduceEqDiff, reduceIte, not_true_eq_false, not_false_eq_true, and_true, true_and, and_self, and_false, false_and, or_true, true_or, or_false, false_or, decide_true, decide_false, Bool.and_true, Bool.true_and, Bool.not_false, Bool.or_false, Bool.false_or, Bool.or_true, Bool.true_or, Nat.lt_irrefl, if_false]
theorem l196_137 (hw : mm_W S) : ∀ k i : Nat, i + k = 18 → mm_ex d 196 137 [.ref 92, .int (nI i)] [] (mc_1 S 132 99 i) = mm_ex d 196 161 [.ref 92, .int (nI 18)] [] (mc_1 S 132 99 18) := by
  intro k
  induction k with
  | zero =>
    intro i hi
    have e : i = 18 := by omega
    subst e
    rw [b196_137, if_pos (by decide)]
  | succ k ih =>
    intro i hi
    have hib : mm_inb (nI i) 18 = true := hp_inb (by omega) (by omega)
    have hcl := nI_clamp (n := i) (by omega)
    have w : mm_W (mc_1 S 132 99 i) := hw
    have e1 : mm_M (mc_1 S 132 99 i) 99 i = mm_M S 99 i := by rw [mc_M, if_neg (fun e => by omega)]
    rw [b196_137, if_neg (nI_ge (by omega) (by decide)), b196_143 (wx_o92 w) (wx_s92_70 w) (wx_s92_7 w) (by rw [wx_g92_7 w, wx_N99 w]; exact hib) (by rw [wx_g92_7 w]; exact wx_a99 w) (by rw [wx_g92_70 w]; exact wx_a132 w) (by rw [wx_g92_70 w, wx_N132 w]; exact hib), wx_g92_7 w, wx_g92_70 w, hcl, e1, nI_add, mc_st, ih (i + 1) (by omega)]
theorem l196_163 (hw : mm_W S) : ∀ k i : Nat, i + k = 12 → mm_ex d 196 163 [.ref 92, .int (nI i)] [] (mc_1 S 135 101 i) = mm_ex d 196 187 [.ref 92, .int (nI 12)] [] (mc_1 S 135 101 12) := by
  intro k
  induction k with
  | zero =>
    intro i hi
    have e : i = 12 := by omega
    subst e
    rw [b196_163, if_pos (by decide)]
  | succ k ih =>
    intro i hi
    have hib : mm_inb (nI i) 12 = true := hp_inb (by omega) (by omega)
    have hcl := nI_clamp (n := i) (by omega)
    have w : mm_W (mc_1 S 135 101 i) := hw
    have e1 : mm_M (mc_1 S 135 101 i) 101 i = mm_M S 101 i := by rw [mc_M, if_neg (fun e => by omega)]
    rw [b196_163, if_neg (nI_ge (by omega) (by decide)), b196_169 (wx_o92 w) (wx_s92_73 w) (wx_s92_16 w) (by rw [wx_g92_16 w, wx_N101 w]; exact hib) (by rw [wx_g92_16 w]; exact wx_a101 w) (by rw [wx_g92_73 w]; exact wx_a135 w) (by rw [wx_g92_73 w, wx_N135 w]; exact hib), wx_g92_16 w, wx_g92_73 w, hcl, e1, nI_add, mc_st, ih (i + 1) (by omega)]
theorem l197_142 (hw : mm_W S) : ∀ k i : Nat, i + k = 18 → mm_ex d 197 142 [.ref 92, .int (nI i)] [] (mc_1 S 99 132 i) = mm_ex d 197 166 [.ref 92, .int (nI 18)] [] (mc_1 S 99 132 18) := by
  intro k
  induction k with
  | zero =>
    intro i hi
    have e : i = 18 := by omega
    subst e
    rw [b197_142, if_pos (by decide)]
  | succ k ih =>
    intro i hi
    have hib : mm_inb (nI i) 18 = true := hp_inb (by omega) (by omega)
    have hcl := nI_clamp (n := i) (by omega)
    have w : mm_W (mc_1 S 99 132 i) := hw
    have e1 : mm_M (mc_1 S 99 132 i) 132 i = mm_M S 132 i := by rw [mc_M, if_neg (fun e => by omega)]
    rw [b197_142, if_neg (nI_ge (by omega) (by decide)), b197_148 (wx_o92 w) (wx_s92_7 w) (wx_s92_70 w) (by rw [wx_g92_70 w, wx_N132 w]; exact hib) (by rw [wx_g92_70 w]; exact wx_a132 w) (by rw [wx_g92_7 w]; exact wx_a99 w) (by rw [wx_g92_7 w, wx_N99 w]; exact hib), wx_g92_70 w, wx_g92_7 w, hcl, e1, nI_add, mc_st, ih (i + 1) (by omega)]
theorem l197_168 (hw : mm_W S) : ∀ k i : Nat, i + k = 12 → mm_ex d 197 168 [.ref 92, .int (nI i)] [] (mc_1 S 101 135 i) = mm_ex d 197 192 [.ref 92, .int (nI 12)] [] (mc_1 S 101 135 12) := by
  intro k
  induction k with
  | zero =>
    intro i hi
    have e : i = 12 := by omega
    subst e
    rw [b197_168, if_pos (by decide)]
  | succ k ih =>
    intro i hi
    have hib : mm_inb (nI i) 12 = true := hp_inb (by omega) (by omega)
    have hcl := nI_clamp (n := i) (by omega)
    have w : mm_W (mc_1 S 101 135 i) := hw
    have e1 : mm_M (mc_1 S 101 135 i) 135 i = mm_M S 135 i := by rw [mc_M, if_neg (fun e => by omega)]
    rw [b197_168, if_neg (nI_ge (by omega) (by decide)), b197_174 (wx_o92 w) (wx_s92_16 w) (wx_s92_73 w) (by rw [wx_g92_73 w, wx_N135 w]; exact hib) (by rw [wx_g92_73 w]; exact wx_a135 w) (by rw [wx_g92_16 w]; exact wx_a101 w) (by rw [wx_g92_16 w, wx_N101 w]; exact hib), wx_g92_73 w, wx_g92_16 w, hcl, e1, nI_add, mc_st, ih (i + 1) (by omega)]
end IU
end
section
/-! ===== image and undo of the reference ===== -/
section IU2
variable {S T : mm_S} {G : gb_G} {d b n c j : Nat} {x y z : Int32}
def mI_5 (S : mm_S) : mm_S := mm_uM (mm_uM (mm_uM (mm_uM (mm_uM S 92 59 (nI 1)) 92 60 (mm_M S 92 0)) 92 61 (mm_M S 92 14)) 92 62 (mm_M S 92 15)) 92 63 (mm_M S 92 18)
def mI_c (S : mm_S) : mm_S := mc_1 (mc_1 (mi_s (mI_5 S) 6) 132 99 18) 135 101 12
def mI_t (S : mm_S) : mm_S := mm_uM (mm_uM (mm_uM (mm_uM (mm_uM (mI_c S) 134 0 (mm_M S 92 8)) 134 1 (mm_M S 92 10)) 134 2 (mm_M S 92 11)) 134 3 (mm_M S 92 12)) 134 4 (mm_M S 92 13)
def mU_4 (S : mm_S) : mm_S := mm_uM (mm_uM (mm_uM (mm_uM S 92 0 (mm_M S 92 60)) 92 14 (mm_M S 92 61)) 92 15 (mm_M S 92 62)) 92 18 (mm_M S 92 63)
def mU_c (S : mm_S) : mm_S := mc_1 (mc_1 (mu_s (mU_4 S) 6) 99 132 18) 101 135 12
def mU_t (S : mm_S) : mm_S := mm_uM (mm_uM (mm_uM (mm_uM (mm_uM (mU_c S) 92 8 (mm_M S 134 0)) 92 10 (mm_M S 134 1)) 92 11 (mm_M S 134 2)) 92 12 (mm_M S 134 3)) 92 13 (mm_M S 134 4)
theorem mI_fr (h : ¬ ((c = 92 ∧ 59 ≤ j ∧ j ≤ 63) ∨ (126 ≤ c ∧ c ≤ 135))) : mm_M (mI_t S) c j = mm_M S c j := by
  have h126 : (c = 126) = False := eq_false (by omega)
  have h127 : (c = 127) = False := eq_false (by omega)
  have h128 : (c = 128) = False := eq_false (by omega)
  have h129 : (c = 129) = False := eq_false (by omega)
  have h130 : (c = 130) = False := eq_false (by omega)
  have h131 : (c = 131) = False := eq_false (by omega)
  have h132 : (c = 132) = False := eq_false (by omega)
  have h133 : (c = 133) = False := eq_false (by omega)
  have h134 : (c = 134) = False := eq_false (by omega)
  have h135 : (c = 135) = False := eq_false (by omega)
  have g59 : (c = 92 ∧ j = 59) = False := eq_false (by omega)
  have g60 : (c = 92 ∧ j = 60) = False := eq_false (by omega)
  have g61 : (c = 92 ∧ j = 61) = False := eq_false (by omega)
  have g62 : (c = 92 ∧ j = 62) = False := eq_false (by omega)
  have g63 : (c = 92 ∧ j = 63) = False := eq_false (by omega)
  unfold mI_t mI_c mI_5
  simp +decide only [h126, h127, h128, h129, h130, h131, h132, h133, h134, h135, g59, g60, g61, g62, g63, hp_MuM, mc_M, mi_M, mu_M, if_true, if_false, false_and, true_and, and_true, and_false, ite_self]
theorem mU_fr (h : ¬ ((c = 92 ∧ (j = 0 ∨ j = 8 ∨ (10 ≤ j ∧ j ≤ 15) ∨ j = 18)) ∨ (93 ≤ c ∧ c ≤ 101))) : mm_M (mU_t S) c j = mm_M S c j := by
  have h93 : (c = 93) = False := eq_false (by omega)
  have h94 : (c = 94) = False := eq_false (by omega)
  have h95 : (c = 95) = False := eq_false (by omega)
  have h96 : (c = 96) = False := eq_false (by omega)
  have h97 : (c = 97) = False := eq_false (by omega)
  have h98 : (c = 98) = False := eq_false (by omega)
  have h99 : (c = 99) = False := eq_false (by omega)
  have h100 : (c = 100) = False := eq_false (by omega)
  have h101 : (c = 101) = False := eq_false (by omega)
  have g0 : (c = 92 ∧ j = 0) = False := eq_false (by omega)
  have g8 : (c = 92 ∧ j = 8) = False := eq_false (by omega)
  have g10 : (c = 92 ∧ j = 10) = False := eq_false (by omega)
  have g11 : (c = 92 ∧ j = 11) = False := eq_false (by omega)
  have g12 : (c = 92 ∧ j = 12) = False := eq_false (by omega)
  have g13 : (c = 92 ∧ j = 13) = False := eq_false (by omega)
  have g14 : (c = 92 ∧ j = 14) = False := eq_false (by omega)
  have g15 : (c = 92 ∧ j = 15) = False := eq_false (by omega)
  have g18 : (c = 92 ∧ j = 18) = False := eq_false (by omega)
  unfold mU_t mU_c mU_4
  simp +decide only [h93, h94, h95, h96, h97, h98, h99, h100, h101, g0, g8, g10, g11, g12, g13, g14, g15, g18, hp_MuM, mc_M, mi_M, mu_M, if_true, if_false, false_and, true_and, and_true, and_false, ite_self]
theorem m_25 (ok : gb_ok G) (hR : RM S G) : oM S d 196 [.ref 92] (.int (op_25 G).1) (op_25 G).2 := by
  have hw := hR.1
  have w5 : mm_W (mI_5 S) := hw
  have wc : mm_W (mI_c S) := hw
  have wt : mm_W (mI_t S) := hw
  have st : mm_cl d 196 [.ref 92] S = mm_ex d 196 39 [.ref 92, .int (nI 0)] [] (mI_5 S) := by
    unfold mI_5
    simp +decide only [e196, b196_0, b196_7, b196_15, b196_23, b196_31, hp_MuM, hp_LuL, hp_RuR, hp_McpM, hp_LcpL, hp_LuM, hp_RuM, hp_KuM, hp_NuM, hp_nuM, hp_zuM, hp_ouM, hp_auM, hp_kuM, hp_guM, hp_MuL, hp_RuL, hp_KuL, hp_NuL, hp_nuL, hp_zuL, hp_ouL, hp_auL, hp_kuL, hp_guL, hp_MuR, hp_LuR, hp_KuR, hp_NuR, hp_nuR, hp_zuR, hp_ouR, hp_auR, hp_kuR, hp_LcpM, hp_RcpM, hp_KcpM, hp_NcpM, hp_ncpM, hp_zcpM, hp_ocpM, hp_acpM, hp_kcpM, hp_gcpM, hp_McpL, hp_RcpL, hp_KcpL, hp_NcpL, hp_ncpL, hp_zcpL, hp_ocpL, hp_acpL, hp_kcpL, hp_gcpL, hp_MwM, hp_LwM, hp_RwM, hp_KwM, hp_NwM, hp_nwM, hp_zwM, hp_owM, hp_awM, hp_kwM, hp_gwM, hp_MwR, hp_LwR, hp_RwR, hp_KwR, hp_NwR, hp_nwR, hp_zwR, hp_owR, hp_awR, hp_kwR, hp_MwL, hp_LwL, hp_RwL, hp_KwL, hp_NwL, hp_nwL, hp_zwL, hp_owL, hp_awL, hp_kwL, hp_gwL, hp_w2M, hp_w2R, hp_w2L, wx_o92 hw, List.not_mem_nil, false_implies, implies_true, nI_clamp, nI_add, Nat.reducePow, hp_bd, hp_bdi, hp_ts, hp_tn, hp_tsc, hp_tnc, Nat.reduceAdd, Nat.reduceSub, Nat.reduceMul, Nat.reduceLT, Nat.reduceLeDiff, Nat.reduceEqDiff, reduceIte, not_true_eq_false, not_false_eq_true, and_true, true_and, and_self, and_false, false_and, or_true, true_or, or_false, false_or, decide_true, decide_false, Bool.and_true, Bool.true_and, Bool.not_false, Bool.or_false, Bool.false_or, Bool.or_true, Bool.true_or]
  have la := l196 (d := d) w5 6 0 rfl
  rw [mi_0] at la
  have wa : mm_W (mi_s (mI_5 S) 6) := hw
  have lb := l196_137 (d := d) wa 18 0 rfl
  rw [mc_0] at lb
  have wb : mm_W (mc_1 (mi_s (mI_5 S) 6) 132 99 18) := hw
  have lc := l196_163 (d := d) wb 12 0 rfl
  rw [mc_0] at lc
  have rc : ∀ j, ¬ (59 ≤ j ∧ j ≤ 63) → mm_M (mI_c S) 92 j = mm_M S 92 j := by
    intro j hj
    have g59 : (j = 59) = False := eq_false (by omega)
    have g60 : (j = 60) = False := eq_false (by omega)
    have g61 : (j = 61) = False := eq_false (by omega)
    have g62 : (j = 62) = False := eq_false (by omega)
    have g63 : (j = 63) = False := eq_false (by omega)
    unfold mI_c mI_5
    simp +decide only [g59, g60, g61, g62, g63, hp_MuM, mc_M, mi_M, mu_M, if_true, if_false, false_and, true_and, and_true, and_false, ite_self]
  have c8 := rc 8 (by decide)
  have c10 := rc 10 (by decide)
  have c11 := rc 11 (by decide)
  have c12 := rc 12 (by decide)
  have c13 := rc 13 (by decide)
  have c0 := (rc 0 (by decide)).trans hR.2.1.1.1
  have i5 : ∀ k, k < 5 → mm_inb (nI k) 5 = true := fun k hk => hp_inb hk (by omega)
  have run : mm_cl d 196 [.ref 92] S = some (some (.int (nI (gK G))), mI_t S) := by
    have e : mI_t S = mm_uM (mm_uM (mm_uM (mm_uM (mm_uM (mI_c S) 134 0 (mm_M S 92 8)) 134 1 (mm_M S 92 10)) 134 2 (mm_M S 92 11)) 134 3 (mm_M S 92 12)) 134 4 (mm_M S 92 13) := rfl
    rw [st, la, b196_135, lb, b196_161, lc, e]
    change mm_ex d 196 187 _ _ (mI_c S) = _
    rw [← c8, ← c10, ← c11, ← c12, ← c13]
    generalize mI_c S = C at *
    simp +decide only [b196_187, b196_203, b196_213, b196_223, b196_233, b196_238, hp_MuM, hp_LuL, hp_RuR, hp_McpM, hp_LcpL, hp_LuM, hp_RuM, hp_KuM, hp_NuM, hp_nuM, hp_zuM, hp_ouM, hp_auM, hp_kuM, hp_guM, hp_MuL, hp_RuL, hp_KuL, hp_NuL, hp_nuL, hp_zuL, hp_ouL, hp_auL, hp_kuL, hp_guL, hp_MuR, hp_LuR, hp_KuR, hp_NuR, hp_nuR, hp_zuR, hp_ouR, hp_auR, hp_kuR, hp_LcpM, hp_RcpM, hp_KcpM, hp_NcpM, hp_ncpM, hp_zcpM, hp_ocpM, hp_acpM, hp_kcpM, hp_gcpM, hp_McpL, hp_RcpL, hp_KcpL, hp_NcpL, hp_ncpL, hp_zcpL, hp_ocpL, hp_acpL, hp_kcpL, hp_gcpL, hp_MwM, hp_LwM, hp_RwM, hp_KwM, hp_NwM, hp_nwM, hp_zwM, hp_owM, hp_awM, hp_kwM, hp_gwM, hp_MwR, hp_LwR, hp_RwR, hp_KwR, hp_NwR, hp_nwR, hp_zwR, hp_owR, hp_awR, hp_kwR, hp_MwL, hp_LwL, hp_RwL, hp_KwL, hp_NwL, hp_nwL, hp_zwL, hp_owL, hp_awL, hp_kwL, hp_gwL, hp_w2M, hp_w2R, hp_w2L, wx_o92 wc, wx_k92 wc, wx_q92 wc, wx_g92_1 wc, wx_s92_1 wc, wx_N93 wc, wx_a93 wc, wx_g92_2 wc, wx_s92_2 wc, wx_N94 wc, wx_a94 wc, wx_g92_3 wc, wx_s92_3 wc, wx_N95 wc, wx_a95 wc, wx_g92_4 wc, wx_s92_4 wc, wx_N96 wc, wx_a96 wc, wx_g92_5 wc, wx_s92_5 wc, wx_N97 wc, wx_a97 wc, wx_g92_6 wc, wx_s92_6 wc, wx_N98 wc, wx_a98 wc, wx_g92_7 wc, wx_s92_7 wc, wx_N99 wc, wx_a99 wc, wx_g92_9 wc, wx_s92_9 wc, wx_N100 wc, wx_a100 wc, wx_g92_16 wc, wx_s92_16 wc, wx_N101 wc, wx_a101 wc, wx_g92_19 wc, wx_s92_19 wc, wx_N102 wc, wx_a102 wc, wx_g92_20 wc, wx_s92_20 wc, wx_N103 wc, wx_a103 wc, wx_g92_21 wc, wx_s92_21 wc, wx_N104 wc, wx_a104 wc, wx_g92_22 wc, wx_s92_22 wc, wx_N105 wc, wx_a105 wc, wx_g92_23 wc, wx_s92_23 wc, wx_N106 wc, wx_a106 wc, wx_g92_24 wc, wx_s92_24 wc, wx_N107 wc, wx_a107 wc, wx_g92_25 wc, wx_s92_25 wc, wx_N108 wc, wx_a108 wc, wx_g92_29 wc, wx_s92_29 wc, wx_N109 wc, wx_a109 wc, wx_g92_30 wc, wx_s92_30 wc, wx_N110 wc, wx_a110 wc, wx_g92_31 wc, wx_s92_31 wc, wx_N111 wc, wx_a111 wc, wx_g92_32 wc, wx_s92_32 wc, wx_N112 wc, wx_a112 wc, wx_g92_33 wc, wx_s92_33 wc, wx_N113 wc, wx_a113 wc, wx_g92_34 wc, wx_s92_34 wc, wx_N114 wc, wx_a114 wc, wx_g92_35 wc, wx_s92_35 wc, wx_N115 wc, wx_a115 wc, wx_g92_38 wc, wx_s92_38 wc, wx_N116 wc, wx_a116 wc, wx_g92_41 wc, wx_s92_41 wc, wx_N117 wc, wx_a117 wc, wx_g92_44 wc, wx_s92_44 wc, wx_N118 wc, wx_a118 wc, wx_g92_45 wc, wx_s92_45 wc, wx_N119 wc, wx_a119 wc, wx_g92_46 wc, wx_s92_46 wc, wx_N120 wc, wx_a120 wc, wx_g92_52 wc, wx_s92_52 wc, wx_N121 wc, wx_a121 wc, wx_g92_55 wc, wx_s92_55 wc, wx_N122 wc, wx_a122 wc, wx_g92_56 wc, wx_s92_56 wc, wx_N123 wc, wx_a123 wc, wx_g92_57 wc, wx_s92_57 wc, wx_N124 wc, wx_a124 wc, wx_g92_58 wc, wx_s92_58 wc, wx_N125 wc, wx_a125 wc, wx_g92_64 wc, wx_s92_64 wc, wx_N126 wc, wx_a126 wc, wx_g92_65 wc, wx_s92_65 wc, wx_N127 wc, wx_a127 wc, wx_g92_66 wc, wx_s92_66 wc, wx_N128 wc, wx_a128 wc, wx_g92_67 wc, wx_s92_67 wc, wx_N129 wc, wx_a129 wc, wx_g92_68 wc, wx_s92_68 wc, wx_N130 wc, wx_a130 wc, wx_g92_69 wc, wx_s92_69 wc, wx_N131 wc, wx_a131 wc, wx_g92_70 wc, wx_s92_70 wc, wx_N132 wc, wx_a132 wc, wx_g92_71 wc, wx_s92_71 wc, wx_N133 wc, wx_a133 wc, wx_g92_72 wc, wx_s92_72 wc, wx_N134 wc, wx_a134 wc, wx_g92_73 wc, wx_s92_73 wc, wx_N135 wc, wx_a135 wc, wx_g92_75 wc, wx_s92_75 wc, wx_N136 wc, wx_a136 wc, List.not_mem_nil, false_implies, implies_true, nI_clamp, nI_add, Nat.reducePow, hp_bd, hp_bdi, hp_ts, hp_tn, hp_tsc, hp_tnc, Nat.reduceAdd, Nat.reduceSub, Nat.reduceMul, Nat.reduceLT, Nat.reduceLeDiff, Nat.reduceEqDiff, reduceIte, not_true_eq_false, not_false_eq_true, and_true, true_and, and_self, and_false, false_and, or_true, true_or, or_false, false_or, decide_true, decide_false, Bool.and_true, Bool.true_and, Bool.not_false, Bool.or_false, Bool.false_or, Bool.or_true, Bool.true_or, i5, c0]
    rfl
  have fr : ∀ c j, ¬ ((c = 92 ∧ 59 ≤ j ∧ j ≤ 63) ∨ (126 ≤ c ∧ c ≤ 135)) → mm_M (mI_t S) c j = mm_M S c j := fun c j h => mI_fr h
  have k6 : gK G ≤ 6 := ok.1.1.1
  have r6 : (ab_row (gD G)).length ≤ 6 := row_le ok.1.1 ok.1.2.1
  have f12 : (gx_f G.1).length ≤ 12 := ok.1.2.2.2.1
  obtain ⟨-, h1, h2, h3, h4, h5, h6, h7⟩ := hR
  refine ⟨mI_t S, run, ⟨wt, mt_X k6 r6 (fun c j q => fr c j (by unfold nX at q; omega)) h1, ⟨?_, ?_⟩, mt_s (fun c j q => fr c j (by omega)) h3, mt_t (fun c j q => fr c j (by omega)) h4, mt_p (fun c j q => fr c j (by omega)) (fun j => rfl) h5, mt_r (fun c j q => fr c j (by omega)) h6, mt_c (fun c j q => fr c j (by omega)) h7⟩, ⟨fun c j hc => ⟨fr c j (by unfold gm_0 at hc; omega), rfl, rfl⟩, fun _ _ => ⟨rfl, rfl⟩, Nat.le_refl _⟩, rfl, rfl⟩
  · unfold mI_t mI_c mI_5
    simp +decide only [hp_MuM, mc_M, mi_M, mu_M, if_true, if_false, false_and, true_and, and_true, and_false]
  · obtain ⟨⟨p1, p2, p3, p4, p5⟩, ⟨d1, d2, d3, d4, d5, d6, d7, d8⟩, q1, q2, q3, q4, q5⟩ := h1
    have one : ∀ t u b, (t = 126 ∧ u = 93) ∨ (t = 127 ∧ u = 94) ∨ (t = 128 ∧ u = 95) ∨ (t = 129 ∧ u = 96) ∨ (t = 130 ∧ u = 97) ∨ (t = 131 ∧ u = 98) ∨ (t = 133 ∧ u = 100) → b < 6 → mm_M (mI_t S) t b = mm_M S u b := by
      intro t u b h hb
      unfold mI_t mI_c mI_5
      rcases h with ⟨rfl, rfl⟩ | ⟨rfl, rfl⟩ | ⟨rfl, rfl⟩ | ⟨rfl, rfl⟩ | ⟨rfl, rfl⟩ | ⟨rfl, rfl⟩ | ⟨rfl, rfl⟩ <;> simp +decide only [hb, hp_MuM, mc_M, mi_M, mu_M, if_true, if_false, false_and, true_and, and_true, and_false]
    refine ⟨?_, ?_, ?_, ?_, fun b hb => ?_, fun i hi => ?_, fun p hp => ?_, ⟨?_, ?_, ?_, ?_, ?_⟩, fun i hi => ?_⟩
    · refine Eq.trans ?_ p1; unfold mI_t mI_c mI_5; simp +decide only [hp_MuM, mc_M, mi_M, mu_M, if_true, if_false, false_and, true_and, and_true, and_false]
    · refine Eq.trans ?_ q1; unfold mI_t mI_c mI_5; simp +decide only [hp_MuM, mc_M, mi_M, mu_M, if_true, if_false, false_and, true_and, and_true, and_false]
    · refine Eq.trans ?_ q2; unfold mI_t mI_c mI_5; simp +decide only [hp_MuM, mc_M, mi_M, mu_M, if_true, if_false, false_and, true_and, and_true, and_false]
    · refine Eq.trans ?_ q4; unfold mI_t mI_c mI_5; simp +decide only [hp_MuM, mc_M, mi_M, mu_M, if_true, if_false, false_and, true_and, and_true, and_false]
    · have hb6 : b < 6 := Nat.lt_of_lt_of_le hb k6
      obtain ⟨a1, a2, a3, a4⟩ := p2 b hb
      exact ⟨(one 126 93 b (by omega) hb6).trans a1, (one 127 94 b (by omega) hb6).trans a2, (one 128 95 b (by omega) hb6).trans a3, (one 129 96 b (by omega) hb6).trans a4, (one 130 97 b (by omega) hb6).trans (d3 b hb), (one 131 98 b (by omega) hb6).trans (d4 b hb)⟩
    · refine Eq.trans ?_ (p3 i hi)
      have hi : i < 3 * gK G := hi
      have h18 : i < 18 := by omega
      unfold mI_t mI_c mI_5; simp +decide only [h18, hp_MuM, mc_M, mi_M, mu_M, if_true, if_false, false_and, true_and, and_true, and_false, ite_self]
    · have hp : p < (ab_row (gD G)).length := hp
      exact (one 133 100 p (by omega) (by omega)).trans (d2 p hp)
    · refine Eq.trans ?_ d1; unfold mI_t mI_c mI_5; simp +decide only [hp_MuM, mc_M, mi_M, mu_M, if_true, if_false, false_and, true_and, and_true, and_false]
    · refine Eq.trans ?_ d5; unfold mI_t mI_c mI_5; simp +decide only [hp_MuM, mc_M, mi_M, mu_M, if_true, if_false, false_and, true_and, and_true, and_false]
    · refine Eq.trans ?_ d6; unfold mI_t mI_c mI_5; simp +decide only [hp_MuM, mc_M, mi_M, mu_M, if_true, if_false, false_and, true_and, and_true, and_false]
    · refine Eq.trans ?_ d7; unfold mI_t mI_c mI_5; simp +decide only [hp_MuM, mc_M, mi_M, mu_M, if_true, if_false, false_and, true_and, and_true, and_false]
    · refine Eq.trans ?_ d8; unfold mI_t mI_c mI_5; simp +decide only [hp_MuM, mc_M, mi_M, mu_M, if_true, if_false, false_and, true_and, and_true, and_false]
    · refine Eq.trans ?_ (q3 i hi)
      have hi : i < (gx_f G.1).length := hi
      have h18 : i < 12 := by omega
      unfold mI_t mI_c mI_5; simp +decide only [h18, hp_MuM, mc_M, mi_M, mu_M, if_true, if_false, false_and, true_and, and_true, and_false, ite_self]
theorem m_26 (ok : gb_ok G) (hR : RM S G) : oM S d 197 [.ref 92] (.int (op_26 G).1) (op_26 G).2 := by
  have hw := hR.1
  have hi := hR.2.2.1
  cases e : gb_i G with
  | none =>
    have eo : op_26 G = (-3, G) := by unfold op_26; rw [e]
    rw [e] at hi
    have hi : mm_M S 92 59 = nI 0 := hi
    rw [eo]
    refine oM_id hR ?_
    rw [e197, b197_0 (wx_o92 hw), hi, if_pos rfl, b197_7]
  | some Y =>
    have eo : op_26 G = (nI (ab_kn (gx_P Y)), Y, G.2) := by unfold op_26; rw [e]
    have okY := ok.2.1 Y e
    rw [e] at hi
    obtain ⟨hi1, y1, y2, y3, y4, y5, y6, y7, ⟨z0, z1, z2, z3, z4⟩, y8⟩ := hi
    have w4 : mm_W (mU_4 S) := hw
    have wc : mm_W (mU_c S) := hw
    have wt : mm_W (mU_t S) := hw
    have st : mm_cl d 197 [.ref 92] S = mm_ex d 197 44 [.ref 92, .int (nI 0)] [] (mU_4 S) := by
      unfold mU_4
      simp +decide only [e197, b197_0, b197_10, b197_20, b197_28, b197_36, hp_MuM, hp_LuL, hp_RuR, hp_McpM, hp_LcpL, hp_LuM, hp_RuM, hp_KuM, hp_NuM, hp_nuM, hp_zuM, hp_ouM, hp_auM, hp_kuM, hp_guM, hp_MuL, hp_RuL, hp_KuL, hp_NuL, hp_nuL, hp_zuL, hp_ouL, hp_auL, hp_kuL, hp_guL, hp_MuR, hp_LuR, hp_KuR, hp_NuR, hp_nuR, hp_zuR, hp_ouR, hp_auR, hp_kuR, hp_LcpM, hp_RcpM, hp_KcpM, hp_NcpM, hp_ncpM, hp_zcpM, hp_ocpM, hp_acpM, hp_kcpM, hp_gcpM, hp_McpL, hp_RcpL, hp_KcpL, hp_NcpL, hp_ncpL, hp_zcpL, hp_ocpL, hp_acpL, hp_kcpL, hp_gcpL, hp_MwM, hp_LwM, hp_RwM, hp_KwM, hp_NwM, hp_nwM, hp_zwM, hp_owM, hp_awM, hp_kwM, hp_gwM, hp_MwR, hp_LwR, hp_RwR, hp_KwR, hp_NwR, hp_nwR, hp_zwR, hp_owR, hp_awR, hp_kwR, hp_MwL, hp_LwL, hp_RwL, hp_KwL, hp_NwL, hp_nwL, hp_zwL, hp_owL, hp_awL, hp_kwL, hp_gwL, hp_w2M, hp_w2R, hp_w2L, wx_o92 hw, List.not_mem_nil, false_implies, implies_true, nI_clamp, nI_add, Nat.reducePow, hp_bd, hp_bdi, hp_ts, hp_tn, hp_tsc, hp_tnc, Nat.reduceAdd, Nat.reduceSub, Nat.reduceMul, Nat.reduceLT, Nat.reduceLeDiff, Nat.reduceEqDiff, reduceIte, not_true_eq_false, not_false_eq_true, and_true, true_and, and_self, and_false, false_and, or_true, true_or, or_false, false_or, decide_true, decide_false, Bool.and_true, Bool.true_and, Bool.not_false, Bool.or_false, Bool.false_or, Bool.or_true, Bool.true_or, hi1, i01]
    have la := l197 (d := d) w4 6 0 rfl
    rw [mu_0] at la
    have wa : mm_W (mu_s (mU_4 S) 6) := hw
    have lb := l197_142 (d := d) wa 18 0 rfl
    rw [mc_0] at lb
    have wb : mm_W (mc_1 (mu_s (mU_4 S) 6) 99 132 18) := hw
    have lc := l197_168 (d := d) wb 12 0 rfl
    rw [mc_0] at lc
    have rc : ∀ j, mm_M (mU_c S) 134 j = mm_M S 134 j := by
      intro j
      unfold mU_c mU_4
      simp +decide only [hp_MuM, mc_M, mi_M, mu_M, if_true, if_false, false_and, true_and, and_true, and_false, ite_self]
    have c0 := rc 0
    have c1 := rc 1
    have c2 := rc 2
    have c3 := rc 3
    have c4 := rc 4
    have cK : mm_M (mU_c S) 92 0 = nI (ab_kn (gx_P Y)) := by
      refine Eq.trans ?_ y1
      unfold mU_c mU_4
      simp +decide only [hp_MuM, mc_M, mi_M, mu_M, if_true, if_false, false_and, true_and, and_true, and_false, ite_self]
    have i5 : ∀ k, k < 5 → mm_inb (nI k) 5 = true := fun k hk => hp_inb hk (by omega)
    have run : mm_cl d 197 [.ref 92] S = some (some (.int (nI (ab_kn (gx_P Y)))), mU_t S) := by
      have e : mU_t S = mm_uM (mm_uM (mm_uM (mm_uM (mm_uM (mU_c S) 92 8 (mm_M S 134 0)) 92 10 (mm_M S 134 1)) 92 11 (mm_M S 134 2)) 92 12 (mm_M S 134 3)) 92 13 (mm_M S 134 4) := rfl
      rw [st, la, b197_140, lb, b197_166, lc, e]
      change mm_ex d 197 192 _ _ (mU_c S) = _
      rw [← c0, ← c1, ← c2, ← c3, ← c4]
      generalize mU_c S = C at *
      simp +decide only [b197_192, b197_208, b197_218, b197_228, b197_238, b197_243, hp_MuM, hp_LuL, hp_RuR, hp_McpM, hp_LcpL, hp_LuM, hp_RuM, hp_KuM, hp_NuM, hp_nuM, hp_zuM, hp_ouM, hp_auM, hp_kuM, hp_guM, hp_MuL, hp_RuL, hp_KuL, hp_NuL, hp_nuL, hp_zuL, hp_ouL, hp_auL, hp_kuL, hp_guL, hp_MuR, hp_LuR, hp_KuR, hp_NuR, hp_nuR, hp_zuR, hp_ouR, hp_auR, hp_kuR, hp_LcpM, hp_RcpM, hp_KcpM, hp_NcpM, hp_ncpM, hp_zcpM, hp_ocpM, hp_acpM, hp_kcpM, hp_gcpM, hp_McpL, hp_RcpL, hp_KcpL, hp_NcpL, hp_ncpL, hp_zcpL, hp_ocpL, hp_acpL, hp_kcpL, hp_gcpL, hp_MwM, hp_LwM, hp_RwM, hp_KwM, hp_NwM, hp_nwM, hp_zwM, hp_owM, hp_awM, hp_kwM, hp_gwM, hp_MwR, hp_LwR, hp_RwR, hp_KwR, hp_NwR, hp_nwR, hp_zwR, hp_owR, hp_awR, hp_kwR, hp_MwL, hp_LwL, hp_RwL, hp_KwL, hp_NwL, hp_nwL, hp_zwL, hp_owL, hp_awL, hp_kwL, hp_gwL, hp_w2M, hp_w2R, hp_w2L, wx_o92 wc, wx_k92 wc, wx_q92 wc, wx_g92_1 wc, wx_s92_1 wc, wx_N93 wc, wx_a93 wc, wx_g92_2 wc, wx_s92_2 wc, wx_N94 wc, wx_a94 wc, wx_g92_3 wc, wx_s92_3 wc, wx_N95 wc, wx_a95 wc, wx_g92_4 wc, wx_s92_4 wc, wx_N96 wc, wx_a96 wc, wx_g92_5 wc, wx_s92_5 wc, wx_N97 wc, wx_a97 wc, wx_g92_6 wc, wx_s92_6 wc, wx_N98 wc, wx_a98 wc, wx_g92_7 wc, wx_s92_7 wc, wx_N99 wc, wx_a99 wc, wx_g92_9 wc, wx_s92_9 wc, wx_N100 wc, wx_a100 wc, wx_g92_16 wc, wx_s92_16 wc, wx_N101 wc, wx_a101 wc, wx_g92_19 wc, wx_s92_19 wc, wx_N102 wc, wx_a102 wc, wx_g92_20 wc, wx_s92_20 wc, wx_N103 wc, wx_a103 wc, wx_g92_21 wc, wx_s92_21 wc, wx_N104 wc, wx_a104 wc, wx_g92_22 wc, wx_s92_22 wc, wx_N105 wc, wx_a105 wc, wx_g92_23 wc, wx_s92_23 wc, wx_N106 wc, wx_a106 wc, wx_g92_24 wc, wx_s92_24 wc, wx_N107 wc, wx_a107 wc, wx_g92_25 wc, wx_s92_25 wc, wx_N108 wc, wx_a108 wc, wx_g92_29 wc, wx_s92_29 wc, wx_N109 wc, wx_a109 wc, wx_g92_30 wc, wx_s92_30 wc, wx_N110 wc, wx_a110 wc, wx_g92_31 wc, wx_s92_31 wc, wx_N111 wc, wx_a111 wc, wx_g92_32 wc, wx_s92_32 wc, wx_N112 wc, wx_a112 wc, wx_g92_33 wc, wx_s92_33 wc, wx_N113 wc, wx_a113 wc, wx_g92_34 wc, wx_s92_34 wc, wx_N114 wc, wx_a114 wc, wx_g92_35 wc, wx_s92_35 wc, wx_N115 wc, wx_a115 wc, wx_g92_38 wc, wx_s92_38 wc, wx_N116 wc, wx_a116 wc, wx_g92_41 wc, wx_s92_41 wc, wx_N117 wc, wx_a117 wc, wx_g92_44 wc, wx_s92_44 wc, wx_N118 wc, wx_a118 wc, wx_g92_45 wc, wx_s92_45 wc, wx_N119 wc, wx_a119 wc, wx_g92_46 wc, wx_s92_46 wc, wx_N120 wc, wx_a120 wc, wx_g92_52 wc, wx_s92_52 wc, wx_N121 wc, wx_a121 wc, wx_g92_55 wc, wx_s92_55 wc, wx_N122 wc, wx_a122 wc, wx_g92_56 wc, wx_s92_56 wc, wx_N123 wc, wx_a123 wc, wx_g92_57 wc, wx_s92_57 wc, wx_N124 wc, wx_a124 wc, wx_g92_58 wc, wx_s92_58 wc, wx_N125 wc, wx_a125 wc, wx_g92_64 wc, wx_s92_64 wc, wx_N126 wc, wx_a126 wc, wx_g92_65 wc, wx_s92_65 wc, wx_N127 wc, wx_a127 wc, wx_g92_66 wc, wx_s92_66 wc, wx_N128 wc, wx_a128 wc, wx_g92_67 wc, wx_s92_67 wc, wx_N129 wc, wx_a129 wc, wx_g92_68 wc, wx_s92_68 wc, wx_N130 wc, wx_a130 wc, wx_g92_69 wc, wx_s92_69 wc, wx_N131 wc, wx_a131 wc, wx_g92_70 wc, wx_s92_70 wc, wx_N132 wc, wx_a132 wc, wx_g92_71 wc, wx_s92_71 wc, wx_N133 wc, wx_a133 wc, wx_g92_72 wc, wx_s92_72 wc, wx_N134 wc, wx_a134 wc, wx_g92_73 wc, wx_s92_73 wc, wx_N135 wc, wx_a135 wc, wx_g92_75 wc, wx_s92_75 wc, wx_N136 wc, wx_a136 wc, List.not_mem_nil, false_implies, implies_true, nI_clamp, nI_add, Nat.reducePow, hp_bd, hp_bdi, hp_ts, hp_tn, hp_tsc, hp_tnc, Nat.reduceAdd, Nat.reduceSub, Nat.reduceMul, Nat.reduceLT, Nat.reduceLeDiff, Nat.reduceEqDiff, reduceIte, not_true_eq_false, not_false_eq_true, and_true, true_and, and_self, and_false, false_and, or_true, true_or, or_false, false_or, decide_true, decide_false, Bool.and_true, Bool.true_and, Bool.not_false, Bool.or_false, Bool.false_or, Bool.or_true, Bool.true_or, i5, cK]
    have fr : ∀ c j, ¬ ((c = 92 ∧ (j = 0 ∨ j = 8 ∨ (10 ≤ j ∧ j ≤ 15) ∨ j = 18)) ∨ (93 ≤ c ∧ c ≤ 101)) → mm_M (mU_t S) c j = mm_M S c j := fun c j h => mU_fr h
    have f : sf_f gm_now S (mU_t S) := ⟨fun c j hc => ⟨fr c j (by unfold gm_now at hc; omega), rfl, rfl⟩, fun _ _ => ⟨rfl, rfl⟩, Nat.le_refl _⟩
    have k6 : ab_kn (gx_P Y) ≤ 6 := okY.1.1
    have r6 : (ab_row (gx_D Y)).length ≤ 6 := row_le okY.1 okY.2.1
    have f12 : (gx_f Y).length ≤ 12 := okY.2.2.2.1
    have one : ∀ t u b, (t = 126 ∧ u = 93) ∨ (t = 127 ∧ u = 94) ∨ (t = 128 ∧ u = 95) ∨ (t = 129 ∧ u = 96) ∨ (t = 130 ∧ u = 97) ∨ (t = 131 ∧ u = 98) ∨ (t = 133 ∧ u = 100) → b < 6 → mm_M (mU_t S) u b = mm_M S t b := by
      intro t u b h hb
      unfold mU_t mU_c mU_4
      rcases h with ⟨rfl, rfl⟩ | ⟨rfl, rfl⟩ | ⟨rfl, rfl⟩ | ⟨rfl, rfl⟩ | ⟨rfl, rfl⟩ | ⟨rfl, rfl⟩ | ⟨rfl, rfl⟩ <;> simp +decide only [hb, hp_MuM, mc_M, mi_M, mu_M, if_true, if_false, false_and, true_and, and_true, and_false]
    have h18 : mm_M (mU_t S) 92 18 = gm_ho (gx_h Y) := by
      refine Eq.trans ?_ y4; unfold mU_t mU_c mU_4; simp +decide only [hp_MuM, mc_M, mi_M, mu_M, if_true, if_false, false_and, true_and, and_true, and_false, ite_self]
    have h27 : mm_M (mU_t S) 92 27 = -1 := (fr 92 27 (by omega)).trans hR.2.1.2.2.2.2.2.2
    have sh : md_sh (mU_t S) (gx_h Y) (ab_sh (gx_P Y)) := by
      have hS := hR.2.2.2.1
      have ho := okY.2.2.2.2.2.1
      cases hh : gx_h Y with
      | none =>
        rw [hh] at ho h18
        exact ⟨h18, ho⟩
      | some h =>
        rw [hh] at ho h18
        obtain ⟨ho1, ho2⟩ := ho
        have hs := hS.2 h ho1
        have hl6 := ok.2.2.1
        refine ⟨by omega, h18, ?_, ?_⟩
        · rw [ho2]; exact (fr _ _ (by omega)).trans hs.1
        · rw [ho2]; exact mf_cl (fun c i a b => fr c i (by omega)) hs.2
    rw [eo]
    refine oM_X hR run f wt ⟨⟨?_, fun b hb => ?_, fun i hi => ?_, ⟨_, sh⟩, Or.inl ⟨h27, okY.2.2.2.2.2.2⟩⟩, ⟨?_, fun p hp => ?_, fun b hb => ?_, fun b hb => ?_, ?_, ?_, ?_, ?_⟩, ?_, ?_, fun i hi => ?_, h18, h27⟩ rfl rfl
    · refine Eq.trans ?_ y1; unfold mU_t mU_c mU_4; simp +decide only [hp_MuM, mc_M, mi_M, mu_M, if_true, if_false, false_and, true_and, and_true, and_false, ite_self]
    · have hb6 : b < 6 := Nat.lt_of_lt_of_le hb k6
      obtain ⟨a1, a2, a3, a4, a5, a6⟩ := y5 b hb
      exact ⟨(one 126 93 b (by omega) hb6).trans a1, (one 127 94 b (by omega) hb6).trans a2, (one 128 95 b (by omega) hb6).trans a3, (one 129 96 b (by omega) hb6).trans a4⟩
    · refine Eq.trans ?_ (y6 i hi)
      have h18 : i < 18 := by omega
      unfold mU_t mU_c mU_4; simp +decide only [h18, hp_MuM, mc_M, mi_M, mu_M, if_true, if_false, false_and, true_and, and_true, and_false, ite_self]
    · refine Eq.trans ?_ z0; unfold mU_t mU_c mU_4; simp +decide only [hp_MuM, mc_M, mi_M, mu_M, if_true, if_false, false_and, true_and, and_true, and_false]
    · exact (one 133 100 p (by omega) (by omega)).trans (y7 p hp)
    · have hb6 : b < 6 := Nat.lt_of_lt_of_le hb k6
      exact (one 130 97 b (by omega) hb6).trans (y5 b hb).2.2.2.2.1
    · have hb6 : b < 6 := Nat.lt_of_lt_of_le hb k6
      exact (one 131 98 b (by omega) hb6).trans (y5 b hb).2.2.2.2.2
    · refine Eq.trans ?_ z1; unfold mU_t mU_c mU_4; simp +decide only [hp_MuM, mc_M, mi_M, mu_M, if_true, if_false, false_and, true_and, and_true, and_false]
    · refine Eq.trans ?_ z2; unfold mU_t mU_c mU_4; simp +decide only [hp_MuM, mc_M, mi_M, mu_M, if_true, if_false, false_and, true_and, and_true, and_false]
    · refine Eq.trans ?_ z3; unfold mU_t mU_c mU_4; simp +decide only [hp_MuM, mc_M, mi_M, mu_M, if_true, if_false, false_and, true_and, and_true, and_false]
    · refine Eq.trans ?_ z4; unfold mU_t mU_c mU_4; simp +decide only [hp_MuM, mc_M, mi_M, mu_M, if_true, if_false, false_and, true_and, and_true, and_false]
    · refine Eq.trans ?_ y2; unfold mU_t mU_c mU_4; simp +decide only [hp_MuM, mc_M, mi_M, mu_M, if_true, if_false, false_and, true_and, and_true, and_false, ite_self]
    · refine Eq.trans ?_ y3; unfold mU_t mU_c mU_4; simp +decide only [hp_MuM, mc_M, mi_M, mu_M, if_true, if_false, false_and, true_and, and_true, and_false, ite_self]
    · refine Eq.trans ?_ (y8 i hi)
      have h12 : i < 12 := by omega
      unfold mU_t mU_c mU_4; simp +decide only [h12, hp_MuM, mc_M, mi_M, mu_M, if_true, if_false, false_and, true_and, and_true, and_false, ite_self]
end IU2
end
section
/-! ===== buyer of the reference; what an object is stays well ===== -/
section MB
variable {S T : mm_S} {G : gb_G} {d b n c j : Nat} {x y z : Int32}
def mB_t (S : mm_S) (kn st k v w : Nat) : mm_S := mm_uM (mm_uM (mm_uM (mm_uM (mm_uM (mm_uM (mm_uM (mm_uM (mm_uM (mm_uM (mm_uM (mm_uM S 93 kn (nI k)) 94 kn (nI v)) 95 kn (nI w)) 96 kn (-5)) 97 kn (nI 0)) 98 kn (nI 0)) 99 (3 * kn + 0) (nI 0)) 99 (3 * kn + 1) (nI 0)) 99 (3 * kn + 2) (nI 0)) 100 st (nI kn)) 92 8 (nI (st + 1))) 92 0 (nI (kn + 1))
theorem mB_M {kn st k v w : Nat} : mm_M (mB_t S kn st k v w) c j = if c = 92 ∧ j = 0 then nI (kn + 1) else if c = 92 ∧ j = 8 then nI (st + 1) else if c = 100 ∧ j = st then nI kn else if c = 99 ∧ j = 3 * kn + 2 then nI 0 else if c = 99 ∧ j = 3 * kn + 1 then nI 0 else if c = 99 ∧ j = 3 * kn + 0 then nI 0 else if c = 98 ∧ j = kn then nI 0 else if c = 97 ∧ j = kn then nI 0 else if c = 96 ∧ j = kn then -5 else if c = 95 ∧ j = kn then nI w else if c = 94 ∧ j = kn then nI v else if c = 93 ∧ j = kn then nI k else mm_M S c j := by
  unfold mB_t
  rw [hp_MuM, hp_MuM, hp_MuM, hp_MuM, hp_MuM, hp_MuM, hp_MuM, hp_MuM, hp_MuM, hp_MuM, hp_MuM, hp_MuM]
theorem m_0 (ok : gb_ok G) (hR : RM S G) : oM S (d + 1) 131 [.ref 92, .int x, .int y, .int z] (.int (op_0 G x y z).1) (op_0 G x y z).2 := by
  have hw := hR.1
  have hk : gK G ≤ 6 := ok.1.1.1
  have hkn : mm_M S 92 0 = nI (gK G) := hR.2.1.1.1
  by_cases ex : ab_kw 7 x = none
  · have kx := m128n (d := d) (S := S) (n := 6) rfl (by decide) ex
    have eo : op_0 G x y z = (-1, G) := by unfold op_0; simp only [ex]
    rw [eo]
    refine oM_id hR ?_
    simp only [b131_0, b131_7, b131_10, b131_12, b131_19, b131_22, b131_29, b131_32, b131_35, b131_44, b131_47, b131_62, b131_72, b131_82, b131_93, b131_103, b131_138, b131_153, b131_163, b131_172, e131, wx_o92 hw, wx_k92 hw, wx_q92 hw, wx_g92_1 hw, wx_s92_1 hw, wx_N93 hw, wx_a93 hw, wx_g92_2 hw, wx_s92_2 hw, wx_N94 hw, wx_a94 hw, wx_g92_3 hw, wx_s92_3 hw, wx_N95 hw, wx_a95 hw, wx_g92_4 hw, wx_s92_4 hw, wx_N96 hw, wx_a96 hw, wx_g92_5 hw, wx_s92_5 hw, wx_N97 hw, wx_a97 hw, wx_g92_6 hw, wx_s92_6 hw, wx_N98 hw, wx_a98 hw, wx_g92_7 hw, wx_s92_7 hw, wx_N99 hw, wx_a99 hw, wx_g92_9 hw, wx_s92_9 hw, wx_N100 hw, wx_a100 hw, wx_g92_16 hw, wx_s92_16 hw, wx_N101 hw, wx_a101 hw, wx_g92_19 hw, wx_s92_19 hw, wx_N102 hw, wx_a102 hw, wx_g92_20 hw, wx_s92_20 hw, wx_N103 hw, wx_a103 hw, wx_g92_21 hw, wx_s92_21 hw, wx_N104 hw, wx_a104 hw, wx_g92_22 hw, wx_s92_22 hw, wx_N105 hw, wx_a105 hw, wx_g92_23 hw, wx_s92_23 hw, wx_N106 hw, wx_a106 hw, wx_g92_24 hw, wx_s92_24 hw, wx_N107 hw, wx_a107 hw, wx_g92_25 hw, wx_s92_25 hw, wx_N108 hw, wx_a108 hw, wx_g92_29 hw, wx_s92_29 hw, wx_N109 hw, wx_a109 hw, wx_g92_30 hw, wx_s92_30 hw, wx_N110 hw, wx_a110 hw, wx_g92_31 hw, wx_s92_31 hw, wx_N111 hw, wx_a111 hw, wx_g92_32 hw, wx_s92_32 hw, wx_N112 hw, wx_a112 hw, wx_g92_33 hw, wx_s92_33 hw, wx_N113 hw, wx_a113 hw, wx_g92_34 hw, wx_s92_34 hw, wx_N114 hw, wx_a114 hw, wx_g92_35 hw, wx_s92_35 hw, wx_N115 hw, wx_a115 hw, wx_g92_38 hw, wx_s92_38 hw, wx_N116 hw, wx_a116 hw, wx_g92_41 hw, wx_s92_41 hw, wx_N117 hw, wx_a117 hw, wx_g92_44 hw, wx_s92_44 hw, wx_N118 hw, wx_a118 hw, wx_g92_45 hw, wx_s92_45 hw, wx_N119 hw, wx_a119 hw, wx_g92_46 hw, wx_s92_46 hw, wx_N120 hw, wx_a120 hw, wx_g92_52 hw, wx_s92_52 hw, wx_N121 hw, wx_a121 hw, wx_g92_55 hw, wx_s92_55 hw, wx_N122 hw, wx_a122 hw, wx_g92_56 hw, wx_s92_56 hw, wx_N123 hw, wx_a123 hw, wx_g92_57 hw, wx_s92_57 hw, wx_N124 hw, wx_a124 hw, wx_g92_58 hw, wx_s92_58 hw, wx_N125 hw, wx_a125 hw, wx_g92_64 hw, wx_s92_64 hw, wx_N126 hw, wx_a126 hw, wx_g92_65 hw, wx_s92_65 hw, wx_N127 hw, wx_a127 hw, wx_g92_66 hw, wx_s92_66 hw, wx_N128 hw, wx_a128 hw, wx_g92_67 hw, wx_s92_67 hw, wx_N129 hw, wx_a129 hw, wx_g92_68 hw, wx_s92_68 hw, wx_N130 hw, wx_a130 hw, wx_g92_69 hw, wx_s92_69 hw, wx_N131 hw, wx_a131 hw, wx_g92_70 hw, wx_s92_70 hw, wx_N132 hw, wx_a132 hw, wx_g92_71 hw, wx_s92_71 hw, wx_N133 hw, wx_a133 hw, wx_g92_72 hw, wx_s92_72 hw, wx_N134 hw, wx_a134 hw, wx_g92_73 hw, wx_s92_73 hw, wx_N135 hw, wx_a135 hw, wx_g92_75 hw, wx_s92_75 hw, wx_N136 hw, wx_a136 hw, List.not_mem_nil, false_implies, implies_true, nI_clamp, nI_add, Nat.reducePow, hp_bd, hp_bdi, hp_ts, hp_tn, hp_tsc, hp_tnc, Nat.reduceAdd, Nat.reduceSub, Nat.reduceMul, Nat.reduceLT, Nat.reduceLeDiff, Nat.reduceEqDiff, reduceIte, not_true_eq_false, not_false_eq_true, and_true, true_and, and_self, and_false, false_and, or_true, true_or, or_false, false_or, decide_true, decide_false, Bool.and_true, Bool.true_and, Bool.not_false, Bool.or_false, Bool.false_or, Bool.or_true, Bool.true_or, i01, kx]
  rcases kw_d (n := 6) (m := 7) rfl (by decide) x with ⟨z, -⟩ | ⟨z, -⟩ | ⟨k, hk7, ex, rfl, -⟩
  · exact absurd z ex
  · exact absurd z ex
  have kx := m128s (d := d) (S := S) (n := 6) rfl (by decide) hk7
  by_cases ey : ab_kw 10 y = none
  · have ky := m128n (d := d) (S := S) (n := 9) rfl (by decide) ey
    have eo : op_0 G (nI k) y z = (-2, G) := by unfold op_0; simp only [ex, ey]
    rw [eo]
    refine oM_id hR ?_
    simp only [b131_0, b131_7, b131_10, b131_12, b131_19, b131_22, b131_29, b131_32, b131_35, b131_44, b131_47, b131_62, b131_72, b131_82, b131_93, b131_103, b131_138, b131_153, b131_163, b131_172, e131, wx_o92 hw, wx_k92 hw, wx_q92 hw, wx_g92_1 hw, wx_s92_1 hw, wx_N93 hw, wx_a93 hw, wx_g92_2 hw, wx_s92_2 hw, wx_N94 hw, wx_a94 hw, wx_g92_3 hw, wx_s92_3 hw, wx_N95 hw, wx_a95 hw, wx_g92_4 hw, wx_s92_4 hw, wx_N96 hw, wx_a96 hw, wx_g92_5 hw, wx_s92_5 hw, wx_N97 hw, wx_a97 hw, wx_g92_6 hw, wx_s92_6 hw, wx_N98 hw, wx_a98 hw, wx_g92_7 hw, wx_s92_7 hw, wx_N99 hw, wx_a99 hw, wx_g92_9 hw, wx_s92_9 hw, wx_N100 hw, wx_a100 hw, wx_g92_16 hw, wx_s92_16 hw, wx_N101 hw, wx_a101 hw, wx_g92_19 hw, wx_s92_19 hw, wx_N102 hw, wx_a102 hw, wx_g92_20 hw, wx_s92_20 hw, wx_N103 hw, wx_a103 hw, wx_g92_21 hw, wx_s92_21 hw, wx_N104 hw, wx_a104 hw, wx_g92_22 hw, wx_s92_22 hw, wx_N105 hw, wx_a105 hw, wx_g92_23 hw, wx_s92_23 hw, wx_N106 hw, wx_a106 hw, wx_g92_24 hw, wx_s92_24 hw, wx_N107 hw, wx_a107 hw, wx_g92_25 hw, wx_s92_25 hw, wx_N108 hw, wx_a108 hw, wx_g92_29 hw, wx_s92_29 hw, wx_N109 hw, wx_a109 hw, wx_g92_30 hw, wx_s92_30 hw, wx_N110 hw, wx_a110 hw, wx_g92_31 hw, wx_s92_31 hw, wx_N111 hw, wx_a111 hw, wx_g92_32 hw, wx_s92_32 hw, wx_N112 hw, wx_a112 hw, wx_g92_33 hw, wx_s92_33 hw, wx_N113 hw, wx_a113 hw, wx_g92_34 hw, wx_s92_34 hw, wx_N114 hw, wx_a114 hw, wx_g92_35 hw, wx_s92_35 hw, wx_N115 hw, wx_a115 hw, wx_g92_38 hw, wx_s92_38 hw, wx_N116 hw, wx_a116 hw, wx_g92_41 hw, wx_s92_41 hw, wx_N117 hw, wx_a117 hw, wx_g92_44 hw, wx_s92_44 hw, wx_N118 hw, wx_a118 hw, wx_g92_45 hw, wx_s92_45 hw, wx_N119 hw, wx_a119 hw, wx_g92_46 hw, wx_s92_46 hw, wx_N120 hw, wx_a120 hw, wx_g92_52 hw, wx_s92_52 hw, wx_N121 hw, wx_a121 hw, wx_g92_55 hw, wx_s92_55 hw, wx_N122 hw, wx_a122 hw, wx_g92_56 hw, wx_s92_56 hw, wx_N123 hw, wx_a123 hw, wx_g92_57 hw, wx_s92_57 hw, wx_N124 hw, wx_a124 hw, wx_g92_58 hw, wx_s92_58 hw, wx_N125 hw, wx_a125 hw, wx_g92_64 hw, wx_s92_64 hw, wx_N126 hw, wx_a126 hw, wx_g92_65 hw, wx_s92_65 hw, wx_N127 hw, wx_a127 hw, wx_g92_66 hw, wx_s92_66 hw, wx_N128 hw, wx_a128 hw, wx_g92_67 hw, wx_s92_67 hw, wx_N129 hw, wx_a129 hw, wx_g92_68 hw, wx_s92_68 hw, wx_N130 hw, wx_a130 hw, wx_g92_69 hw, wx_s92_69 hw, wx_N131 hw, wx_a131 hw, wx_g92_70 hw, wx_s92_70 hw, wx_N132 hw, wx_a132 hw, wx_g92_71 hw, wx_s92_71 hw, wx_N133 hw, wx_a133 hw, wx_g92_72 hw, wx_s92_72 hw, wx_N134 hw, wx_a134 hw, wx_g92_73 hw, wx_s92_73 hw, wx_N135 hw, wx_a135 hw, wx_g92_75 hw, wx_s92_75 hw, wx_N136 hw, wx_a136 hw, List.not_mem_nil, false_implies, implies_true, nI_clamp, nI_add, Nat.reducePow, hp_bd, hp_bdi, hp_ts, hp_tn, hp_tsc, hp_tnc, Nat.reduceAdd, Nat.reduceSub, Nat.reduceMul, Nat.reduceLT, Nat.reduceLeDiff, Nat.reduceEqDiff, reduceIte, not_true_eq_false, not_false_eq_true, and_true, true_and, and_self, and_false, false_and, or_true, true_or, or_false, false_or, decide_true, decide_false, Bool.and_true, Bool.true_and, Bool.not_false, Bool.or_false, Bool.false_or, Bool.or_true, Bool.true_or, i01, kx, ky]
  rcases kw_d (n := 9) (m := 10) rfl (by decide) y with ⟨z, -⟩ | ⟨z, -⟩ | ⟨v, hv, ey, rfl, -⟩
  · exact absurd z ey
  · exact absurd z ey
  have ky := m128s (d := d) (S := S) (n := 9) rfl (by decide) hv
  by_cases ez : ab_kw 100 z = none
  · have kz := m128n (d := d) (S := S) (n := 99) rfl (by decide) ez
    have eo : op_0 G (nI k) (nI v) z = (-2, G) := by unfold op_0; simp only [ex, ey, ez]
    rw [eo]
    refine oM_id hR ?_
    simp only [b131_0, b131_7, b131_10, b131_12, b131_19, b131_22, b131_29, b131_32, b131_35, b131_44, b131_47, b131_62, b131_72, b131_82, b131_93, b131_103, b131_138, b131_153, b131_163, b131_172, e131, wx_o92 hw, wx_k92 hw, wx_q92 hw, wx_g92_1 hw, wx_s92_1 hw, wx_N93 hw, wx_a93 hw, wx_g92_2 hw, wx_s92_2 hw, wx_N94 hw, wx_a94 hw, wx_g92_3 hw, wx_s92_3 hw, wx_N95 hw, wx_a95 hw, wx_g92_4 hw, wx_s92_4 hw, wx_N96 hw, wx_a96 hw, wx_g92_5 hw, wx_s92_5 hw, wx_N97 hw, wx_a97 hw, wx_g92_6 hw, wx_s92_6 hw, wx_N98 hw, wx_a98 hw, wx_g92_7 hw, wx_s92_7 hw, wx_N99 hw, wx_a99 hw, wx_g92_9 hw, wx_s92_9 hw, wx_N100 hw, wx_a100 hw, wx_g92_16 hw, wx_s92_16 hw, wx_N101 hw, wx_a101 hw, wx_g92_19 hw, wx_s92_19 hw, wx_N102 hw, wx_a102 hw, wx_g92_20 hw, wx_s92_20 hw, wx_N103 hw, wx_a103 hw, wx_g92_21 hw, wx_s92_21 hw, wx_N104 hw, wx_a104 hw, wx_g92_22 hw, wx_s92_22 hw, wx_N105 hw, wx_a105 hw, wx_g92_23 hw, wx_s92_23 hw, wx_N106 hw, wx_a106 hw, wx_g92_24 hw, wx_s92_24 hw, wx_N107 hw, wx_a107 hw, wx_g92_25 hw, wx_s92_25 hw, wx_N108 hw, wx_a108 hw, wx_g92_29 hw, wx_s92_29 hw, wx_N109 hw, wx_a109 hw, wx_g92_30 hw, wx_s92_30 hw, wx_N110 hw, wx_a110 hw, wx_g92_31 hw, wx_s92_31 hw, wx_N111 hw, wx_a111 hw, wx_g92_32 hw, wx_s92_32 hw, wx_N112 hw, wx_a112 hw, wx_g92_33 hw, wx_s92_33 hw, wx_N113 hw, wx_a113 hw, wx_g92_34 hw, wx_s92_34 hw, wx_N114 hw, wx_a114 hw, wx_g92_35 hw, wx_s92_35 hw, wx_N115 hw, wx_a115 hw, wx_g92_38 hw, wx_s92_38 hw, wx_N116 hw, wx_a116 hw, wx_g92_41 hw, wx_s92_41 hw, wx_N117 hw, wx_a117 hw, wx_g92_44 hw, wx_s92_44 hw, wx_N118 hw, wx_a118 hw, wx_g92_45 hw, wx_s92_45 hw, wx_N119 hw, wx_a119 hw, wx_g92_46 hw, wx_s92_46 hw, wx_N120 hw, wx_a120 hw, wx_g92_52 hw, wx_s92_52 hw, wx_N121 hw, wx_a121 hw, wx_g92_55 hw, wx_s92_55 hw, wx_N122 hw, wx_a122 hw, wx_g92_56 hw, wx_s92_56 hw, wx_N123 hw, wx_a123 hw, wx_g92_57 hw, wx_s92_57 hw, wx_N124 hw, wx_a124 hw, wx_g92_58 hw, wx_s92_58 hw, wx_N125 hw, wx_a125 hw, wx_g92_64 hw, wx_s92_64 hw, wx_N126 hw, wx_a126 hw, wx_g92_65 hw, wx_s92_65 hw, wx_N127 hw, wx_a127 hw, wx_g92_66 hw, wx_s92_66 hw, wx_N128 hw, wx_a128 hw, wx_g92_67 hw, wx_s92_67 hw, wx_N129 hw, wx_a129 hw, wx_g92_68 hw, wx_s92_68 hw, wx_N130 hw, wx_a130 hw, wx_g92_69 hw, wx_s92_69 hw, wx_N131 hw, wx_a131 hw, wx_g92_70 hw, wx_s92_70 hw, wx_N132 hw, wx_a132 hw, wx_g92_71 hw, wx_s92_71 hw, wx_N133 hw, wx_a133 hw, wx_g92_72 hw, wx_s92_72 hw, wx_N134 hw, wx_a134 hw, wx_g92_73 hw, wx_s92_73 hw, wx_N135 hw, wx_a135 hw, wx_g92_75 hw, wx_s92_75 hw, wx_N136 hw, wx_a136 hw, List.not_mem_nil, false_implies, implies_true, nI_clamp, nI_add, Nat.reducePow, hp_bd, hp_bdi, hp_ts, hp_tn, hp_tsc, hp_tnc, Nat.reduceAdd, Nat.reduceSub, Nat.reduceMul, Nat.reduceLT, Nat.reduceLeDiff, Nat.reduceEqDiff, reduceIte, not_true_eq_false, not_false_eq_true, and_true, true_and, and_self, and_false, false_and, or_true, true_or, or_false, false_or, decide_true, decide_false, Bool.and_true, Bool.true_and, Bool.not_false, Bool.or_false, Bool.false_or, Bool.or_true, Bool.true_or, i01, kx, ky, kz]
  rcases kw_d (n := 99) (m := 100) rfl (by decide) z with ⟨z, -⟩ | ⟨z, -⟩ | ⟨w, hw9, ez, rfl, -⟩
  · exact absurd z ez
  · exact absurd z ez
  have kz := m128s (d := d) (S := S) (n := 99) rfl (by decide) hw9
  have e6 : (nI (gK G) = nI 6) = (gK G = 6) := propext (nI_eq (by omega) (by decide))
  by_cases h6 : gK G = 6
  · have eo : op_0 G (nI k) (nI v) (nI w) = (-4, G) := by unfold op_0; simp only [ex, ey, ez, h6, if_true]
    rw [eo]
    refine oM_id hR ?_
    simp only [b131_0, b131_7, b131_10, b131_12, b131_19, b131_22, b131_29, b131_32, b131_35, b131_44, b131_47, b131_62, b131_72, b131_82, b131_93, b131_103, b131_138, b131_153, b131_163, b131_172, e131, wx_o92 hw, wx_k92 hw, wx_q92 hw, wx_g92_1 hw, wx_s92_1 hw, wx_N93 hw, wx_a93 hw, wx_g92_2 hw, wx_s92_2 hw, wx_N94 hw, wx_a94 hw, wx_g92_3 hw, wx_s92_3 hw, wx_N95 hw, wx_a95 hw, wx_g92_4 hw, wx_s92_4 hw, wx_N96 hw, wx_a96 hw, wx_g92_5 hw, wx_s92_5 hw, wx_N97 hw, wx_a97 hw, wx_g92_6 hw, wx_s92_6 hw, wx_N98 hw, wx_a98 hw, wx_g92_7 hw, wx_s92_7 hw, wx_N99 hw, wx_a99 hw, wx_g92_9 hw, wx_s92_9 hw, wx_N100 hw, wx_a100 hw, wx_g92_16 hw, wx_s92_16 hw, wx_N101 hw, wx_a101 hw, wx_g92_19 hw, wx_s92_19 hw, wx_N102 hw, wx_a102 hw, wx_g92_20 hw, wx_s92_20 hw, wx_N103 hw, wx_a103 hw, wx_g92_21 hw, wx_s92_21 hw, wx_N104 hw, wx_a104 hw, wx_g92_22 hw, wx_s92_22 hw, wx_N105 hw, wx_a105 hw, wx_g92_23 hw, wx_s92_23 hw, wx_N106 hw, wx_a106 hw, wx_g92_24 hw, wx_s92_24 hw, wx_N107 hw, wx_a107 hw, wx_g92_25 hw, wx_s92_25 hw, wx_N108 hw, wx_a108 hw, wx_g92_29 hw, wx_s92_29 hw, wx_N109 hw, wx_a109 hw, wx_g92_30 hw, wx_s92_30 hw, wx_N110 hw, wx_a110 hw, wx_g92_31 hw, wx_s92_31 hw, wx_N111 hw, wx_a111 hw, wx_g92_32 hw, wx_s92_32 hw, wx_N112 hw, wx_a112 hw, wx_g92_33 hw, wx_s92_33 hw, wx_N113 hw, wx_a113 hw, wx_g92_34 hw, wx_s92_34 hw, wx_N114 hw, wx_a114 hw, wx_g92_35 hw, wx_s92_35 hw, wx_N115 hw, wx_a115 hw, wx_g92_38 hw, wx_s92_38 hw, wx_N116 hw, wx_a116 hw, wx_g92_41 hw, wx_s92_41 hw, wx_N117 hw, wx_a117 hw, wx_g92_44 hw, wx_s92_44 hw, wx_N118 hw, wx_a118 hw, wx_g92_45 hw, wx_s92_45 hw, wx_N119 hw, wx_a119 hw, wx_g92_46 hw, wx_s92_46 hw, wx_N120 hw, wx_a120 hw, wx_g92_52 hw, wx_s92_52 hw, wx_N121 hw, wx_a121 hw, wx_g92_55 hw, wx_s92_55 hw, wx_N122 hw, wx_a122 hw, wx_g92_56 hw, wx_s92_56 hw, wx_N123 hw, wx_a123 hw, wx_g92_57 hw, wx_s92_57 hw, wx_N124 hw, wx_a124 hw, wx_g92_58 hw, wx_s92_58 hw, wx_N125 hw, wx_a125 hw, wx_g92_64 hw, wx_s92_64 hw, wx_N126 hw, wx_a126 hw, wx_g92_65 hw, wx_s92_65 hw, wx_N127 hw, wx_a127 hw, wx_g92_66 hw, wx_s92_66 hw, wx_N128 hw, wx_a128 hw, wx_g92_67 hw, wx_s92_67 hw, wx_N129 hw, wx_a129 hw, wx_g92_68 hw, wx_s92_68 hw, wx_N130 hw, wx_a130 hw, wx_g92_69 hw, wx_s92_69 hw, wx_N131 hw, wx_a131 hw, wx_g92_70 hw, wx_s92_70 hw, wx_N132 hw, wx_a132 hw, wx_g92_71 hw, wx_s92_71 hw, wx_N133 hw, wx_a133 hw, wx_g92_72 hw, wx_s92_72 hw, wx_N134 hw, wx_a134 hw, wx_g92_73 hw, wx_s92_73 hw, wx_N135 hw, wx_a135 hw, wx_g92_75 hw, wx_s92_75 hw, wx_N136 hw, wx_a136 hw, List.not_mem_nil, false_implies, implies_true, nI_clamp, nI_add, Nat.reducePow, hp_bd, hp_bdi, hp_ts, hp_tn, hp_tsc, hp_tnc, Nat.reduceAdd, Nat.reduceSub, Nat.reduceMul, Nat.reduceLT, Nat.reduceLeDiff, Nat.reduceEqDiff, reduceIte, not_true_eq_false, not_false_eq_true, and_true, true_and, and_self, and_false, false_and, or_true, true_or, or_false, false_or, decide_true, decide_false, Bool.and_true, Bool.true_and, Bool.not_false, Bool.or_false, Bool.false_or, Bool.or_true, Bool.true_or, i01, kx, ky, kz, hkn, e6, h6]
  have eo : op_0 G (nI k) (nI v) (nI w) = (nI (gK G), gX_new G.1 k v w, G.2) := by unfold op_0; simp only [ex, ey, ez, h6, if_false]
  have hl := new_len ok h6
  have h8 : mm_M S 92 8 = nI (ab_row (gD G)).length := hR.2.1.2.1.1
  have ck : (nI (gK G)).toNatClampNeg = gK G := nI_clamp (by omega)
  have ik : mm_inb (nI (gK G)) 6 = true := hp_inb (by omega) (by omega)
  have cl : (nI (ab_row (gD G)).length).toNatClampNeg = (ab_row (gD G)).length := nI_clamp (by omega)
  have il : mm_inb (nI (ab_row (gD G)).length) 6 = true := hp_inb (by omega) (by omega)
  have ct : ∀ i, i < 3 → (nI (3 * gK G + i)).toNatClampNeg = 3 * gK G + i := fun i hi => nI_clamp (by omega)
  have it : ∀ i, i < 3 → mm_inb (nI (3 * gK G + i)) 18 = true := fun i hi => hp_inb (by omega) (by omega)
  have ct0 := ct 0 (by decide)
  have ct1 := ct 1 (by decide)
  have ct2 := ct 2 (by decide)
  have it0 := it 0 (by decide)
  have it1 := it 1 (by decide)
  have it2 := it 2 (by decide)
  have u0 : ¬ nI 3 ≤ nI 0 := by decide
  have u1 : ¬ nI 3 ≤ nI 1 := by decide
  have u2 : ¬ nI 3 ≤ nI 2 := by decide
  have u3 : nI 3 ≤ nI 3 := by decide
  have sb : nI (gK G + 1) - nI 1 = nI (gK G) := by rw [pk_sub (by omega), Nat.add_sub_cancel]
  have run : mm_cl (d + 1) 131 [.ref 92, .int (nI k), .int (nI v), .int (nI w)] S = some (some (.int (nI (gK G))), mB_t S (gK G) (ab_row (gD G)).length k v w) := by
    unfold mB_t
    simp only [b131_0, b131_7, b131_10, b131_12, b131_19, b131_22, b131_29, b131_32, b131_35, b131_44, b131_47, b131_62, b131_72, b131_82, b131_93, b131_103, b131_111, b131_117, b131_138, b131_153, b131_163, b131_172, e131, wx_o92 hw, wx_k92 hw, wx_q92 hw, wx_g92_1 hw, wx_s92_1 hw, wx_N93 hw, wx_a93 hw, wx_g92_2 hw, wx_s92_2 hw, wx_N94 hw, wx_a94 hw, wx_g92_3 hw, wx_s92_3 hw, wx_N95 hw, wx_a95 hw, wx_g92_4 hw, wx_s92_4 hw, wx_N96 hw, wx_a96 hw, wx_g92_5 hw, wx_s92_5 hw, wx_N97 hw, wx_a97 hw, wx_g92_6 hw, wx_s92_6 hw, wx_N98 hw, wx_a98 hw, wx_g92_7 hw, wx_s92_7 hw, wx_N99 hw, wx_a99 hw, wx_g92_9 hw, wx_s92_9 hw, wx_N100 hw, wx_a100 hw, wx_g92_16 hw, wx_s92_16 hw, wx_N101 hw, wx_a101 hw, wx_g92_19 hw, wx_s92_19 hw, wx_N102 hw, wx_a102 hw, wx_g92_20 hw, wx_s92_20 hw, wx_N103 hw, wx_a103 hw, wx_g92_21 hw, wx_s92_21 hw, wx_N104 hw, wx_a104 hw, wx_g92_22 hw, wx_s92_22 hw, wx_N105 hw, wx_a105 hw, wx_g92_23 hw, wx_s92_23 hw, wx_N106 hw, wx_a106 hw, wx_g92_24 hw, wx_s92_24 hw, wx_N107 hw, wx_a107 hw, wx_g92_25 hw, wx_s92_25 hw, wx_N108 hw, wx_a108 hw, wx_g92_29 hw, wx_s92_29 hw, wx_N109 hw, wx_a109 hw, wx_g92_30 hw, wx_s92_30 hw, wx_N110 hw, wx_a110 hw, wx_g92_31 hw, wx_s92_31 hw, wx_N111 hw, wx_a111 hw, wx_g92_32 hw, wx_s92_32 hw, wx_N112 hw, wx_a112 hw, wx_g92_33 hw, wx_s92_33 hw, wx_N113 hw, wx_a113 hw, wx_g92_34 hw, wx_s92_34 hw, wx_N114 hw, wx_a114 hw, wx_g92_35 hw, wx_s92_35 hw, wx_N115 hw, wx_a115 hw, wx_g92_38 hw, wx_s92_38 hw, wx_N116 hw, wx_a116 hw, wx_g92_41 hw, wx_s92_41 hw, wx_N117 hw, wx_a117 hw, wx_g92_44 hw, wx_s92_44 hw, wx_N118 hw, wx_a118 hw, wx_g92_45 hw, wx_s92_45 hw, wx_N119 hw, wx_a119 hw, wx_g92_46 hw, wx_s92_46 hw, wx_N120 hw, wx_a120 hw, wx_g92_52 hw, wx_s92_52 hw, wx_N121 hw, wx_a121 hw, wx_g92_55 hw, wx_s92_55 hw, wx_N122 hw, wx_a122 hw, wx_g92_56 hw, wx_s92_56 hw, wx_N123 hw, wx_a123 hw, wx_g92_57 hw, wx_s92_57 hw, wx_N124 hw, wx_a124 hw, wx_g92_58 hw, wx_s92_58 hw, wx_N125 hw, wx_a125 hw, wx_g92_64 hw, wx_s92_64 hw, wx_N126 hw, wx_a126 hw, wx_g92_65 hw, wx_s92_65 hw, wx_N127 hw, wx_a127 hw, wx_g92_66 hw, wx_s92_66 hw, wx_N128 hw, wx_a128 hw, wx_g92_67 hw, wx_s92_67 hw, wx_N129 hw, wx_a129 hw, wx_g92_68 hw, wx_s92_68 hw, wx_N130 hw, wx_a130 hw, wx_g92_69 hw, wx_s92_69 hw, wx_N131 hw, wx_a131 hw, wx_g92_70 hw, wx_s92_70 hw, wx_N132 hw, wx_a132 hw, wx_g92_71 hw, wx_s92_71 hw, wx_N133 hw, wx_a133 hw, wx_g92_72 hw, wx_s92_72 hw, wx_N134 hw, wx_a134 hw, wx_g92_73 hw, wx_s92_73 hw, wx_N135 hw, wx_a135 hw, wx_g92_75 hw, wx_s92_75 hw, wx_N136 hw, wx_a136 hw, List.not_mem_nil, false_implies, implies_true, nI_clamp, nI_add, Nat.reducePow, hp_bd, hp_bdi, hp_ts, hp_tn, hp_tsc, hp_tnc, Nat.reduceAdd, Nat.reduceSub, Nat.reduceMul, Nat.reduceLT, Nat.reduceLeDiff, Nat.reduceEqDiff, reduceIte, not_true_eq_false, not_false_eq_true, and_true, true_and, and_self, and_false, false_and, or_true, true_or, or_false, false_or, decide_true, decide_false, Bool.and_true, Bool.true_and, Bool.not_false, Bool.or_false, Bool.false_or, Bool.or_true, Bool.true_or, hp_MuM, hp_LuL, hp_RuR, hp_McpM, hp_LcpL, hp_LuM, hp_RuM, hp_KuM, hp_NuM, hp_nuM, hp_zuM, hp_ouM, hp_auM, hp_kuM, hp_guM, hp_MuL, hp_RuL, hp_KuL, hp_NuL, hp_nuL, hp_zuL, hp_ouL, hp_auL, hp_kuL, hp_guL, hp_MuR, hp_LuR, hp_KuR, hp_NuR, hp_nuR, hp_zuR, hp_ouR, hp_auR, hp_kuR, hp_LcpM, hp_RcpM, hp_KcpM, hp_NcpM, hp_ncpM, hp_zcpM, hp_ocpM, hp_acpM, hp_kcpM, hp_gcpM, hp_McpL, hp_RcpL, hp_KcpL, hp_NcpL, hp_ncpL, hp_zcpL, hp_ocpL, hp_acpL, hp_kcpL, hp_gcpL, hp_MwM, hp_LwM, hp_RwM, hp_KwM, hp_NwM, hp_nwM, hp_zwM, hp_owM, hp_awM, hp_kwM, hp_gwM, hp_MwR, hp_LwR, hp_RwR, hp_KwR, hp_NwR, hp_nwR, hp_zwR, hp_owR, hp_awR, hp_kwR, hp_MwL, hp_LwL, hp_RwL, hp_KwL, hp_NwL, hp_nwL, hp_zwL, hp_owL, hp_awL, hp_kwL, hp_gwL, hp_w2M, hp_w2R, hp_w2L, i01, kx, ky, kz, hkn, e6, h6, h8, nI_mul, ck, ik, cl, il, ct0, ct1, ct2, it0, it1, it2, u0, u1, u2, u3, sb]
  have f : sf_f gm_now S (mB_t S (gK G) (ab_row (gD G)).length k v w) := by
    refine ⟨fun c j hc => ⟨?_, rfl, rfl⟩, fun _ _ => ⟨rfl, rfl⟩, Nat.le_refl _⟩
    unfold gm_now at hc
    rw [mB_M, if_neg (by omega), if_neg (by omega), if_neg (by omega), if_neg (by omega), if_neg (by omega), if_neg (by omega), if_neg (by omega), if_neg (by omega), if_neg (by omega), if_neg (by omega), if_neg (by omega), if_neg (by omega)]
  have fr : ∀ c j, ¬ ((c = 92 ∧ (j = 0 ∨ j = 8)) ∨ (93 ≤ c ∧ c ≤ 100)) → mm_M (mB_t S (gK G) (ab_row (gD G)).length k v w) c j = mm_M S c j := by
    intro c j hc
    rw [mB_M, if_neg (by omega), if_neg (by omega), if_neg (by omega), if_neg (by omega), if_neg (by omega), if_neg (by omega), if_neg (by omega), if_neg (by omega), if_neg (by omega), if_neg (by omega), if_neg (by omega), if_neg (by omega)]
  rw [eo]
  obtain ⟨⟨p1, p2, p3, ⟨o, p4⟩, p5⟩, ⟨d1, d2, d3, d4, d5, d6, d7, d8⟩, q1, q2, q3, q4, q5⟩ := hR.2.1
  refine oM_X hR run f hw ⟨⟨?_, fun i hi => ⟨?_, ?_, ?_, ?_⟩, fun i hi => ?_, ⟨o, mf_sh (fun c i a b => fr c i (by omega)) (fr 92 18 (by omega)) p4⟩, ?_⟩, ⟨?_, fun i hi => ?_, fun i hi => ?_, fun i hi => ?_, (fr _ _ (by omega)).trans d5, (fr _ _ (by omega)).trans d6, (fr _ _ (by omega)).trans d7, (fr _ _ (by omega)).trans d8⟩, (fr _ _ (by omega)).trans q1, (fr _ _ (by omega)).trans q2, fun i hi => (fr _ _ (by omega)).trans (q3 i hi), (fr _ _ (by omega)).trans q4, (fr _ _ (by omega)).trans q5⟩ rfl rfl
  · rw [mB_M, if_pos ⟨rfl, rfl⟩]; rfl
  · show _ = nI (ab_up1 (ab_ki (gP G)) (gK G) k i)
    have hi : i < gK G + 1 := hi
    rw [mB_M]
    unfold ab_up1
    by_cases h : i = gK G
    · simp +decide only [h, if_true, if_false, and_true, and_false, false_and]
    · simp +decide only [h, if_false, and_false, false_and]
      exact (p2 i (by have : i < gK G := (by omega); exact this)).1
  · show _ = nI (ab_up1 (ab_v (gP G)) (gK G) v i)
    have hi : i < gK G + 1 := hi
    rw [mB_M]
    unfold ab_up1
    by_cases h : i = gK G
    · simp +decide only [h, if_true, if_false, and_true, and_false, false_and]
    · simp +decide only [h, if_false, and_false, false_and]
      exact (p2 i (by have : i < gK G := (by omega); exact this)).2.1
  · show _ = nI (ab_up1 (ab_wo (gP G)) (gK G) w i)
    have hi : i < gK G + 1 := hi
    rw [mB_M]
    unfold ab_up1
    by_cases h : i = gK G
    · simp +decide only [h, if_true, if_false, and_true, and_false, false_and]
    · simp +decide only [h, if_false, and_false, false_and]
      exact (p2 i (by have : i < gK G := (by omega); exact this)).2.2.1
  · show _ = md_fo (ab_up1 (ab_fr (gP G)) (gK G) none i)
    have hi : i < gK G + 1 := hi
    rw [mB_M]
    unfold ab_up1
    by_cases h : i = gK G
    · simp +decide only [h, if_true, if_false, and_true, and_false, false_and]
    · simp +decide only [h, if_false, and_false, false_and]
      exact (p2 i (by have : i < gK G := (by omega); exact this)).2.2.2
  · show _ = nI (ab_up1 (ab_up1 (ab_up1 (ab_te (gP G)) (3 * gK G) 0) (3 * gK G + 1) 0) (3 * gK G + 2) 0 i)
    have hi : i < 3 * (gK G + 1) := hi
    rw [mB_M]
    unfold ab_up1
    by_cases h2 : i = 3 * gK G + 2
    · simp +decide only [h2, if_true, if_false, and_true, and_false, false_and]
    by_cases h1 : i = 3 * gK G + 1
    · have n2 : ¬ 3 * gK G + 1 = 3 * gK G + 2 := by omega
      simp +decide only [h1, n2, if_true, if_false, and_true, and_false, false_and]
    by_cases h0 : i = 3 * gK G
    · have n2 : ¬ 3 * gK G = 3 * gK G + 2 := by omega
      have n1 : ¬ 3 * gK G = 3 * gK G + 1 := by omega
      simp +decide only [h0, n1, n2, Nat.add_zero, if_true, if_false, and_true, true_and, and_false, false_and]
    · have n0 : ¬ i = 3 * gK G + 0 := h0
      simp +decide only [h0, n0, h1, h2, if_false, and_false, false_and]
      exact p3 i (by have : i < 3 * gK G := (by omega); exact this)
  · rw [fr 92 27 (by omega)]; exact p5
  · rw [mB_M, if_neg (by omega), if_pos ⟨rfl, rfl⟩]
    show _ = nI (ab_row (gD G) ++ [gK G]).length
    rw [List.length_append]; rfl
  · have hi : i < (ab_row (gD G) ++ [gK G]).length := hi
    rw [List.length_append] at hi
    show _ = nI ((ab_row (gD G) ++ [gK G]).getD i 0)
    rw [mB_M]
    by_cases e : i = (ab_row (gD G)).length
    · rw [e, List.getD_eq_getElem?_getD, List.getElem?_append_right (Nat.le_refl _), Nat.sub_self]
      simp +decide only [if_true, if_false, and_true, and_false, false_and]
      rfl
    · have hi2 : i < (ab_row (gD G)).length := by
        have : [gK G].length = 1 := rfl
        omega
      simp +decide only [e, if_false, and_false, false_and]
      rw [List.getD_eq_getElem?_getD, List.getElem?_append_left hi2, ← List.getD_eq_getElem?_getD]
      exact d2 i hi2
  · show _ = nI (ab_up1 (ab_aw (gD G)) (gK G) 0 i)
    have hi : i < gK G + 1 := hi
    rw [mB_M]
    unfold ab_up1
    by_cases h : i = gK G
    · simp +decide only [h, if_true, if_false, and_true, and_false, false_and]
    · simp +decide only [h, if_false, and_false, false_and]
      exact d3 i (by have : i < gK G := (by omega); exact this)
  · show _ = ab_up1 (ab_ga (gD G)) (gK G) (nI 0) i
    have hi : i < gK G + 1 := hi
    rw [mB_M]
    unfold ab_up1
    by_cases h : i = gK G
    · simp +decide only [h, if_true, if_false, and_true, and_false, false_and]
    · simp +decide only [h, if_false, and_false, false_and]
      exact d4 i (by have : i < gK G := (by omega); exact this)
end MB
/-! ===== what is well stays well ===== -/
section OK
variable {G : gb_G} {x y z p w t i o j s : Int32} {v : Int64}
theorem kw_lt {n b : Nat} (hn : n < 2 ^ 30) (e : ab_kw n x = some b) : b < n := by
  cases n with
  | zero =>
    unfold ab_kw at e
    by_cases q : x < nI 0 ∨ nI 0 ≤ x
    · rw [if_pos q] at e; cases e
    · exfalso
      refine q ?_
      by_cases h : x < nI 0
      · exact Or.inl h
      · refine Or.inr ?_
        rw [Int32.le_iff_toInt_le]
        rw [Int32.lt_iff_toInt_lt] at h
        omega
  | succ n =>
    rcases kw_d (n := n) rfl (by omega) x with ⟨z, -⟩ | ⟨z, -⟩ | ⟨j, hj, z, -⟩
    · rw [z] at e; cases e
    · rw [z] at e; cases e
    · rw [z] at e; cases e; exact hj
theorem ok_0 (ok : gb_ok G) : gb_ok (op_0 G x y z).2 := by
  unfold op_0
  cases ex : ab_kw 7 x with
  | none => exact ok
  | some k =>
    cases ey : ab_kw 10 y with
    | none => exact ok
    | some v =>
      cases ez : ab_kw 100 z with
      | none => exact ok
      | some w =>
        have hk := kw_lt (by decide) ex
        have hv := kw_lt (by decide) ey
        have hw := kw_lt (by decide) ez
        show gb_ok (if gK G = 6 then (-4, G) else (nI (gK G), gX_new G.1 k v w, G.2)).2
        by_cases h6 : gK G = 6
        · rw [if_pos h6]; exact ok
        · rw [if_neg h6]
          have k6 : gK G ≤ 6 := ok.1.1.1
          obtain ⟨⟨⟨a1, a2, a3, a4, a5, a6⟩, ⟨b1, b2, b3, b4, b5⟩, c3⟩, rest⟩ := ok
          refine ⟨⟨⟨?_, a2, a3, fun b hb => ?_, fun b f hb hf => ?_, fun i hi => ?_⟩, ⟨?_, fun b hb => ?_, fun b hb => ?_, b4, b5⟩, c3⟩, rest⟩
          · show gK G + 1 ≤ 6; omega
          · have hb : b < gK G + 1 := hb
            show ab_up1 (ab_ki (gP G)) (gK G) k b < 7 ∧ ab_up1 (ab_v (gP G)) (gK G) v b < 10 ∧ ab_up1 (ab_wo (gP G)) (gK G) w b < 100
            unfold ab_up1
            by_cases h : b = gK G
            · rw [if_pos h, if_pos h, if_pos h]; exact ⟨hk, hv, hw⟩
            · rw [if_neg h, if_neg h, if_neg h]; exact a4 b (by have : b < gK G := (by omega); exact this)
          · have hb : b < gK G + 1 := hb
            have hf : ab_up1 (ab_fr (gP G)) (gK G) none b = some f := hf
            show f < gK G + 1 ∧ f ≠ b
            unfold ab_up1 at hf
            by_cases h : b = gK G
            · rw [if_pos h] at hf; cases hf
            · rw [if_neg h] at hf
              have := a5 b f (by have : b < gK G := (by omega); exact this) hf
              have h1 : f < gK G := this.1
              exact ⟨by omega, this.2⟩
          · have hi : i < 3 * (gK G + 1) := hi
            show ab_up1 (ab_up1 (ab_up1 (ab_te (gP G)) (3 * gK G) 0) (3 * gK G + 1) 0) (3 * gK G + 2) 0 i < 4
            unfold ab_up1
            by_cases h2 : i = 3 * gK G + 2
            · rw [if_pos h2]; decide
            rw [if_neg h2]
            by_cases h1 : i = 3 * gK G + 1
            · rw [if_pos h1]; decide
            rw [if_neg h1]
            by_cases h0 : i = 3 * gK G
            · rw [if_pos h0]; decide
            rw [if_neg h0]
            exact a6 i (by have : i < 3 * gK G := (by omega); exact this)
          · show (ab_row (gD G) ++ [gK G]).Nodup
            rw [List.nodup_append]
            refine ⟨b1, by simp, ?_⟩
            intro x hx y hy e
            have : y = gK G := by simpa using hy
            have h2 : x < gK G := b2 x hx
            omega
          · have hb : b ∈ ab_row (gD G) ++ [gK G] := hb
            show b < gK G + 1
            rcases List.mem_append.mp hb with h | h
            · have : b < gK G := b2 b h
              omega
            · have : b = gK G := by simpa using h
              omega
          · have hb : b < gK G + 1 := hb
            show ab_up1 (ab_aw (gD G)) (gK G) 0 b ≤ 9
            unfold ab_up1
            by_cases h : b = gK G
            · rw [if_pos h]; decide
            · rw [if_neg h]; exact b3 b (by have : b < gK G := (by omega); exact this)
theorem ok_3 (ok : gb_ok G) : gb_ok (op_3 G x y).2 := by
  unfold op_3
  have k6 : gK G ≤ 6 := ok.1.1.1
  have up : ∀ b o, b < gK G → (∀ f, o = some f → f < gK G ∧ f ≠ b) → gb_ok (gX_P G.1 (gP_fr (gP G) b o), G.2) := by
    intro b o hb ho
    obtain ⟨⟨⟨a1, a2, a3, a4, a5, a6⟩, hD, c3⟩, rest⟩ := ok
    refine ⟨⟨⟨a1, a2, a3, a4, fun c f hc hf => ?_, a6⟩, hD, c3⟩, rest⟩
    have hf : ab_up1 (ab_fr (gP G)) b o c = some f := hf
    unfold ab_up1 at hf
    by_cases h : c = b
    · rw [if_pos h] at hf; rw [h]; exact ho f hf
    · rw [if_neg h] at hf; exact a5 c f hc hf
  cases ex : ab_kw (gK G) x with
  | none => exact ok
  | some b =>
    have hb := kw_lt (by omega) ex
    show gb_ok (if y = -1 then (md_fo (ab_fr (gP G) b), gX_P G.1 (gP_fr (gP G) b none), G.2) else _).2
    by_cases hy : y = -1
    · rw [if_pos hy]; exact up b none hb (fun f h => by cases h)
    · rw [if_neg hy]
      cases ey : ab_kw (gK G) y with
      | none => exact ok
      | some q =>
        have hq := kw_lt (by omega) ey
        show gb_ok (if q = b then (-2, G) else (md_fo (ab_fr (gP G) b), gX_P G.1 (gP_fr (gP G) b (some q)), G.2)).2
        by_cases h : q = b
        · rw [if_pos h]; exact ok
        · rw [if_neg h]; exact up b (some q) hb (fun f e => by cases e; exact ⟨hq, h⟩)
theorem ok_4 (ok : gb_ok G) : gb_ok (op_4 G x p w).2 := by
  unfold op_4
  have k6 : gK G ≤ 6 := ok.1.1.1
  cases ex : ab_kw (gK G) x with
  | none => cases ab_kw 3 p <;> exact ok
  | some b =>
    cases ep : ab_kw 3 p with
    | none => exact ok
    | some p =>
      cases ew : ab_kw 4 w with
      | none => exact ok
      | some n =>
        show gb_ok (if ab_ki (gP G) b = 6 then (nI (ab_te (gP G) (3 * b + p)), gX_P G.1 (gP_te (gP G) (3 * b + p) n), G.2) else (-3, G)).2
        by_cases h : ab_ki (gP G) b = 6
        · rw [if_pos h]
          have hn := kw_lt (by decide) ew
          obtain ⟨⟨⟨a1, a2, a3, a4, a5, a6⟩, hD, c3⟩, rest⟩ := ok
          refine ⟨⟨⟨a1, a2, a3, a4, a5, fun i hi => ?_⟩, hD, c3⟩, rest⟩
          show ab_up1 (ab_te (gP G)) (3 * b + p) n i < 4
          unfold ab_up1
          by_cases h : i = 3 * b + p
          · rw [if_pos h]; exact hn
          · rw [if_neg h]; exact a6 i hi
        · rw [if_neg h]; exact ok
theorem ok_5 (ok : gb_ok G) : gb_ok (op_5 G x).2 := by
  unfold op_5
  have k6 : gK G ≤ 6 := ok.1.1.1
  cases ex : ab_kw (gK G) x with
  | none => exact ok
  | some b =>
    have hb := kw_lt (by omega) ex
    show gb_ok (if b ∈ ab_row (gD G) then (-3, G) else _).2
    by_cases h : b ∈ ab_row (gD G)
    · rw [if_pos h]; exact ok
    · rw [if_neg h]; exact ok_D ok (okD_back ok hb h)
theorem ok_6 (ok : gb_ok G) : gb_ok (op_6 G x y).2 := by
  unfold op_6
  obtain ⟨d1, d2, d3, d4, d5⟩ := ok.1.2.1
  by_cases h0 : x = nI 0
  · rw [if_pos h0]
    cases ey : ab_kw 1000 y with
    | none => exact ok
    | some n =>
      have hn := kw_lt (by decide) ey
      exact ok_D ok ⟨d1, d2, d3, by show n ≤ 999; omega, d5⟩
  rw [if_neg h0]
  by_cases h1 : x = nI 1
  · rw [if_pos h1]
    cases ey : ab_kw 10 y with
    | none => exact ok
    | some n =>
      have hn := kw_lt (by decide) ey
      exact ok_D ok ⟨d1, d2, d3, d4, by show n ≤ 9; omega⟩
  rw [if_neg h1]
  exact ok
theorem ok_7 (ok : gb_ok G) : gb_ok (op_7 G x).2 := by
  unfold op_7
  cases ex : ab_kw 128 x with
  | none => exact ok
  | some c =>
    have hc := kw_lt (by decide) ex
    show gb_ok (if (gb_t G).length = 100 then (-4, G) else _).2
    by_cases h : (gb_t G).length = 100
    · rw [if_pos h]; exact ok
    · rw [if_neg h]
      have hl := ok.2.2.2.2.1
      refine ⟨ok.1, ok.2.1, ok.2.2.1, ok.2.2.2.1, ?_, ?_, ok.2.2.2.2.2.2⟩
      · show (gb_t G ++ [c]).length ≤ 100
        rw [len1]; omega
      · intro b hb
        have hb : b ∈ gb_t G ++ [c] := hb
        rcases List.mem_append.mp hb with h | h
        · exact ok.2.2.2.2.2.1 b h
        · have : b = c := by simpa using h
          omega
theorem ok_11 (ok : gb_ok G) : gb_ok (op_11 G).2 := by
  unfold op_11
  by_cases h : ab_com (gD G) = true
  · rw [if_pos h]; exact ok_D ok (ab_turn_ok ok.1.1 ok.1.2.1 h).1
  · rw [if_neg h]; exact ok
theorem ok_20 (ok : gb_ok G) : gb_ok (op_20 G x).2 := by
  unfold op_20
  cases ex : ab_kw 11 x with
  | none => exact ok
  | some n =>
    have hn := kw_lt (by decide) ex
    exact ⟨⟨ok.1.1, ok.1.2.1, by show n ≤ 10; omega, ok.1.2.2.2⟩, ok.2⟩
theorem ok_22 (ok : gb_ok G) : gb_ok (op_22 G x).2 := by
  unfold op_22
  by_cases hx : x = -1
  · rw [if_pos hx]
    exact ⟨⟨ok.1.1, ok.1.2.1, ok.1.2.2.1, Nat.zero_le _, (fun f h => by cases h), ok.1.2.2.2.2.2⟩, ok.2⟩
  rw [if_neg hx]
  cases ex : ab_kw 4 x with
  | none => exact ok
  | some n =>
    have hn := kw_lt (by decide) ex
    show gb_ok (if n = 0 then (-1, G) else if (gx_f G.1).length = 12 then (-4, G) else _).2
    by_cases h0 : n = 0
    · rw [if_pos h0]; exact ok
    rw [if_neg h0]
    by_cases h : (gx_f G.1).length = 12
    · rw [if_pos h]; exact ok
    rw [if_neg h]
    have hl : (gx_f G.1).length ≤ 12 := ok.1.2.2.2.1
    refine ⟨⟨ok.1.1, ok.1.2.1, ok.1.2.2.1, ?_, fun f hf => ?_, ok.1.2.2.2.2.2⟩, ok.2⟩
    · show (gx_f G.1 ++ [n]).length ≤ 12
      rw [len1]; omega
    · have hf : f ∈ gx_f G.1 ++ [n] := hf
      rcases List.mem_append.mp hf with h | h
      · exact ok.1.2.2.2.2.1 f h
      · have : f = n := by simpa using h
        omega
theorem ok_25 (ok : gb_ok G) : gb_ok (op_25 G).2 := ⟨ok.1, fun Y e => by cases e; exact ok.1, ok.2.2⟩
theorem ok_26 (ok : gb_ok G) : gb_ok (op_26 G).2 := by
  unfold op_26
  cases e : gb_i G with
  | none => exact ok
  | some Y => exact ⟨ok.2.1 Y e, ok.2⟩
theorem ok_27 (ok : gb_ok G) : gb_ok (op_27 G x y z).2 := by
  unfold op_27
  have k6 : gK G ≤ 6 := ok.1.1.1
  have ok0 : gb_ok (gS_r G []) := ok_r ok (by decide) (fun b hb => by cases hb)
  cases ex : ab_kw (gK G) x with
  | none => exact ok0
  | some b =>
    have hb := kw_lt (by omega) ex
    have hk7 : ab_ki (gP G) b < 7 := (ok.1.1.2.2.2.1 b hb).1
    have hl := @ab_lens (ab_ki (gP G) b) z hk7 (nI b) (nI (ab_v (gP G) b))
    show gb_ok (if y = nI 0 then _ else if y = nI 1 then _ else if y = nI 2 then _ else _ : Int32 × gb_G).2
    by_cases h0 : y = nI 0
    · rw [if_pos h0]; exact ok_r ok hl.1 hl.2.2.2.1
    rw [if_neg h0]
    by_cases h1 : y = nI 1
    · rw [if_pos h1]; exact ok_r ok hl.2.1 hl.2.2.2.2.1
    rw [if_neg h1]
    by_cases h2 : y = nI 2
    · rw [if_pos h2]; exact ok_r ok hl.2.2.1 hl.2.2.2.2.2
    rw [if_neg h2]
    exact ok0
theorem ok_p {f : Nat → Int32 × Nat × (Nat → Int64)} (ok : gb_ok G) (h : ∀ t, t < 6 → gt_ok (f t)) : gb_ok (gS_p G f) := ⟨ok.1, ok.2.1, ok.2.2.1, ok.2.2.2.1, ok.2.2.2.2.1, ok.2.2.2.2.2.1, h, ok.2.2.2.2.2.2.2⟩
theorem ok_up {f : Nat → Int32 × Nat × (Nat → Int64)} {t : Nat} {g : Int32 × Nat × (Nat → Int64)} (h : ∀ t, t < 6 → gt_ok (f t)) (hg : gt_ok g) : ∀ u, u < 6 → gt_ok (ab_up1 f t g u) := by
  intro u hu
  unfold ab_up1
  by_cases e : u = t
  · rw [if_pos e]; exact hg
  · rw [if_neg e]; exact h u hu
theorem ok_31 (ok : gb_ok G) : gb_ok (op_31 G t s y).2 := by
  unfold op_31
  have hp := ok.2.2.2.2.2.2.1
  cases ex : ab_kw 6 t with
  | none => exact ok
  | some t =>
    show gb_ok (if s = -1 then _ else _ : Int32 × gb_G).2
    by_cases hs : s = -1
    · rw [if_pos hs]; exact ok_p ok (ok_up hp (Or.inl ⟨rfl, rfl⟩))
    rw [if_neg hs]
    cases es : ab_kw 5 s with
    | none => exact ok
    | some k =>
      have hk := kw_lt (by decide) es
      show gb_ok (if nI 60 < y then _ else if y < nI 0 then _ else _ : Int32 × gb_G).2
      by_cases h1 : nI 60 < y
      · rw [if_pos h1]; exact ok
      rw [if_neg h1]
      by_cases h2 : y < nI 0
      · rw [if_pos h2]; exact ok
      rw [if_neg h2]
      refine ok_p ok (ok_up hp (Or.inr ⟨⟨k, hk, rfl⟩, ?_⟩))
      rcases kw_d (n := 60) (m := 61) rfl (by decide) y with ⟨-, z, -⟩ | ⟨-, -, -, z, -⟩ | ⟨j, hj, -, rfl, -⟩
      · exact absurd (of_eq_true z) h2
      · exact absurd (of_eq_true z) h1
      · show (nI j).toNatClampNeg ≤ 60
        rw [nI_clamp (by omega)]; omega
theorem ok_32 (ok : gb_ok G) : gb_ok (op_32 G t i v).2 := by
  unfold op_32
  have hp := ok.2.2.2.2.2.2.1
  cases ex : ab_kw 6 t with
  | none => exact ok
  | some t =>
    have ht := kw_lt (by decide) ex
    show gb_ok (if (gb_p G t).1 = -1 then _ else _ : Int32 × gb_G).2
    by_cases h : (gb_p G t).1 = -1
    · rw [if_pos h]; exact ok
    rw [if_neg h]
    cases ei : ab_kw (gb_p G t).2.1 i with
    | none => exact ok
    | some i => exact ok_p ok (ok_up hp (hp t ht))
theorem ok_34 (ok : gb_ok G) : gb_ok (op_34 G t i o j y).2 := by
  unfold op_34
  have hp := ok.2.2.2.2.2.2.1
  cases ex : ab_kw 6 t with
  | none => cases ab_kw 6 o <;> exact ok
  | some t =>
    cases eo : ab_kw 6 o with
    | none => exact ok
    | some u =>
      have hu := kw_lt (by decide) eo
      show gb_ok (if (gb_p G t).1 = -1 ∨ (gb_p G u).1 = -1 then _ else if (gb_p G t).1 ≠ (gb_p G u).1 then _ else _ : Int32 × gb_G).2
      by_cases h : (gb_p G t).1 = -1 ∨ (gb_p G u).1 = -1
      · rw [if_pos h]; exact ok
      rw [if_neg h]
      by_cases h2 : (gb_p G t).1 ≠ (gb_p G u).1
      · rw [if_pos h2]; exact ok
      rw [if_neg h2]
      cases ab_kw 61 y with
      | none => exact ok
      | some n =>
        cases ab_kw 61 i with
        | none => exact ok
        | some i =>
          cases ab_kw 61 j with
          | none => exact ok
          | some j =>
            show gb_ok (if i + n ≤ (gb_p G t).2.1 ∧ j + n ≤ (gb_p G u).2.1 then _ else _ : Int32 × gb_G).2
            by_cases h : i + n ≤ (gb_p G t).2.1 ∧ j + n ≤ (gb_p G u).2.1
            · rw [if_pos h]; exact ok_p ok (ok_up hp (hp u hu))
            · rw [if_neg h]; exact ok
end OK
end
