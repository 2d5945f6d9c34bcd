/-! ===== all that an object is, apart from cells ===== -/
/-- a day with its slips, its film and the number of the SHOP that holds -/
abbrev gb_X : Type := ab_P × ab_D × Nat × List Nat × Option Nat
def gx_P (X : gb_X) : ab_P := X.1
def gx_D (X : gb_X) : ab_D := X.2.1
def gx_s (X : gb_X) : Nat := X.2.2.1
def gx_f (X : gb_X) : List Nat := X.2.2.2.1
def gx_h (X : gb_X) : Option Nat := X.2.2.2.2
/-- now, the image, the shops read, the text, the tapes (sort, size, items), the trace -/
abbrev gb_G : Type := gb_X × Option gb_X × List (List ab_C) × List Nat × (Nat → Int32 × Nat × (Nat → Int64)) × List Nat
def gb_x (G : gb_G) : gb_X := G.1
def gb_i (G : gb_G) : Option gb_X := G.2.1
def gb_s (G : gb_G) : List (List ab_C) := G.2.2.1
def gb_t (G : gb_G) : List Nat := G.2.2.2.1
def gb_p (G : gb_G) : Nat → Int32 × Nat × (Nat → Int64) := G.2.2.2.2.1
def gb_r (G : gb_G) : List Nat := G.2.2.2.2.2
def gx_ok (l : List (List ab_C)) (X : gb_X) : Prop := ab_okP (gx_P X) ∧ ab_okD (gx_P X) (gx_D X) ∧ gx_s X ≤ 10 ∧ (gx_f X).length ≤ 12 ∧ (∀ f ∈ gx_f X, 1 ≤ f ∧ f ≤ 3) ∧ (match gx_h X with
  | none => ab_sh (gx_P X) = []
  | some h => h < l.length ∧ ab_sh (gx_P X) = l.getD h []) ∧ ab_fe (gx_P X) = ab_law (ab_sh (gx_P X)) 5 0
def gt_ok (t : Int32 × Nat × (Nat → Int64)) : Prop := (t.1 = -1 ∧ t.2.1 = 0) ∨ (∃ k, k < 5 ∧ t.1 = nI k) ∧ t.2.1 ≤ 60
def gb_ok (G : gb_G) : Prop := gx_ok (gb_s G) (gb_x G) ∧ (∀ Y, gb_i G = some Y → gx_ok (gb_s G) Y) ∧ (gb_s G).length ≤ 6 ∧ (∀ l ∈ gb_s G, ab_okS l) ∧ (gb_t G).length ≤ 100 ∧ (∀ c ∈ gb_t G, c < 128) ∧ (∀ t, t < 6 → gt_ok (gb_p G t)) ∧ (gb_r G).length ≤ 20 ∧ (∀ b ∈ gb_r G, b < 100)
/-- T is as S, but where F says -/
def sf_f (F : Nat → Nat → Prop) (S T : mm_S) : Prop := (∀ c j, ¬ F c j → mm_M T c j = mm_M S c j ∧ mm_L T c j = mm_L S c j ∧ mm_R T c j = mm_R S c j) ∧ (∀ c, c < mm_n S → mm_K T c = mm_K S c ∧ mm_N T c = mm_N S c) ∧ mm_n S ≤ mm_n T
section SF
variable {F H : Nat → Nat → Prop} {S T U : mm_S} {a b c j k : Nat}
theorem sf_rf : sf_f F S S := ⟨fun _ _ _ => ⟨rfl, rfl, rfl⟩, fun _ _ => ⟨rfl, rfl⟩, Nat.le_refl _⟩
theorem sf_tr (h : sf_f F S T) (h2 : sf_f F T U) : sf_f F S U := ⟨fun c j hc => ⟨(h2.1 c j hc).1.trans (h.1 c j hc).1, (h2.1 c j hc).2.1.trans (h.1 c j hc).2.1, (h2.1 c j hc).2.2.trans (h.1 c j hc).2.2⟩, fun c hc => ⟨(h2.2.1 c (by have := h.2.2; omega)).1.trans (h.2.1 c hc).1, (h2.2.1 c (by have := h.2.2; omega)).2.trans (h.2.1 c hc).2⟩, Nat.le_trans h.2.2 h2.2.2⟩
theorem sf_mo (h : sf_f F S T) (hF : ∀ c j, F c j → H c j) : sf_f H S T := ⟨fun c j hc => h.1 c j (fun e => hc (hF c j e)), h.2⟩
theorem sf_cd (h : cd_fr a S T) : sf_f (cd_dc a) S T := ⟨fun c j hc => ⟨h.2 c j hc, by rw [fr_L h], by rw [fr_R h]⟩, fun c _ => ⟨by rw [fr_K h], by rw [fr_N h]⟩, by rw [fr_n h]; exact Nat.le_refl _⟩
theorem sf_md (h : md_fr S T) : sf_f md_dc S T := ⟨fun c j hc => ⟨h.2 c j hc, by rw [h.1]; rfl, by rw [h.1]; rfl⟩, fun c _ => ⟨by rw [h.1]; rfl, by rw [h.1]; rfl⟩, by rw [h.1]; exact Nat.le_refl _⟩
theorem sf_uM {x : Int32} (h : F c j) : sf_f F S (mm_uM S c j x) := ⟨fun c2 j2 h2 => ⟨by rw [hp_MuM, if_neg (fun e => h2 (by rw [e.1, e.2]; exact h))], rfl, rfl⟩, fun _ _ => ⟨rfl, rfl⟩, Nat.le_refl _⟩
theorem sf_uL {x : Int64} (h : F c j) : sf_f F S (mm_uL S c j x) := ⟨fun c2 j2 h2 => ⟨rfl, by rw [hp_LuL, if_neg (fun e => h2 (by rw [e.1, e.2]; exact h))], rfl⟩, fun _ _ => ⟨rfl, rfl⟩, Nat.le_refl _⟩
theorem sf_uR {x : Option Nat} (h : F c j) : sf_f F S (mm_uR S c j x) := ⟨fun c2 j2 h2 => ⟨rfl, rfl, by rw [hp_RuR, if_neg (fun e => h2 (by rw [e.1, e.2]; exact h))]⟩, fun _ _ => ⟨rfl, rfl⟩, Nat.le_refl _⟩
theorem sf_W (h : sf_f F S T) (hw : mm_W S) (hF : ∀ c j b, F c j → mm_tR c j = some b → mm_R T c j = some b) : mm_W T := by
  classical
  obtain ⟨h1, h2, h3⟩ := hw
  refine ⟨Nat.le_trans h1 h.2.2, fun a ha => ?_, fun a k b e => ?_⟩
  · have := h.2.1 a (by omega)
    exact ⟨this.1.trans (h2 a ha).1, this.2.trans (h2 a ha).2⟩
  · by_cases hf : F a k
    · exact hF a k b hf e
    · exact (h.1 a k hf).2.2.trans (h3 a k b e)
end SF
/-! ===== the class's cells ===== -/
def gc_ad : Option Nat → Nat
  | none => 1
  | some h => 43 + 5 * h
/-- a day of the class: its cells, and those of its BUYERS and its SHOP -/
def gc_X (S : mm_S) (a : Nat) (X : gb_X) : Prop := cd_P S a (gx_P X) ∧ cd_D S a (ab_kn (gx_P X)) (gx_D X) ∧ mm_M S a 16 = nI (gx_s X) ∧ mm_M S a 17 = nI (gx_f X).length ∧ (∀ i, i < (gx_f X).length → mm_M S (a + 7) i = nI ((gx_f X).getD i 0)) ∧ mm_R S a 8 = some (gc_ad (gx_h X))
def gc_q (S : mm_S) (a : Nat) : Prop := (∀ i, i < 6 → ∀ e, mm_R S (a + 1) i = some e → mm_obj S e 0 = true) ∧ ∃ s, mm_sh s ∧ mm_R S a 8 = some s
def gc_s (S : mm_S) (l : List (List ab_C)) : Prop := mm_M S 0 11 = nI l.length ∧ (∀ h, h < l.length → cd_cs S (43 + 5 * h) (l.getD h [])) ∧ cd_cs S 1 []
def gc_t (S : mm_S) (l : List Nat) : Prop := mm_M S 73 0 = nI l.length ∧ ∀ i, i < l.length → mm_M S 74 i = nI (l.getD i 0)
def gc_p (S : mm_S) (f : Nat → Int32 × Nat × (Nat → Int64)) : Prop := ∀ t, t < 6 → mm_M S (76 + 2 * t) 1 = (f t).1 ∧ mm_M S (76 + 2 * t) 2 = nI (f t).2.1 ∧ ∀ i, i < (f t).2.1 → mm_L S (77 + 2 * t) i = (f t).2.2 i
def gc_r (S : mm_S) (l : List Nat) : Prop := mm_M S 88 0 = nI l.length ∧ ∀ i, i < l.length → mm_M S 88 (1 + i) = nI (l.getD i 0)
def gc_i (S : mm_S) (o : Option gb_X) : Prop := match o with
  | none => mm_M S 0 12 = nI 0
  | some Y => mm_M S 0 12 = nI 1 ∧ gc_X S 15 Y
def RC (S : mm_S) (G : gb_G) : Prop := mm_W S ∧ gc_X S 6 (gb_x G) ∧ gc_q S 6 ∧ gc_q S 15 ∧ gc_i S (gb_i G) ∧ gc_s S (gb_s G) ∧ gc_t S (gb_t G) ∧ gc_p S (gb_p G) ∧ gc_r S (gb_r G)
section TR
variable {F : Nat → Nat → Prop} {S T : mm_S} {a b c j k e n s : Nat} {X : gb_X} {P : ab_P} {D : ab_D}
theorem tr_by {k v w : Nat} (h : sf_f F S T) (hF : ∀ j, j < 4 → ¬ F e j) (hb : cd_by S e b k v w) : cd_by T e b k v w := by
  obtain ⟨h1, h2, h3, h4, h5, h6, h7⟩ := hb
  exact ⟨h1, Nat.lt_of_lt_of_le h2 h.2.2, (h.2.1 e h2).1.trans h3, (h.1 e 0 (hF 0 (by decide))).1.trans h4, (h.1 e 1 (hF 1 (by decide))).1.trans h5, (h.1 e 2 (hF 2 (by decide))).1.trans h6, (h.1 e 3 (hF 3 (by decide))).1.trans h7⟩
theorem tr_cs {l : List ab_C} (h : sf_f F S T) (hF : ∀ m j, m ≤ 4 → ¬ F (s + m) j) (hc : cd_cs S s l) : cd_cs T s l := fr_cs (fun m hm i => (h.1 _ _ (hF m i hm)).1) hc
/-- what a day needs of others: no cell of a BUYER or a SHOP that holds is changed -/
def sf_o (F : Nat → Nat → Prop) (S : mm_S) : Prop := (∀ c j, 137 ≤ c → c < mm_n S → ¬ F c j) ∧ ∀ s m j, mm_sh s → m ≤ 4 → ¬ F (s + m) j
theorem tr_P (h : sf_f F S T) (ho : sf_o F S) (h0 : ∀ m j, (m = 0 ∧ (j = 8 ∨ j = 9 ∨ j = 10)) ∨ m = 1 ∨ m = 2 ∨ m = 3 → ¬ F (a + m) j) (hp : cd_P S a P) : cd_P T a P := by
  obtain ⟨h1, h2, h3, h4, h5, s, h6, h7, h8⟩ := hp
  refine ⟨(h.1 a 10 (h0 0 10 (by omega))).1.trans h1, (h.1 a 9 (h0 0 9 (by omega))).1.trans h2, fun b hb => (h.1 _ _ (h0 2 b (by omega))).1.trans (h3 b hb), fun i hi => (h.1 _ _ (h0 3 i (by omega))).1.trans (h4 i hi), fun b hb => ?_, s, (h.1 a 8 (h0 0 8 (by omega))).2.2.trans h6, h7, tr_cs h (fun m j hm => ho.2 s m j h7 hm) h8⟩
  obtain ⟨e, he, hb2⟩ := h5 b hb
  exact ⟨e, (h.1 _ _ (h0 1 b (by omega))).2.2.trans he, tr_by h (fun j _ => ho.1 e j hb2.1 hb2.2.1) hb2⟩
theorem tr_D (h : sf_f F S T) (h0 : ∀ m j, (m = 0 ∧ 11 ≤ j ∧ j ≤ 15) ∨ m = 4 ∨ m = 5 ∨ m = 6 → ¬ F (a + m) j) (hp : cd_D S a n D) : cd_D T a n D := by
  obtain ⟨h1, h2, h3, h4, h5, h6, h7, h8⟩ := hp
  have g : ∀ j, 11 ≤ j → j ≤ 15 → mm_M T a j = mm_M S a j := fun j a1 a2 => (h.1 a j (h0 0 j (by omega))).1
  exact ⟨(g _ (by decide) (by decide)).trans h1, fun p hp => (h.1 _ _ (h0 6 p (by omega))).1.trans (h2 p hp), fun b hb => (h.1 _ _ (h0 4 b (by omega))).1.trans (h3 b hb), fun b hb => (h.1 _ _ (h0 5 b (by omega))).1.trans (h4 b hb), (g _ (by decide) (by decide)).trans h5, (g _ (by decide) (by decide)).trans h6, (g _ (by decide) (by decide)).trans h7, (g _ (by decide) (by decide)).trans h8⟩
theorem tr_X (h : sf_f F S T) (ho : sf_o F S) (h0 : ∀ m j, (m = 0 ∧ 8 ≤ j ∧ j ≤ 17) ∨ (1 ≤ m ∧ m ≤ 7) → ¬ F (a + m) j) (hp : gc_X S a X) : gc_X T a X := by
  obtain ⟨h1, h2, h3, h4, h5, h6⟩ := hp
  exact ⟨tr_P h ho (fun m j hm => h0 m j (by omega)) h1, tr_D h (fun m j hm => h0 m j (by omega)) h2, (h.1 a 16 (h0 0 16 (by omega))).1.trans h3, (h.1 a 17 (h0 0 17 (by omega))).1.trans h4, fun i hi => (h.1 _ _ (h0 7 i (by omega))).1.trans (h5 i hi), (h.1 a 8 (h0 0 8 (by omega))).2.2.trans h6⟩
theorem tr_o (h : sf_f F S T) {e f : Nat} (ho : mm_obj S e f = true) : mm_obj T e f = true := by
  unfold mm_obj at ho ⊢
  rw [Bool.and_eq_true, Bool.and_eq_true, decide_eq_true_eq, decide_eq_true_eq] at ho
  rw [(h.2.1 e ho.1.1).1, decide_eq_true (Nat.lt_of_lt_of_le ho.1.1 h.2.2), decide_eq_true ho.1.2, ho.2]
  rfl
theorem tr_q (h : sf_f F S T) (h0 : ∀ j, ¬ F (a + 1) j) (h8 : ¬ F a 8) (hp : gc_q S a) : gc_q T a := by
  obtain ⟨h1, s, h2, h3⟩ := hp
  refine ⟨fun i hi e he => ?_, s, h2, (h.1 _ _ h8).2.2.trans h3⟩
  rw [(h.1 _ _ (h0 i)).2.2] at he
  exact tr_o h (h1 i hi e he)
theorem tr_s {l : List (List ab_C)} (hl : l.length ≤ 6) (h : sf_f F S T) (ho : sf_o F S) (h0 : ¬ F 0 11) (hp : gc_s S l) : gc_s T l := by
  obtain ⟨h1, h2, h3⟩ := hp
  refine ⟨(h.1 _ _ h0).1.trans h1, fun i hi => tr_cs h (fun m j hm => ho.2 _ m j ?_ hm) (h2 i hi), tr_cs h (fun m j hm => ho.2 _ m j (Or.inl rfl) hm) h3⟩
  unfold mm_sh
  omega
theorem tr_t {l : List Nat} (h : sf_f F S T) (h0 : ¬ F 73 0) (h1 : ∀ j, ¬ F 74 j) (hp : gc_t S l) : gc_t T l := ⟨(h.1 _ _ h0).1.trans hp.1, fun i hi => (h.1 _ _ (h1 i)).1.trans (hp.2 i hi)⟩
theorem tr_p {f : Nat → Int32 × Nat × (Nat → Int64)} (h : sf_f F S T) (h0 : ∀ c j, 76 ≤ c → c ≤ 87 → ¬ F c j) (hp : gc_p S f) : gc_p T f := fun t ht => ⟨(h.1 _ _ (h0 _ _ (by omega) (by omega))).1.trans (hp t ht).1, (h.1 _ _ (h0 _ _ (by omega) (by omega))).1.trans (hp t ht).2.1, fun i hi => (h.1 _ _ (h0 _ _ (by omega) (by omega))).2.1.trans ((hp t ht).2.2 i hi)⟩
theorem tr_r {l : List Nat} (h : sf_f F S T) (h0 : ∀ j, ¬ F 88 j) (hp : gc_r S l) : gc_r T l := ⟨(h.1 _ _ (h0 _)).1.trans hp.1, fun i hi => (h.1 _ _ (h0 _)).1.trans (hp.2 i hi)⟩
theorem tr_i {o : Option gb_X} (h : sf_f F S T) (ho : sf_o F S) (h0 : ¬ F 0 12) (h1 : ∀ c j, 15 ≤ c → c ≤ 23 → ¬ F c j) (hp : gc_i S o) : gc_i T o := by
  cases o with
  | none => exact (h.1 _ _ h0).1.trans hp
  | some Y => exact ⟨(h.1 _ _ h0).1.trans hp.1, tr_X h ho (fun m j hm => h1 _ _ (by omega) (by omega)) hp.2⟩
end TR
/-- where questions leave their traces in the class -/
def gc_F (c j : Nat) : Prop := (24 ≤ c ∧ c ≤ 41) ∨ (89 ≤ c ∧ c ≤ 91) ∨ c = 14 ∨ (c = 6 ∧ (j = 18 ∨ j = 19))
section RCQ
variable {S T : mm_S} {G : gb_G} {F : Nat → Nat → Prop}
theorem gcF_o : sf_o gc_F S := by
  refine ⟨fun c j hc _ => ?_, fun s m j hs hm => ?_⟩
  · unfold gc_F; omega
  · unfold gc_F; unfold mm_sh at hs; omega
theorem RC_q (ok : gb_ok G) (h : sf_f gc_F S T) (hw : mm_W T) (hR : RC S G) : RC T G := by
  obtain ⟨-, h1, h2, h3, h4, h5, h6, h7, h8⟩ := hR
  refine ⟨hw, tr_X h gcF_o (fun m j hm => ?_) h1, tr_q h (fun j => ?_) ?_ h2, tr_q h (fun j => ?_) ?_ h3, tr_i h gcF_o ?_ (fun c j a b => ?_) h4, tr_s ok.2.2.1 h gcF_o ?_ h5, tr_t h ?_ (fun j => ?_) h6, tr_p h (fun c j a b => ?_) h7, tr_r h (fun j => ?_) h8⟩ <;> (unfold gc_F; omega)
end RCQ
