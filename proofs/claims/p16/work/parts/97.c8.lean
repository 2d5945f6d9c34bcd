/-! ===== shop, in the class: what stays ===== -/
def sf_h (F : Nat → Nat → Prop) (S : mm_S) (k : Nat) : Prop := (∀ c j, 137 ≤ c → c < mm_n S → ¬ F c j) ∧ ∀ s m j, mm_sh s → s ≠ 43 + 5 * k → m ≤ 4 → ¬ F (s + m) j
section C8
variable {F : Nat → Nat → Prop} {S T : mm_S} {a b c j k e n s : Nat} {X : gb_X} {P : ab_P} {D : ab_D} {G : gb_G}
theorem ad_ne {o : Option Nat} (h : ∀ q, o = some q → q < k) : gc_ad o ≠ 43 + 5 * k := by
  cases o with
  | none => show 1 ≠ 43 + 5 * k; omega
  | some q =>
    have := h q rfl
    show 43 + 5 * q ≠ 43 + 5 * k
    omega
theorem tr_P8 (h : sf_f F S T) (ho : sf_h F S k) (h0 : ∀ m j, (m = 0 ∧ (j = 8 ∨ j = 9 ∨ j = 10)) ∨ m = 1 ∨ m = 2 ∨ m = 3 → ¬ F (a + m) j) (h8 : mm_R S a 8 = some s) (hs : s ≠ 43 + 5 * k) (hp : cd_P S a P) : cd_P T a P := by
  obtain ⟨h1, h2, h3, h4, h5, s2, h6, h7, h9⟩ := hp
  have es : s2 = s := Option.some.inj (h6.symm.trans h8)
  subst es
  refine ⟨(h.1 a 10 (h0 0 10 (by omega))).1.trans h1, (h.1 a 9 (h0 0 9 (by omega))).1.trans h2, fun b hb => (h.1 _ _ (h0 2 b (by omega))).1.trans (h3 b hb), fun i hi => (h.1 _ _ (h0 3 i (by omega))).1.trans (h4 i hi), fun b hb => ?_, s2, (h.1 a 8 (h0 0 8 (by omega))).2.2.trans h6, h7, tr_cs h (fun m j hm => ho.2 s2 m j h7 hs hm) h9⟩
  obtain ⟨e, he, hb2⟩ := h5 b hb
  exact ⟨e, (h.1 _ _ (h0 1 b (by omega))).2.2.trans he, tr_by h (fun j _ => ho.1 e j hb2.1 hb2.2.1) hb2⟩
theorem tr_X8 (h : sf_f F S T) (ho : sf_h F S k) (h0 : ∀ m j, (m = 0 ∧ 8 ≤ j ∧ j ≤ 17) ∨ (1 ≤ m ∧ m ≤ 7) → ¬ F (a + m) j) (hX : ∀ q, gx_h X = some q → q < k) (hp : gc_X S a X) : gc_X T a X := by
  obtain ⟨h1, h2, h3, h4, h5, h6⟩ := hp
  exact ⟨tr_P8 h ho (fun m j hm => h0 m j (by omega)) h6 (ad_ne hX) h1, tr_D h (fun m j hm => h0 m j (by omega)) h2, (h.1 a 16 (h0 0 16 (by omega))).1.trans h3, (h.1 a 17 (h0 0 17 (by omega))).1.trans h4, fun i hi => (h.1 _ _ (h0 7 i (by omega))).1.trans (h5 i hi), (h.1 a 8 (h0 0 8 (by omega))).2.2.trans h6⟩
theorem tr_i8 {o : Option gb_X} (h : sf_f F S T) (ho : sf_h F S k) (h0 : ¬ F 0 12) (h1 : ∀ c j, 15 ≤ c → c ≤ 23 → ¬ F c j) (hX : ∀ Y, o = some Y → ∀ q, gx_h Y = some q → q < k) (hp : gc_i S o) : gc_i T o := by
  cases o with
  | none => exact (h.1 _ _ h0).1.trans hp
  | some Y => exact ⟨(h.1 _ _ h0).1.trans hp.1, tr_X8 h ho (fun m j hm => h1 _ _ (by omega) (by omega)) (hX Y rfl) hp.2⟩
theorem h_lt (h : gx_ok (gb_s G) X) : ∀ q, gx_h X = some q → q < (gb_s G).length := by
  intro q hq
  have := h.2.2.2.2.2.1
  rw [hq] at this
  exact this.1
end C8
