/-! ===== how the class reads: clauses ===== -/
def gKs (s c j : Nat) : Prop := (c = 73 ∧ j = 2) ∨ (s ≤ c ∧ c ≤ s + 4)
def feK (S : mm_S) (s : Nat) (U : mm_S) (j : Nat) : Prop := U = mm_wM S (mm_M U) ∧ (∀ c j, ¬ gKs s c j → mm_M U c j = mm_M S c j) ∧ mm_M U 73 2 = nI j
def ck (S : mm_S) (s : Nat) (T : mm_S) (l : List ab_C) (C : List ab_T) (i : Nat) : Prop := feK S s T i ∧ (mm_M T s 0 = nI (ab_law l 2 1) ∧ mm_M T s 1 = nI (ab_law l 3 1) ∧ mm_M T s 2 = nI (min 9 (ab_law l 4 1)) ∧ mm_M T s 3 = nI (ab_law l 5 0)) ∧ mm_M T s 8 = nI (cd_el l).length ∧ mm_M T s 9 = nI C.length ∧ (∀ n, n < C.length → mm_M T (s + 4) n = cd_en (C.getD n (Sum.inr 0))) ∧ cd_cl T s (cd_el l) 0 0 (cd_el l).length C.length
section CP4
variable {S T U V : mm_S} {t : List Nat} {d i j k n q s m a e w N K : Nat} {x y : Int32} {C D : List ab_T} {o : Option (List ab_T)} {z : ab_T} {r : mm_Res} {l L : List ab_C} {c : ab_C} {p : Option ab_C}
theorem law_1 : ab_law (l ++ [c]) w n = if c.1 = w then c.2.1 else ab_law l w n := by
  unfold ab_law
  rw [List.foldl_append]
  rfl
theorem el_1 : cd_el (l ++ [c]) = if c.1 < 2 then cd_el l ++ [c] else cd_el l := by
  unfold cd_el
  rw [List.filter_append]
  by_cases h : c.1 < 2
  · rw [if_pos h, List.filter_cons_of_pos (by simpa using h)]; rfl
  · rw [if_neg h, List.filter_cons_of_neg (by simpa using h), List.filter_nil, List.append_nil]
theorem cco_tr : ∀ {c : List ab_T} {i : Nat}, (∀ n, i ≤ n → n < i + c.length → mm_M U q n = mm_M T q n) → cd_co T q c i → cd_co U q c i := by
  intro c
  induction c with
  | nil => intro i _ _; exact trivial
  | cons x c ih =>
    intro i h hc
    rw [List.length_cons] at h
    exact ⟨(h i (Nat.le_refl _) (by omega)).trans hc.1, ih (fun n a b => h n (by omega) (by omega)) hc.2⟩
theorem cco_of : ∀ {c : List ab_T} {C : List ab_T}, (∀ n, n < (C ++ c).length → mm_M U q n = cd_en ((C ++ c).getD n (Sum.inr 0))) → cd_co U q c C.length := by
  intro c
  induction c with
  | nil => intro C _; exact trivial
  | cons x c ih =>
    intro C h
    refine ⟨?_, ?_⟩
    · have := h C.length (by rw [List.length_append, List.length_cons]; omega)
      rw [List.getD_eq_getElem?_getD, List.getElem?_append_right (Nat.le_refl _), Nat.sub_self] at this
      exact this
    · have e : C ++ x :: c = (C ++ [x]) ++ c := by rw [List.append_assoc]; rfl
      rw [e] at h
      have := ih h
      rw [la1] at this
      exact this
theorem ccl_le : ∀ {L : List ab_C} {k i j n : Nat}, cd_cl T s L k i j n → k + L.length = j ∧ i ≤ n := by
  intro L
  induction L with
  | nil => intro k i j n h; exact ⟨h.1, Nat.le_of_eq h.2⟩
  | cons c L ih =>
    intro k i j n h
    have := ih h.2.2.2.2
    rw [List.length_cons]
    omega
theorem ccl_tr : ∀ {L : List ab_C} {k i j n : Nat}, (∀ m a, 1 ≤ m → m ≤ 3 → a < j → mm_M U (s + m) a = mm_M T (s + m) a) → (∀ a, a < n → mm_M U (s + 4) a = mm_M T (s + 4) a) → cd_cl T s L k i j n → cd_cl U s L k i j n := by
  intro L
  induction L with
  | nil => intro k i j n _ _ h; exact h
  | cons c L ih =>
    intro k i j n g g4 h
    have e := ccl_le h.2.2.2.2
    exact ⟨(g 1 k (by omega) (by omega) (by omega)).trans h.1, (g 2 k (by omega) (by omega) (by omega)).trans h.2.1, (g 3 k (by omega) (by omega) (by omega)).trans h.2.2.1, cco_tr (fun a _ b => g4 a (by omega)) h.2.2.2.1, ih g g4 h.2.2.2.2⟩
theorem ccl_app : ∀ {L : List ab_C} {k i j n : Nat}, cd_cl T s L k i j n → mm_M T (s + 1) j = nI c.1 → mm_M T (s + 2) j = nI c.2.1 → mm_M T (s + 3) j = nI (n + c.2.2.length) → cd_co T (s + 4) c.2.2 n → cd_cl T s (L ++ [c]) k i (j + 1) (n + c.2.2.length) := by
  intro L
  induction L with
  | nil =>
    intro k i j n h h1 h2 h3 h4
    obtain ⟨e1, e2⟩ := h
    subst e1
    subst e2
    exact ⟨h1, h2, h3, h4, rfl, rfl⟩
  | cons b L ih =>
    intro k i j n h h1 h2 h3 h4
    exact ⟨h.1, h.2.1, h.2.2.1, h.2.2.2.1, ih h.2.2.2.2 h1 h2 h3 h4⟩
theorem gE_K {s c j : Nat} (h : gE s c j) : gKs s c j := by unfold gE at h; unfold gKs; omega
theorem k_tr (h : feK S s T i) (h2 : feK T s U j) : feK S s U j := by
  refine ⟨?_, fun c j hc => (h2.2.1 c j hc).trans (h.2.1 c j hc), h2.2.2⟩
  have e := h2.1
  rw [h.1] at e
  exact e
theorem k_36 (h : q73 T U i) : feK T s U i := ⟨h.1, fun c j hc => h.2.1 c j (fun z => hc (Or.inl z)), h.2.2⟩
theorem k_E (h : feT T s U i) : feK T s U i := ⟨h.1, fun c j hc => h.2.1 c j (fun z => hc (gE_K z)), h.2.2⟩
theorem k_u (hs : mm_sh s) (h : mm_M T 73 2 = nI i) (h1 : s ≤ n) (h2 : n ≤ s + 4) : feK T s (mm_uM T n k x) i := by
  have := sh_n73 hs
  exact ⟨hp_uMw, fun c j hc => rdn (fun z => hc (by unfold gKs; omega)), (rdn (by omega)).trans h⟩
theorem k_t (h : feK S s T i) (hT : ct S s t) : ct T s t := by
  obtain ⟨h1, h2, h3, h4, h5, h6, h7, h8⟩ := hT
  have g := h.2.1
  have n := sh_n73 h2
  exact ⟨by rw [h.1]; exact h1, h2, by rw [h.1]; exact h3, (g _ _ (by unfold gKs; omega)).trans h4, fun i hi => (g _ _ (by unfold gKs; omega)).trans (h5 i hi), h6, h7, by rw [h.1]; exact h8⟩
theorem ck_36 (hs : mm_sh s) (h : ck S s T l C i) (hr : q73 T U j) : ck S s U l C j := by
  obtain ⟨h1, ⟨f1, f2, f3, f4⟩, h3, h4, h5, h6⟩ := h
  have g := hr.2.1
  have n := sh_n73 hs
  exact ⟨k_tr h1 (k_36 hr), ⟨(g _ _ (by omega)).trans f1, (g _ _ (by omega)).trans f2, (g _ _ (by omega)).trans f3, (g _ _ (by omega)).trans f4⟩, (g _ _ (by omega)).trans h3, (g _ _ (by omega)).trans h4, fun n hn => (g _ _ (by omega)).trans (h5 n hn), ccl_tr (fun m a _ _ _ => g _ _ (by omega)) (fun a _ => g _ _ (by omega)) h6⟩
def pwq (o : Option Nat) : Nat := match o with
  | none => 7
  | some w => w + 1
theorem s40 (hx : n < 128) : mm_cl d 40 [.int (nI n)] S = some (some (.ref (sta (pwq (ab_at n pfl)))), S) := by
  cases h : ab_at n pfl with
  | none =>
    have nn : ∀ c, ab_at c pfl ≠ none → c < 128 → ¬ nI n = nI c := fun c hc hl e => by
      have := (nI_eq (by omega) (by omega)).mp e
      rw [this] at h
      exact hc h
    rw [e40, b40_0, b40_1, if_neg (nn 97 (by decide) (by decide)), if_neg (nn 99 (by decide) (by decide)), if_neg (nn 100 (by decide) (by decide)), if_neg (nn 102 (by decide) (by decide)), if_neg (nn 109 (by decide) (by decide)), if_neg (nn 117 (by decide) (by decide)), b40_78]
    rfl
  | some w =>
    have hw := at_some h
    have hw6 : w < 6 := hw.1
    rcases (by omega : w = 0 ∨ w = 1 ∨ w = 2 ∨ w = 3 ∨ w = 4 ∨ w = 5) with rfl | rfl | rfl | rfl | rfl | rfl
    · have e : n = 109 := hw.2.symm
      subst e
      rw [e40, b40_0, b40_1, if_neg (by decide), if_neg (by decide), if_neg (by decide), if_neg (by decide), if_pos rfl, b40_60]
      rfl
    · have e : n = 99 := hw.2.symm
      subst e
      rw [e40, b40_0, b40_1, if_neg (by decide), if_pos rfl, b40_63]
      rfl
    · have e : n = 117 := hw.2.symm
      subst e
      rw [e40, b40_0, b40_1, if_neg (by decide), if_neg (by decide), if_neg (by decide), if_neg (by decide), if_neg (by decide), if_pos rfl, b40_66]
      rfl
    · have e : n = 100 := hw.2.symm
      subst e
      rw [e40, b40_0, b40_1, if_neg (by decide), if_neg (by decide), if_pos rfl, b40_69]
      rfl
    · have e : n = 97 := hw.2.symm
      subst e
      rw [e40, b40_0, b40_1, if_pos rfl, b40_72]
      rfl
    · have e : n = 102 := hw.2.symm
      subst e
      rw [e40, b40_0, b40_1, if_neg (by decide), if_neg (by decide), if_neg (by decide), if_pos rfl, b40_75]
      rfl
theorem stg_w : ∀ w, w < 6 → stg (w + 1) = pws.getD w [] ∧ 0 < (stg (w + 1)).length := by decide
/-- a clause with an E is put -/
theorem s51 (hT : ct S s t) (h1 : feK S s T i) (h8 : mm_M T s 8 = nI K) (hK : K < 10) (h9 : mm_M T s 9 = nI N) : mm_cl d 51 [.ref s, .int x, .int y] T = some (none, mm_uM (mm_uM (mm_uM (mm_uM T (s + 1) K x) (s + 2) K y) (s + 3) K (nI N)) s 8 (nI (K + 1))) := by
  have T0 := k_t h1 hT
  have w := T0.1
  have hs := hT.2.1
  have ckk : (nI K).toNatClampNeg = K := nI_clamp (by omega)
  have bk : mm_inb (nI K) 10 = true := hp_inb hK (by omega)
  have w1 : mm_W (mm_uM T (s + 1) K x) := w
  have w2 : mm_W (mm_uM (mm_uM T (s + 1) K x) (s + 2) K y) := w
  have w3 : mm_W (mm_uM (mm_uM (mm_uM T (s + 1) K x) (s + 2) K y) (s + 3) K (nI N)) := w
  have m1 : mm_M (mm_uM T (s + 1) K x) s 8 = nI K := (rdn (by omega)).trans h8
  have m2 : mm_M (mm_uM (mm_uM T (s + 1) K x) (s + 2) K y) s 8 = nI K := (rdn (by omega)).trans m1
  have m3 : mm_M (mm_uM (mm_uM (mm_uM T (s + 1) K x) (s + 2) K y) (s + 3) K (nI N)) s 8 = nI K := (rdn (by omega)).trans m2
  have m9 : mm_M (mm_uM (mm_uM T (s + 1) K x) (s + 2) K y) s 9 = nI N := (rdn (by omega)).trans ((rdn (by omega)).trans h9)
  rw [e51, b51_0 (ws_o w hs), h8, if_neg (nI_ge hK (by omega)), b51_9 (ws_o w hs) (ws_s4 w hs) (by rw [ws_g4 w hs]; exact ws_a1 w hs) (by rw [h8, ws_g4 w hs, ws_N1 w hs]; exact bk) (ws_s5 w hs), h8, ws_g4 w hs, ws_g5 w hs, ckk, b51_24 (ws_o w1 hs) (ws_a2 w1 hs) (by rw [m1, ws_N2 w1 hs]; exact bk) (ws_o w1 hs) (ws_s6 w1 hs), m1, ws_g6 w1 hs, ckk, b51_34 (ws_o w2 hs) (ws_o w2 hs) (ws_a3 w2 hs) (by rw [m2, ws_N3 w2 hs]; exact bk), m2, m9, ckk, b51_44 (ws_o w3 hs) (ws_o w3 hs), m3, nI_add]
end CP4
