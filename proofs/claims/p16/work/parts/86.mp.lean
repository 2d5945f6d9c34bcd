/-! ===== how the reference reads: words and clauses ===== -/
def pwl : List (List Nat) := [[109, 111, 114, 101], [99, 111, 115, 116], [117, 112], [100, 111, 119, 110], [97, 119, 97, 121], [102, 101, 101]]
def cod (T : mm_S) (C : List ab_T) : Prop := ∀ n, n < C.length → mm_M T 107 (720 + n) = md_en (C.getD n (Sum.inr 0))
def cq (T : mm_S) : List ab_C → Nat → Nat → Prop
  | [], _, _ => True
  | c :: l, k, B => mm_M T 103 (60 + k) = nI c.1 ∧ mm_M T 104 (60 + k) = nI c.2.1 ∧ (c.1 < 2 → ∃ f, f + c.2.2.length ≤ B ∧ mm_M T 105 (60 + k) = nI f ∧ mm_M T 106 (60 + k) = nI (f + c.2.2.length) ∧ md_co T c.2.2 (720 + f)) ∧ cq T l (k + 1) B
def gp_k (c j : Nat) : Prop := gp_x c j ∨ (c = 102 ∧ j = 6) ∨ (103 ≤ c ∧ c ≤ 106 ∧ 60 ≤ j)
def faK (S U : mm_S) (j : Nat) : Prop := U = mm_wM S (mm_M U) ∧ (∀ c j, ¬ gp_k c j → mm_M U c j = mm_M S c j) ∧ mm_M U 92 36 = nI j
def rk (S T : mm_S) (l : List ab_C) (C : List ab_T) (i : Nat) : Prop := faK S T i ∧ mm_M T 92 37 = nI C.length ∧ cod T C ∧ mm_M T 102 6 = nI l.length ∧ cq T l 0 C.length
section MP6
variable {S T U V : mm_S} {t : List Nat} {d i j k n q s a e m w B K : Nat} {x y : Int32} {W W0 A Q : List Nat} {C N : List ab_T} {v : Value} {o : Option (List ab_T)} {l : List ab_C} {c : ab_C} {p : Option ab_C}
theorem co_tr : ∀ {c : List ab_T} {i : Nat}, (∀ n, i ≤ n → n < i + c.length → mm_M U 107 n = mm_M T 107 n) → md_co T c i → md_co U c i := by
  intro c
  induction c with
  | nil => intro i _ _; exact trivial
  | cons x c ih =>
    intro i h hc
    rw [List.length_cons] at h
    exact ⟨(h i (Nat.le_refl _) (by omega)).trans hc.1, ih (fun n a b => h n (by omega) (by omega)) hc.2⟩
theorem co_of : ∀ {c : List ab_T} {C : List ab_T}, cod U (C ++ c) → md_co U c (720 + C.length) := by
  intro c
  induction c with
  | nil => intro C _; exact trivial
  | cons x c ih =>
    intro C h
    refine ⟨?_, ?_⟩
    · have := h C.length (by rw [List.length_append, List.length_cons]; omega)
      rw [List.getD_eq_getElem?_getD, List.getElem?_append_right (Nat.le_refl _), Nat.sub_self] at this
      exact this
    · have e : C ++ x :: c = (C ++ [x]) ++ c := by rw [List.append_assoc]; rfl
      rw [e] at h
      have := ih h
      rw [la1] at this
      exact this
theorem cq_tr : ∀ {l : List ab_C} {k : Nat}, (∀ c j, 103 ≤ c → c ≤ 106 → 60 ≤ j → j < 60 + K → mm_M U c j = mm_M T c j) → (∀ n, n < B → mm_M U 107 (720 + n) = mm_M T 107 (720 + n)) → k + l.length ≤ K → B ≤ n → cq T l k B → cq U l k n := by
  intro l
  induction l with
  | nil => intro k _ _ _ _ _; exact trivial
  | cons c l ih =>
    intro k h h2 hk hB hq
    rw [List.length_cons] at hk
    obtain ⟨q1, q2, q3, q4⟩ := hq
    refine ⟨(h _ _ (by omega) (by omega) (by omega) (by omega)).trans q1, (h _ _ (by omega) (by omega) (by omega) (by omega)).trans q2, fun hc => ?_, ih h h2 (by omega) hB q4⟩
    obtain ⟨f, f1, f2, f3, f4⟩ := q3 hc
    refine ⟨f, by omega, (h _ _ (by omega) (by omega) (by omega) (by omega)).trans f2, (h _ _ (by omega) (by omega) (by omega) (by omega)).trans f3, co_tr (fun n a b => ?_) f4⟩
    have := h2 (n - 720) (by omega)
    rw [show 720 + (n - 720) = n by omega] at this
    exact this
theorem cq_app : ∀ {l : List ab_C} {k : Nat}, cq T l k B → (mm_M T 103 (60 + (k + l.length)) = nI c.1 ∧ mm_M T 104 (60 + (k + l.length)) = nI c.2.1 ∧ (c.1 < 2 → ∃ f, f + c.2.2.length ≤ B ∧ mm_M T 105 (60 + (k + l.length)) = nI f ∧ mm_M T 106 (60 + (k + l.length)) = nI (f + c.2.2.length) ∧ md_co T c.2.2 (720 + f))) → cq T (l ++ [c]) k B := by
  intro l
  induction l with
  | nil => intro k _ h; exact ⟨h.1, h.2.1, h.2.2, trivial⟩
  | cons x l ih =>
    intro k hq h
    rw [List.length_cons, show k + (l.length + 1) = k + 1 + l.length by omega] at h
    exact ⟨hq.1, hq.2.1, hq.2.2.1, ih hq.2.2.2 h⟩
theorem fk_rf (h : mm_M T 92 36 = nI i) : faK T T i := ⟨rfl, fun _ _ _ => rfl, h⟩
theorem fk_tr (h : faK S T i) (h2 : faK T U j) : faK S U j := by
  refine ⟨?_, fun c j hc => (h2.2.1 c j hc).trans (h.2.1 c j hc), h2.2.2⟩
  have e := h2.1
  rw [h.1] at e
  exact e
theorem fk_36 (h : r36 T U i) : faK T U i := ⟨h.1, fun c j hc => h.2.1 c j (fun z => hc (Or.inl (by unfold gp_x; omega))), h.2.2⟩
theorem fk_u (h36 : mm_M T 92 36 = nI i) (h : gp_k n k) (hn : ¬ (92 = n ∧ 36 = k)) : faK T (mm_uM T n k x) i := ⟨hp_uMw, fun c j hc => rdn (fun z => hc (by rw [z.1, z.2]; exact h)), (rdn hn).trans h36⟩
theorem fk_W (h : faK S T i) (hw : mm_W S) : mm_W T := by rw [h.1]; exact hw
theorem fk_t (h : faK S T i) (hT : rt S t) : rt T t := by
  obtain ⟨h1, h2, h3, h4, h5, h6⟩ := hT
  have g := h.2.1
  exact ⟨fk_W h h1, (g _ _ (by unfold gp_k gp_x; omega)).trans h2, fun i hi => (g _ _ (by unfold gp_k gp_x; omega)).trans (h3 i hi), h4, h5, mt_c (fun c j hc => g c j (by unfold gp_k gp_x; omega)) h6⟩
/-- a whole E -/
theorem s149 (hT : rt T t) (h36 : mm_M T 92 36 = nI i) (h37 : mm_M T 92 37 = nI C.length) (hC : cod T C) (hi : i ≤ t.length) (hCi : C.length ≤ i) (p : PE t 2 0 i j o) : (o = none → ∃ U, mm_cl (d + 4) 149 [.ref 92] T = some (some (.int (nI 0)), U) ∧ faT T U j) ∧ (∀ c, o = some c → ∃ U, mm_cl (d + 4) 149 [.ref 92] T = some (some (.int (nI 1)), U) ∧ rq T U [] (C ++ c) j) := by
  have hw := hT.1
  have hle := PE_le p
  have h100 := hT.2.2.2.1
  have r1 : rq T (mm_uM (mm_uM T 92 39 (nI 0)) 92 40 (nI 0)) [] C i := ⟨wM_u hp_uMw, fun c j hc => (rdn (fun z => hc (by unfold gp_x; omega))).trans (rdn (fun z => hc (by unfold gp_x; omega))), (rdn (by omega)).trans ((rdn (by omega)).trans h36), (rdn (by omega)).trans ((rdn (by omega)).trans h37), fun n hn => (rdn (by omega)).trans ((rdn (by omega)).trans (hC n hn)), (rdn (by omega)).trans rds, rds, fun p hp => absurd hp (Nat.not_lt_zero _)⟩
  have E1 : enT T t (mm_uM (mm_uM T 92 39 (nI 0)) 92 40 (nI 0)) [] C i 0 := ⟨r1, hi, hCi, (fun x hx => by cases hx), rfl, Nat.zero_le _⟩
  obtain ⟨g1, g2⟩ := (PE_EM (d := d) hT p).2.2.1 2 rfl (Or.inr rfl) [] _ C .null E1 (fun p hp => by cases hp)
  have st : mm_cl (d + 4) 149 [.ref 92] T = gn1 d .null (mm_uM (mm_uM T 92 39 (nI 0)) 92 40 (nI 0)) := by
    unfold gn1
    rw [e149, b149_0 (wx_o92 hw)]
  refine ⟨fun e => ?_, fun c e => ?_⟩
  · subst e
    obtain ⟨U, f1, f2⟩ := g1
    exact ⟨U, st.trans f1, f2⟩
  · subst e
    obtain ⟨n38, n124⟩ := g2 (by simp)
    obtain ⟨V, v3, Q, C2, f1, f2, f3, f4⟩ := g1
    rw [List.append_nil] at f3
    have E2 := en_re E1 f2 (Nat.le_refl 2) f4 f3 (hle.2.2 c rfl) (hle.2.1 hi)
    have b1 := E2.2.1
    have b2 := E2.2.2.1
    obtain ⟨U, k1, k2⟩ := m149_end (d := d) (v := v3) f2 hT n38 (n124 rfl) (Or.inr E2.2.2.2.2.1) (fun p hp => by cases hp) f4 (by omega) (by omega)
    refine ⟨U, ?_, by rw [← f3]; exact k2⟩
    rw [st, f1]
    exact k1
theorem pw_app : ∀ {A : List Nat} {i : Nat}, pw t (A ++ [n]) i = if (pw t A i).2 = true then pw t [n] (pw t A i).1 else pw t A i := by
  intro A
  induction A with
  | nil => intro i; rfl
  | cons x A ih =>
    intro i
    show (if ps t i = x then pw t (A ++ [n]) (i + 1) else (i, false)) = _
    have e : pw t (x :: A) i = if ps t i = x then pw t A (i + 1) else (i, false) := rfl
    rw [e]
    by_cases h : ps t i = x
    · rw [if_pos h, if_pos h]; exact ih
    · rw [if_neg h, if_neg h]
      rfl
theorem pw_le : ∀ {A : List Nat} {i : Nat}, 0 ∉ A → i ≤ (pw t A i).1 ∧ (i ≤ t.length → (pw t A i).1 ≤ t.length) := by
  intro A
  induction A with
  | nil => intro i _; exact ⟨Nat.le_refl _, fun h => h⟩
  | cons x A ih =>
    intro i h0
    have e : pw t (x :: A) i = if ps t i = x then pw t A (i + 1) else (i, false) := rfl
    rw [e]
    by_cases h : ps t i = x
    · rw [if_pos h]
      have a : i < t.length := ps_in (fun z => h0 (by rw [← z, h]; exact List.mem_cons_self))
      have b := @ih (i + 1) (fun z => h0 (List.mem_cons_of_mem x z))
      exact ⟨by omega, fun _ => b.2 (by omega)⟩
    · rw [if_neg h]
      exact ⟨Nat.le_refl _, fun h => h⟩
theorem wl_f : ∀ w, w < 6 → (pwl.getD w []).length = ([4, 4, 2, 4, 4, 3] : List Nat).getD w 0 ∧ pws.getD w [] = pwl.getD w [] ++ [32] ∧ (pwl.getD w []).length ≤ 4 ∧ gm_w.getD (4 * w) 0 = pfl.getD w 0 ∧ ∀ m, m < (pwl.getD w []).length → gm_w.getD (4 * w + m) 0 = (pwl.getD w []).getD m 0 ∧ 0 < (pwl.getD w []).getD m 0 ∧ (pwl.getD w []).getD m 0 < 128 := by decide
theorem s143_l (hT : rt T t) (h36 : mm_M T 92 36 = nI i) (hi : i < 2 ^ 20) : ∀ (q k : Nat), k + q = 6 → mm_ex (d + 1) 143 4 [.ref 92, .int (lv (ab_at (ps t i) pfl) k), .int (nI k)] [] T = mm_ex (d + 1) 143 37 [.ref 92, .int (pmo (ab_at (ps t i) pfl)), .int (nI 6)] [] T := by
  have hw := hT.1
  intro q
  induction q with
  | zero =>
    intro k hk
    have e : k = 6 := by omega
    subst e
    rw [b143_4, if_pos (by decide), lv_e (k := 6) (fun l hl => (at_ln hl : l < pfl.length))]
  | succ q ih =>
    intro k hk
    have hk6 : k < 6 := by omega
    have h113 : mm_M T 113 (4 * k) = nI (pfl.getD k 0) := (hT.2.2.2.2.2.1 (4 * k) (by omega)).trans (by rw [(wl_f k hk6).2.2.2.1])
    have pb : ∀ k, k < 6 → 0 < pfl.getD k 0 ∧ pfl.getD k 0 < 128 := by decide
    have hp := pb k hk6
    have st : mm_ex (d + 1) 143 4 [.ref 92, .int (lv (ab_at (ps t i) pfl) k), .int (nI k)] [] T = if ab_at (ps t i) pfl = some k then mm_ex (d + 1) 143 25 [.ref 92, .int (lv (ab_at (ps t i) pfl) k), .int (nI k)] [] T else mm_ex (d + 1) 143 29 [.ref 92, .int (lv (ab_at (ps t i) pfl) k), .int (nI k)] [] T := by
      rw [b143_4, if_neg (nI_ge (by omega) (by omega)), b143_10 (wx_k92 hw), s139 hT h36 hi, hp_bd, hp_ts, b143_14 (wx_o92 hw) (wx_s92_33 hw) (by rw [nI_mul, wx_g92_33 hw, wx_N113 hw]; exact hp_inb (by omega) (by omega)) (by rw [wx_g92_33 hw]; exact wx_a113 hw), nI_mul, wx_g92_33 hw, nI_clamp (by omega), h113]
      simp only [sg_eq hT hp.1 hp.2, @at_iff pfl k (ps t i) (by decide) hk6]
    have hih := ih (k + 1) (by omega)
    rw [lv_s] at hih
    rw [st]
    by_cases z : ab_at (ps t i) pfl = some k
    · rw [if_pos z] at hih
      rw [if_pos z, b143_25, nI_add]
      exact hih
    · rw [if_neg z] at hih
      rw [if_neg z, b143_29, nI_add]
      exact hih
theorem s143_w (hw6 : w < 6) : ∀ (A : List Nat) (m i : Nat) (T : mm_S), rt T t → mm_M T 92 36 = nI i → i + A.length < 2 ^ 10 → pwl.getD w [] = (pwl.getD w []).take m ++ A → m + A.length = (pwl.getD w []).length → ∃ U, mm_ex (d + 2) 143 39 [.ref 92, .int (nI w), .int (nI m)] [] T = some (some (.int (if (pw t A i).2 = true then nI w else -1)), U) ∧ r36 T U (pw t A i).1 := by
  have f := wl_f w hw6
  intro A
  induction A with
  | nil =>
    intro m i T hT h36 _ hA hm
    have hw := hT.1
    rw [List.length_nil] at hm
    have h114 : mm_M T 114 w = nI (pwl.getD w []).length := (hT.2.2.2.2.2.2.1 w hw6).trans (by rw [f.1])
    refine ⟨T, ?_, r_rf h36⟩
    rw [b143_39, if_neg (nI_m1 (by omega)), b143_44 (wx_o92 hw) (wx_s92_34 hw) (by rw [wx_g92_34 hw, wx_N114 hw]; exact hp_inb hw6 (by omega)) (by rw [wx_g92_34 hw]; exact wx_a114 hw), wx_g92_34 hw, nI_clamp (by omega), h114, if_pos (nI_le (by omega) (by omega)), b143_79]
    rfl
  | cons x A ih =>
    intro m i T hT h36 hl hA hm
    have hw := hT.1
    rw [List.length_cons] at hm hl
    have hml : m < (pwl.getD w []).length := by omega
    have h114 : mm_M T 114 w = nI (pwl.getD w []).length := (hT.2.2.2.2.2.2.1 w hw6).trans (by rw [f.1])
    have fm := f.2.2.2.2 m hml
    have hio := it_of hA hml
    have hgo : (pwl.getD w []).getD m 0 = x := by rw [List.getD_eq_getElem?_getD, hio]; rfl
    have h113 : mm_M T 113 (4 * w + m) = nI x := (hT.2.2.2.2.2.1 (4 * w + m) (by omega)).trans (by rw [fm.1, hgo])
    rw [hgo] at fm
    obtain ⟨U, g1, g2⟩ := s141 (d := d) hT h36 (by omega) fm.2.1 fm.2.2
    have st : mm_ex (d + 2) 143 39 [.ref 92, .int (nI w), .int (nI m)] [] T = if (if ps t i = x then nI 1 else nI 0) = nI 0 then mm_ex (d + 2) 143 71 [.ref 92, .int (nI w), .int (nI m)] [] U else mm_ex (d + 2) 143 73 [.ref 92, .int (nI w), .int (nI m)] [] U := by
      rw [b143_39, if_neg (nI_m1 (by omega)), b143_44 (wx_o92 hw) (wx_s92_34 hw) (by rw [wx_g92_34 hw, wx_N114 hw]; exact hp_inb hw6 (by omega)) (by rw [wx_g92_34 hw]; exact wx_a114 hw), wx_g92_34 hw, nI_clamp (by omega), h114, if_neg (nI_ge hml (by omega)), b143_54 (wx_o92 hw) (wx_s92_33 hw) (by rw [nI_mul, nI_add, wx_g92_33 hw, wx_N113 hw]; exact hp_inb (by omega) (by omega)) (by rw [wx_g92_33 hw]; exact wx_a113 hw) (wx_k92 hw), nI_mul, nI_add, wx_g92_33 hw, nI_clamp (by omega), h113, g1, hp_bd, hp_ts, b143_68]
    have e : pw t (x :: A) i = if ps t i = x then pw t A (i + 1) else (i, false) := rfl
    rw [e]
    by_cases h : ps t i = x
    · rw [if_pos h] at g2
      rw [if_pos h, if_neg i01] at st
      obtain ⟨V, g3, g4⟩ := ih (m + 1) (i + 1) U (rt_w g2 hT) g2.2.2 (by omega) (by rw [tk1 hio, List.append_assoc]; exact hA) (by omega)
      rw [if_pos h]
      refine ⟨V, ?_, r_tr g2 g4⟩
      rw [st, b143_73, nI_add, g3]
    · rw [if_neg h] at g2
      rw [if_neg h, if_pos rfl] at st
      rw [if_neg h]
      refine ⟨U, ?_, g2⟩
      rw [st, b143_71]
      rfl
end MP6
