/-! ===== rows in turn, in the class: order, lot ===== -/
def np_s (f : Nat → Nat) (i j : Nat) : Nat → Nat := fun k => if k = j then f i else if k = i then f j else f k
def np_t (f : Nat → Nat) : Nat → Option Nat
  | 0 => none
  | k + 1 => if f (k + 1) < f k then np_t f k else some k
def np_l (f : Nat → Nat) (t : Nat) : Nat → Nat
  | 0 => 0
  | l + 1 => if l + 1 ≤ t then l + 1 else if f t ≤ f (l + 1) then l + 1 else np_l f t l
def np_r : Nat → Nat → Nat → (Nat → Nat) → (Nat → Nat)
  | 0, _, _, f => f
  | k + 1, l, r, f => if r ≤ l then f else np_r k (l + 1) (r - 1) (np_s f l r)
def np_n (f : Nat → Nat) (n : Nat) : Option (Nat → Nat) := match np_t f (n - 1) with
  | none => none
  | some t => some (np_r n (t + 1) (n - 1) (np_s f t (np_l f t (n - 1))))
/-- from f on, so many at most -/
def np_a (n : Nat) : Nat → (Nat → Nat) → List (Nat → Nat)
  | 0, _ => []
  | k + 1, f => f :: (match np_n f n with
    | none => []
    | some g => np_a n k g)
def np_f (f : Nat → Nat) (n : Nat) : List Nat := (List.range n).map f
def np_0 (kn : Nat) (r : List Nat) : List Nat := (List.range kn).filter (fun b => decide (b ∈ r))
def np_ok (r : List Nat) (f : Nat → Nat) : Prop := (∀ p q, p < r.length → q < r.length → f p = f q → p = q) ∧ ∀ p, p < r.length → f p ∈ r
def ab_ov (P : ab_P) (D : ab_D) (w : Nat) (f : Nat → Nat) : Int32 := if w = 0 then ab_ti (ab_fin P (gD_row D (np_f f (ab_row D).length))) else ab_all (ab_kn P) (ab_ga (ab_fin P (gD_row D (np_f f (ab_row D).length))))
def ab_oo (P : ab_P) (D : ab_D) (w : Nat) (s : Option (Int32 × (Nat → Nat))) (f : Nat → Nat) : Option (Int32 × (Nat → Nat)) := match s with
  | none => some (ab_ov P D w f, f)
  | some q => if q.1 < ab_ov P D w f then some (ab_ov P D w f, f) else some q
def ab_os (G : gb_G) : List (Nat → Nat) := np_a (ab_row (gD G)).length 120 (fun i => (np_0 (gK G) (ab_row (gD G))).getD i 0)
def an_14 (G : gb_G) (x k : Int32) : Int32 := if ¬ (x = nI 0 ∨ x = nI 1) ∨ k < -1 ∨ nI (ab_row (gD G)).length ≤ k then -100001 else if 5 < (ab_row (gD G)).length then -9 else match (ab_os G).foldl (ab_oo (gP G) (gD G) (if x = nI 0 then 0 else 1)) none with
  | none => nI 0
  | some q => if k < nI 0 then q.1 else nI (q.2 k.toNatClampNeg)
section NP
variable {S T U : mm_S} {G : gb_G} {P : ab_P} {D E : ab_D} {a b c d n k i j p t l : Nat} {x w y : Int32} {r : List Nat} {f g : Nat → Nat}
theorem np_nd (h : np_ok r f) : (np_f f r.length).Nodup := by
  unfold np_f List.Nodup
  rw [List.pairwise_map]
  refine List.Pairwise.imp_of_mem ?_ (List.nodup_range (n := r.length))
  intro a b ha hb hab e
  exact hab (h.1 a b (List.mem_range.mp ha) (List.mem_range.mp hb) e)
theorem np_me (h : np_ok r f) : ∀ b ∈ np_f f r.length, b ∈ r := by
  intro b hb
  unfold np_f at hb
  obtain ⟨p, hp, rfl⟩ := List.mem_map.mp hb
  exact h.2 p (List.mem_range.mp hp)
theorem np_gl : (np_f f n).length = n := by unfold np_f; rw [List.length_map, List.length_range]
theorem np_ge (hp : p < n) : (np_f f n).getD p 0 = f p := by
  unfold np_f
  rw [List.getD_eq_getElem?_getD, List.getElem?_map, List.getElem?_range hp]
  rfl
theorem np_sk (h : np_ok r f) (hi : i < r.length) (hj : j < r.length) : np_ok r (np_s f i j) := by
  refine ⟨fun p q hp hq e => ?_, fun p hp => ?_⟩
  · unfold np_s at e
    have i1 := h.1
    by_cases h1 : p = j <;> by_cases h2 : q = j
    · omega
    · rw [if_pos h1, if_neg h2] at e
      by_cases h3 : q = i
      · rw [if_pos h3] at e
        have := i1 _ _ hi hj e
        omega
      · rw [if_neg h3] at e
        have := i1 _ _ hi hq e
        omega
    · rw [if_neg h1, if_pos h2] at e
      by_cases h3 : p = i
      · rw [if_pos h3] at e
        have := i1 _ _ hj hi e
        omega
      · rw [if_neg h3] at e
        have := i1 _ _ hp hi e
        omega
    · rw [if_neg h1, if_neg h2] at e
      by_cases h3 : p = i <;> by_cases h4 : q = i
      · omega
      · rw [if_pos h3, if_neg h4] at e
        have := i1 _ _ hj hq e
        omega
      · rw [if_neg h3, if_pos h4] at e
        have := i1 _ _ hp hj e
        omega
      · rw [if_neg h3, if_neg h4] at e
        exact i1 _ _ hp hq e
  · unfold np_s
    split
    · exact h.2 i hi
    · split
      · exact h.2 j hj
      · exact h.2 p hp
theorem np_tl : ∀ {k t}, np_t f k = some t → t < k := by
  intro k
  induction k with
  | zero => intro t e; cases e
  | succ k ih =>
    intro t e
    unfold np_t at e
    split at e
    · have := ih e; omega
    · cases e; omega
theorem np_ll : ∀ {l}, np_l f t l ≤ l := by
  intro l
  induction l with
  | zero => exact Nat.le_refl _
  | succ l ih =>
    unfold np_l
    split
    · omega
    · split
      · omega
      · omega
theorem np_rk : ∀ {k l q : Nat} {f : Nat → Nat}, np_ok r f → q < r.length → np_ok r (np_r k l q f) := by
  intro k
  induction k with
  | zero => intro l q f h _; exact h
  | succ k ih =>
    intro l q f h hq
    unfold np_r
    split
    · exact h
    · exact ih (np_sk h (by omega) hq) (by omega)
theorem np_nk (h : np_ok r f) (e : np_n f r.length = some g) : np_ok r g := by
  unfold np_n at e
  split at e
  · cases e
  · rename_i t ht
    have h1 := np_tl ht
    have h2 := @np_ll t f (r.length - 1)
    cases e
    exact np_rk (np_sk h (by omega) (by omega)) (by omega)
/-- the row of numbers in the cell c -/
def np_c (S : mm_S) (c n : Nat) (f : Nat → Nat) : Prop := ∀ p, p < n → mm_M S c p = nI (f p)
theorem np_6 (ok : gb_ok G) (h : np_ok (ab_row (gD G)) f) (hp : p < (ab_row (gD G)).length) : f p < 6 := Nat.lt_of_lt_of_le (ok.1.2.1.2.1 _ (h.2 p hp)) ok.1.1.1
theorem s123q (hw : mm_W S) (hc : np_c S 89 n f) (hn : n ≤ 6) (hi : i < n) (hj : j < n) : ∃ T, mm_cl d 123 [.ref 0, .int (nI i), .int (nI j)] S = some (none, T) ∧ np_c T 89 n (np_s f i j) ∧ sf_f (fun c _ => c = 89) S T ∧ mm_W T ∧ mm_n T = mm_n S ∧ mm_z T = mm_z S := by
  have ci : (nI i).toNatClampNeg = i := nI_clamp (by omega)
  have cj : (nI j).toNatClampNeg = j := nI_clamp (by omega)
  refine ⟨mm_uM (mm_uM S 89 i (nI (f j))) 89 j (nI (f i)), ?_, fun p hp => ?_, sf_tr (sf_uM rfl) (sf_uM rfl), hw, rfl, rfl⟩
  · rw [e123, b123_0 (wx_o0 hw) (wx_s0_8 hw) (by rw [wx_g0_8 hw, wx_N89 hw]; exact hp_inb (by omega) (by omega)) (by rw [wx_g0_8 hw]; exact wx_a89 hw) (by rw [wx_g0_8 hw, wx_N89 hw]; exact hp_inb (by omega) (by omega)), wx_g0_8 hw, ci, cj, hc i hi, hc j hj]
  · rw [rdk, rdk]
    unfold np_s
    by_cases h1 : p = j
    · rw [if_pos h1, if_pos h1]
    · rw [if_neg h1, if_neg h1]
      by_cases h2 : p = i
      · rw [if_pos h2, if_pos h2]
      · rw [if_neg h2, if_neg h2]; exact hc p hp
theorem l122t (hw : mm_W S) (hc : np_c S 89 n f) (hn : n ≤ 6) (h6 : ∀ p, p < n → f p < 6) {v2 v3 v4 : Value} (q2 : v2 = .null) (q3 : v3 = .null) (q4 : v4 = .null) : ∀ k, k + 1 < n → mm_ex d 122 10 [.ref 0, .int (nI k), v2, v3, v4] [] S = match np_t f (k + 1) with
    | none => mm_ex d 122 37 [.ref 0, .int (-1), v2, v3, v4] [] S
    | some t => mm_ex d 122 37 [.ref 0, .int (nI t), v2, v3, v4] [] S := by
  subst q2 q3 q4
  intro k
  induction k with
  | zero =>
    intro hk
    rw [b122_10, if_neg (by decide), b122_14 (wx_o0 hw) (wx_s0_8 hw) (by rw [wx_g0_8 hw, wx_N89 hw]; decide) (by rw [wx_g0_8 hw]; exact wx_a89 hw) (by rw [nI_add, wx_g0_8 hw, wx_N89 hw]; decide), wx_g0_8 hw, nI_add, nI_clamp (by decide), nI_clamp (by decide), hc 0 (by omega), hc (0 + 1) hk]
    have e : np_t f (0 + 1) = if f (0 + 1) < f 0 then none else some 0 := rfl
    have a0 := h6 0 (by omega)
    have a1 := h6 (0 + 1) hk
    rw [e]
    by_cases h : f (0 + 1) < f 0
    · rw [if_neg (nI_ge h (by omega)), if_pos h, b122_31, b122_10, show nI 0 + (-1) = (-1 : Int32) from rfl, if_pos (by decide)]
    · rw [if_pos (nI_le (by omega) (by omega)), if_neg h]
  | succ k ih =>
    intro hk
    rw [b122_10, if_neg (nI_n0 (by omega)), b122_14 (wx_o0 hw) (wx_s0_8 hw) (by rw [wx_g0_8 hw, wx_N89 hw]; exact hp_inb (by omega) (by omega)) (by rw [wx_g0_8 hw]; exact wx_a89 hw) (by rw [nI_add, wx_g0_8 hw, wx_N89 hw]; exact hp_inb (by omega) (by omega)), wx_g0_8 hw, nI_add, nI_clamp (by omega), nI_clamp (by omega), hc (k + 1) (by omega), hc (k + 1 + 1) hk]
    have e : np_t f (k + 1 + 1) = if f (k + 1 + 1) < f (k + 1) then np_t f (k + 1) else some (k + 1) := rfl
    have a0 := h6 (k + 1) (by omega)
    have a1 := h6 (k + 1 + 1) hk
    rw [e]
    by_cases h : f (k + 1 + 1) < f (k + 1)
    · rw [if_neg (nI_ge h (by omega)), if_pos h, b122_31, show nI (k + 1) + (-1) = nI k from pk_m1 _]
      exact ih (by omega)
    · rw [if_pos (nI_le (by omega) (by omega)), if_neg h]
theorem l122l (hw : mm_W S) (hc : np_c S 89 n f) (hn : n ≤ 6) (h6 : ∀ p, p < n → f p < 6) (ht : t < n) : ∀ l, l < n → mm_ex d 122 53 [.ref 0, .int (nI t), .int (nI l), .null, .null] [] S = mm_ex d 122 79 [.ref 0, .int (nI t), .int (nI (np_l f t l)), .null, .null] [] S := by
  intro l
  induction l with
  | zero => intro _; rw [b122_53, if_pos (nI_le (Nat.zero_le _) (by omega))]; rfl
  | succ l ih =>
    intro hl
    have e : np_l f t (l + 1) = if l + 1 ≤ t then l + 1 else if f t ≤ f (l + 1) then l + 1 else np_l f t l := rfl
    have a0 := h6 t ht
    have a1 := h6 (l + 1) hl
    rw [e, b122_53]
    by_cases h1 : l + 1 ≤ t
    · rw [if_pos (nI_le h1 (by omega)), if_pos h1]
    · rw [if_neg (nI_ge (by omega) (by omega)), if_neg h1, b122_58 (wx_o0 hw) (wx_s0_8 hw) (by rw [wx_g0_8 hw, wx_N89 hw]; exact hp_inb (by omega) (by omega)) (by rw [wx_g0_8 hw]; exact wx_a89 hw) (by rw [wx_g0_8 hw, wx_N89 hw]; exact hp_inb (by omega) (by omega)), wx_g0_8 hw, nI_clamp (by omega), nI_clamp (by omega), hc t ht, hc (l + 1) hl]
      by_cases h2 : f t ≤ f (l + 1)
      · rw [if_pos (nI_le h2 (by omega)), if_pos h2]
      · rw [if_neg (nI_ge (by omega) (by omega)), if_neg h2, b122_73, show nI (l + 1) + (-1) = nI l from pk_m1 _]
        exact ih (by omega)
theorem l122r {x1 x2 : Int32} (hn : n ≤ 6) : ∀ (k l q : Nat) (S : mm_S) (f : Nat → Nat), mm_W S → np_c S 89 n f → q < n → q ≤ l + k → l ≤ q + 1 → ∃ T, mm_ex (d + 1) 122 100 [.ref 0, .int x1, .int x2, .int (nI l), .int (nI q)] [] S = some (some (.int (nI 1)), T) ∧ np_c T 89 n (np_r k l q f) ∧ sf_f (fun c _ => c = 89) S T ∧ mm_W T ∧ mm_n T = mm_n S ∧ mm_z T = mm_z S := by
  intro k
  induction k with
  | zero =>
    intro l q S f hw hc hq hk hl
    refine ⟨S, ?_, hc, sf_rf, hw, rfl, rfl⟩
    rw [b122_100, if_pos (nI_le (by omega) (by omega)), b122_122]
  | succ k ih =>
    intro l q S f hw hc hq hk hl
    have e : np_r (k + 1) l q f = if q ≤ l then f else np_r k (l + 1) (q - 1) (np_s f l q) := rfl
    rw [e]
    by_cases h : q ≤ l
    · rw [if_pos h]
      refine ⟨S, ?_, hc, sf_rf, hw, rfl, rfl⟩
      rw [b122_100, if_pos (nI_le h (by omega)), b122_122]
    · rw [if_neg h]
      obtain ⟨T1, g1, g2, g3, g4, g5, g6⟩ := s123q (d := d) hw hc hn (i := l) (j := q) (by omega) hq
      obtain ⟨T2, f1, f2, f3, f4, f5, f6⟩ := ih (l + 1) (q - 1) T1 _ g4 g2 (by omega) (by omega) (by omega)
      refine ⟨T2, ?_, f2, sf_tr g3 f3, f4, f5.trans g5, f6.trans g6⟩
      have m1 : nI q + (-1) = nI (q - 1) := by
        have : q = (q - 1) + 1 := by omega
        conv => lhs; rw [this]
        exact pk_m1 _
      rw [b122_100, if_neg (nI_ge (by omega) (by omega)), b122_106 (wx_k0 hw), g1, hp_bd, hp_tn, b122_113, nI_add, m1, f1]
theorem s122q (ok : gb_ok G) (hR : RC S G) (hf : np_ok (ab_row (gD G)) f) (hc : np_c S 89 (ab_row (gD G)).length f) : ∃ T, QC S T G ∧ (match np_n f (ab_row (gD G)).length with
    | none => mm_cl (d + 1) 122 [.ref 0] S = some (some (.int (nI 0)), T) ∧ np_c T 89 (ab_row (gD G)).length f
    | some g => mm_cl (d + 1) 122 [.ref 0] S = some (some (.int (nI 1)), T) ∧ np_c T 89 (ab_row (gD G)).length g) ∧ sf_f (fun c _ => c = 89) S T := by
  have hw := hR.1
  have hl6 : (ab_row (gD G)).length ≤ 6 := row_le ok.1.1 ok.1.2.1
  have h11 : mm_M S 6 11 = nI (ab_row (gD G)).length := hR.2.1.2.1.1
  have h6 : ∀ p, p < (ab_row (gD G)).length → f p < 6 := fun p hp => np_6 ok hf hp
  have st : mm_cl (d + 1) 122 [.ref 0] S = mm_ex (d + 1) 122 10 [.ref 0, .int (nI (ab_row (gD G)).length - nI 2), .null, .null, .null] [] S := by
    rw [e122, b122_0 (wx_o0 hw) (wx_s0_0 hw) (by rw [wx_g0_0 hw]; exact wx_o6 hw), wx_g0_0 hw, h11]
  by_cases h2 : (ab_row (gD G)).length < 2
  · have en : np_n f (ab_row (gD G)).length = none := by
      unfold np_n
      have e0 : (ab_row (gD G)).length - 1 = 0 := by omega
      rw [e0]
      rfl
    rw [en]
    refine ⟨S, QC_rf hR, ⟨?_, hc⟩, sf_rf⟩
    have hneg : nI (ab_row (gD G)).length - nI 2 < nI 0 := by
      rcases (by omega : (ab_row (gD G)).length = 0 ∨ (ab_row (gD G)).length = 1) with e | e <;> rw [e] <;> decide
    rw [st, b122_10, if_pos hneg, b122_37, if_neg (Int32.not_le.mpr hneg), b122_41]
  have l1 := l122t (d := d + 1) hw hc hl6 h6 (v2 := .null) (v3 := .null) (v4 := .null) rfl rfl rfl ((ab_row (gD G)).length - 2) (by omega)
  have e2 : (ab_row (gD G)).length - 2 + 1 = (ab_row (gD G)).length - 1 := by omega
  rw [e2] at l1
  rw [pk_sub (by omega)] at st
  unfold np_n
  cases ht : np_t f ((ab_row (gD G)).length - 1) with
  | none =>
    rw [ht] at l1
    refine ⟨S, QC_rf hR, ⟨?_, hc⟩, sf_rf⟩
    rw [st, l1]
    show mm_ex (d + 1) 122 37 _ [] S = _
    rw [b122_37, if_neg (by decide), b122_41]
  | some t =>
    rw [ht] at l1
    have h1 := np_tl ht
    have hll := @np_ll t f ((ab_row (gD G)).length - 1)
    have l2 := l122l (d := d + 1) hw hc hl6 h6 (t := t) (by omega) ((ab_row (gD G)).length - 1) (by omega)
    obtain ⟨T1, g1, g2, g3, g4, g5, g6⟩ := s123q (d := d) hw hc hl6 (i := t) (j := np_l f t ((ab_row (gD G)).length - 1)) (by omega) (by omega)
    obtain ⟨T2, f1, f2, f3, f4, f5, f6⟩ := l122r (d := d) (x1 := nI t) (x2 := nI (np_l f t ((ab_row (gD G)).length - 1))) hl6 (ab_row (gD G)).length (t + 1) ((ab_row (gD G)).length - 1) T1 _ g4 g2 (by omega) (by omega) (by omega)
    have f := sf_tr g3 f3
    refine ⟨T2, QC_f ok hR (sf_mo f (fun c j (h : c = 89) => by unfold gc_F; omega)) f4 (f5.trans g5) (f6.trans g6), ⟨?_, f2⟩, f⟩
    have h11T : mm_M T1 6 11 = nI (ab_row (gD G)).length := (g3.1 6 11 (fun (e : 6 = 89) => by omega)).1.trans h11
    rw [st, l1]
    show mm_ex (d + 1) 122 37 _ [] S = _
    rw [b122_37, if_pos (nI_le (Nat.zero_le _) (by omega)), b122_43 (wx_o0 hw) (wx_s0_0 hw) (by rw [wx_g0_0 hw]; exact wx_o6 hw), wx_g0_0 hw, h11, pk_sub (by omega), l2, b122_79 (wx_k0 hw), g1, hp_bd, hp_tn, b122_85 (wx_o0 g4) (wx_s0_0 g4) (by rw [wx_g0_0 g4]; exact wx_o6 g4), wx_g0_0 g4, h11T, nI_add, pk_sub (by omega), f1]
-- the first of all rows
theorem n0_s {kn : Nat} : np_0 (kn + 1) r = np_0 kn r ++ (if kn ∈ r then [kn] else []) := by
  unfold np_0
  rw [List.range_succ, List.filter_append]
  by_cases h : kn ∈ r
  · rw [if_pos h, List.filter_cons_of_pos (by simpa using h)]; rfl
  · rw [if_neg h, List.filter_cons_of_neg (by simpa using h)]; rfl
theorem n0_nd {kn : Nat} : (np_0 kn r).Nodup := (List.nodup_range (n := kn)).sublist List.filter_sublist
theorem n0_me {kn b : Nat} : b ∈ np_0 kn r ↔ b < kn ∧ b ∈ r := by
  unfold np_0
  rw [List.mem_filter, List.mem_range]
  simp
theorem n0_len {kn : Nat} (hn : r.Nodup) (hm : ∀ b ∈ r, b < kn) : (np_0 kn r).length = r.length := by
  refine List.Perm.length_eq ((List.perm_ext_iff_of_nodup n0_nd hn).mpr (fun b => ?_))
  rw [n0_me]
  exact ⟨fun h => h.2, fun h => ⟨hm b h, h⟩⟩
theorem n0_ok {kn : Nat} (hn : r.Nodup) (hm : ∀ b ∈ r, b < kn) : np_ok r (fun i => (np_0 kn r).getD i 0) := by
  have hl := n0_len hn hm
  refine ⟨fun p q hp hq e => ?_, fun p hp => ?_⟩
  · have e : (np_0 kn r).getD p 0 = (np_0 kn r).getD q 0 := e
    rw [List.getD_eq_getElem?_getD, List.getD_eq_getElem?_getD, List.getElem?_eq_getElem (by omega), List.getElem?_eq_getElem (by omega)] at e
    exact (List.getElem_inj n0_nd).mp e
  · show (np_0 kn r).getD p 0 ∈ r
    rw [List.getD_eq_getElem?_getD, List.getElem?_eq_getElem (by omega)]
    exact (n0_me.mp (List.getElem_mem (l := np_0 kn r) (by omega))).2
theorem s120_loop (ok : gb_ok G) : ∀ (k b : Nat) (S : mm_S), RC S G → b + k = gK G → (∀ i, i < (np_0 b (ab_row (gD G))).length → mm_M S 89 i = nI ((np_0 b (ab_row (gD G))).getD i 0)) → ∃ T, mm_ex (d + 1) 120 4 [.ref 0, .int (nI (np_0 b (ab_row (gD G))).length), .int (nI b)] [] S = some (none, T) ∧ QC S T G ∧ (∀ i, i < (np_0 (gK G) (ab_row (gD G))).length → mm_M T 89 i = nI ((np_0 (gK G) (ab_row (gD G))).getD i 0)) ∧ sf_f (fun c _ => c = 89) S T := by
  have hk6 : gK G ≤ 6 := ok.1.1.1
  have hl6 : (ab_row (gD G)).length ≤ 6 := row_le ok.1.1 ok.1.2.1
  intro k
  induction k with
  | zero =>
    intro b S hR hb hv
    have hw := hR.1
    have h10 : mm_M S 6 10 = nI (gK G) := hR.2.1.1.1
    have e : b = gK G := by omega
    subst e
    refine ⟨S, ?_, QC_rf hR, hv, sf_rf⟩
    rw [b120_4 (wx_o0 hw) (wx_s0_0 hw) (by rw [wx_g0_0 hw]; exact wx_o6 hw), wx_g0_0 hw, h10, if_pos (nI_le (Nat.le_refl _) (by omega)), b120_42]
  | succ k ih =>
    intro b S hR hb hv
    have hw := hR.1
    have hA := RC_A ok hR
    have h10 : mm_M S 6 10 = nI (gK G) := hR.2.1.1.1
    have hbk : b < gK G := by omega
    have k12 := s12b (d := d) hA hbk
    have f2 : ∀ k, ab_at b (ab_row (gD G)) = some k → k < 2 ^ 31 := fun k h => by have := at_lt hl6 h; omega
    have hlen : (np_0 b (ab_row (gD G))).length ≤ 6 := by
      have := List.length_filter_le (fun c => decide (c ∈ ab_row (gD G))) (List.range b)
      rw [List.length_range] at this
      unfold np_0
      omega
    have st : mm_ex (d + 1) 120 4 [.ref 0, .int (nI (np_0 b (ab_row (gD G))).length), .int (nI b)] [] S = if cd_fo (ab_at b (ab_row (gD G))) < nI 0 then mm_ex (d + 1) 120 36 [.ref 0, .int (nI (np_0 b (ab_row (gD G))).length), .int (nI b)] [] S else mm_ex (d + 1) 120 26 [.ref 0, .int (nI (np_0 b (ab_row (gD G))).length), .int (nI b)] [] S := by
      rw [b120_4 (wx_o0 hw) (wx_s0_0 hw) (by rw [wx_g0_0 hw]; exact wx_o6 hw), wx_g0_0 hw, h10, if_neg (nI_ge hbk (by omega)), b120_15 (wx_o0 hw) (wx_s0_0 hw) (by rw [wx_g0_0 hw]; exact wx_k6 hw), wx_g0_0 hw, k12, hp_bd, hp_ts, b120_23]
    by_cases hm : b ∈ ab_row (gD G)
    · have hn : ¬ (cd_fo (ab_at b (ab_row (gD G))) < nI 0) := by rw [fo_neg f2, at_none]; exact fun h => h hm
      have es : np_0 (b + 1) (ab_row (gD G)) = np_0 b (ab_row (gD G)) ++ [b] := by rw [n0_s, if_pos hm]
      have hl5 : (np_0 b (ab_row (gD G))).length < 6 := by
        have := List.length_filter_le (fun c => decide (c ∈ ab_row (gD G))) (List.range b)
        rw [List.length_range] at this
        unfold np_0
        omega
      have q1 : QC S (mm_uM S 89 (np_0 b (ab_row (gD G))).length (nI b)) G := gF_w (by unfold gc_F; omega) hR ok
      obtain ⟨T, g1, g2, g3, g4⟩ := ih (b + 1) _ q1.1 (by omega) (fun i hi => by
        rw [es] at hi ⊢
        rw [len1] at hi
        rw [rdk]
        by_cases h : i = (np_0 b (ab_row (gD G))).length
        · rw [if_pos h, h, List.getD_eq_getElem?_getD, List.getElem?_append_right (Nat.le_refl _), Nat.sub_self]; rfl
        · rw [if_neg h, List.getD_eq_getElem?_getD, List.getElem?_append_left (by omega), ← List.getD_eq_getElem?_getD]
          exact hv i (by omega))
      rw [es, len1] at g1
      refine ⟨T, ?_, QC_tr q1 g2, g3, sf_tr (sf_uM rfl) g4⟩
      rw [st, if_neg hn, b120_26 (wx_o0 hw) (wx_s0_8 hw) (by rw [wx_g0_8 hw]; exact wx_a89 hw) (by rw [wx_g0_8 hw, wx_N89 hw]; exact hp_inb hl5 (by omega)), wx_g0_8 hw, nI_clamp (by omega), nI_add, nI_add, g1]
    · have hn : cd_fo (ab_at b (ab_row (gD G))) < nI 0 := by rw [fo_neg f2, at_none]; exact hm
      have es : np_0 (b + 1) (ab_row (gD G)) = np_0 b (ab_row (gD G)) := by rw [n0_s, if_neg hm, List.append_nil]
      obtain ⟨T, g1, g2, g3, g4⟩ := ih (b + 1) S hR (by omega) (by rw [es]; exact hv)
      rw [es] at g1
      refine ⟨T, ?_, g2, g3, g4⟩
      rw [st, if_pos hn, b120_36, nI_add, g1]
theorem s120q (ok : gb_ok G) (hR : RC S G) : ∃ T, mm_cl (d + 1) 120 [.ref 0] S = some (none, T) ∧ QC S T G ∧ np_c T 89 (ab_row (gD G)).length (fun i => (np_0 (gK G) (ab_row (gD G))).getD i 0) := by
  obtain ⟨T, g1, g2, g3, -⟩ := s120_loop (d := d) ok (gK G) 0 S hR (Nat.zero_add _) (fun i hi => absurd hi (Nat.not_lt_zero i))
  refine ⟨T, ?_, g2, fun p hp => g3 p ?_⟩
  · rw [e120, b120_0]; exact g1
  · have e := n0_len (kn := gK G) (r := ab_row (gD G)) ok.1.2.1.1 ok.1.2.1.2.1
    omega
theorem s121q (ok : gb_ok G) (hR : RC S G) (hf : np_ok (ab_row (gD G)) f) (hc : np_c S 89 (ab_row (gD G)).length f) : ∃ T, mm_cl (d + 2) 121 [.ref 0] S = some (none, T) ∧ QC S T G ∧ cd_A T 24 (gP G) (gD_row (gD G) (np_f f (ab_row (gD G)).length)) ∧ sf_f (fun c _ => 24 ≤ c ∧ c ≤ 32) S T := by
  have hw := hR.1
  have hl6 : (ab_row (gD G)).length ≤ 6 := row_le ok.1.1 ok.1.2.1
  obtain ⟨g1, g2, g3⟩ := t_copy (d := d) (a := 24) ok hR (Or.inl rfl)
  have w1 := g3.1
  have h11 : mm_M (mm_cD S 24 6) 6 11 = nI (ab_row (gD G)).length := g2.1.2.1.2.1.1
  have h89 : ∀ j, mm_M (mm_cD S 24 6) 89 j = mm_M S 89 j := fun j => (cD_sf.1 89 j (by unfold gc_dy; omega)).1
  have cn : (nI (ab_row (gD G)).length).toNatClampNeg = (ab_row (gD G)).length := nI_clamp (by omega)
  have c0 : (nI 0).toNatClampNeg = 0 := nI_clamp (by decide)
  have fV : sf_f (fun c j => c = 24 + 6) (mm_cD S 24 6) (mm_cpM (mm_cD S 24 6) 89 30 0 0 (ab_row (gD G)).length) := by
    refine ⟨fun c j h => ⟨?_, rfl, rfl⟩, fun _ _ => ⟨rfl, rfl⟩, Nat.le_refl _⟩
    rw [hp_McpM, if_neg (fun e => h e.1)]
  have AV : cd_A (mm_cpM (mm_cD S 24 6) 89 30 0 0 (ab_row (gD G)).length) 24 (gP G) (gD_row (gD G) (np_f f (ab_row (gD G)).length)) := by
    refine A_row (T := mm_cpM (mm_cD S 24 6) 89 30 0 0 (ab_row (gD G)).length) g3 w1 fV (fun c j h => h) (np_nd hf) (fun b hb => ok.1.2.1.2.1 b (np_me hf b hb)) np_gl (fun q hq => ?_)
    rw [np_gl] at hq
    rw [np_ge hq]
    show mm_M (mm_cpM (mm_cD S 24 6) 89 30 0 0 (ab_row (gD G)).length) 30 q = _
    rw [hp_McpM, if_pos ⟨rfl, Nat.zero_le _, by omega⟩, Nat.sub_zero, Nat.zero_add, h89]
    exact hc q hq
  refine ⟨mm_cpM (mm_cD S 24 6) 89 30 0 0 (ab_row (gD G)).length, ?_, QC_tr g2 (QC_f ok g2.1 (sf_mo fV (fun c j (h : c = 24 + 6) => by unfold gc_F; omega)) w1 rfl rfl), AV, sf_tr (sf_mo cD_sf (fun c j h => by unfold gc_dy at h; omega)) (sf_mo fV (fun c j (h : c = 24 + 6) => by omega))⟩
  rw [e121, b121_0 (wx_o0 hw) (wx_s0_2 hw) (wx_s0_0 hw) (by rw [wx_g0_2 hw]; exact wx_k24 hw), wx_g0_2 hw, wx_g0_0 hw, g1, hp_bd, hp_tn, b121_11 (wx_o0 w1) (wx_s0_8 w1) (wx_s0_2 w1) (by rw [wx_g0_2 w1]; exact wx_o24 w1) (by rw [wx_g0_2 w1]; exact wx_s24_5 w1) (wx_s0_0 w1) (by rw [wx_g0_0 w1]; exact wx_o6 w1) (by rw [wx_g0_8 w1]; exact wx_a89 w1) (by rw [wx_g0_2 w1, wx_g24_5 w1]; exact wx_a30 w1) (by rw [wx_g0_0 w1, h11, wx_g0_8 w1, wx_g0_2 w1, wx_g24_5 w1, wx_N89 w1, wx_N30 w1]; exact cp_ok (by decide) (by decide) (by omega) (by omega) (by omega)), wx_g0_8 w1, wx_g0_2 w1, wx_g24_5 w1, wx_g0_0 w1, h11, c0, cn]
end NP
