/-! ===== rows in turn: the class's and the reference's are the same, one after another ===== -/
/-- a is increasing below n -/
def in_c (n : Nat) (a : Nat → Nat) : Prop := ∀ i j, i < j → j < n → a i < a j
def cm (a f : Nat → Nat) : Nat → Nat := fun i => a (f i)
section RW
variable {n k i j p t l o m kn : Nat} {a f g : Nat → Nat} {L r : List Nat} {P : ab_P} {D : ab_D} {G : gb_G}
theorem ic_lt (h : in_c n a) (hi : i < n) (hj : j < n) : a i < a j ↔ i < j := by
  constructor
  · intro q
    by_cases e : i < j
    · exact e
    · by_cases e2 : i = j
      · rw [e2] at q; exact absurd q (Nat.lt_irrefl _)
      · have := h j i (by omega) hi; omega
  · intro q; exact h i j q hj
theorem ic_le (h : in_c n a) (hi : i < n) (hj : j < n) : a i ≤ a j ↔ i ≤ j := by
  have := ic_lt h hj hi
  omega
theorem cs_s : np_s (cm a f) i j = cm a (np_s f i j) := by
  funext k
  show (if k = j then a (f i) else if k = i then a (f j) else a (f k)) = a (if k = j then f i else if k = i then f j else f k)
  by_cases h1 : k = j
  · rw [if_pos h1, if_pos h1]
  · rw [if_neg h1, if_neg h1]
    by_cases h2 : k = i
    · rw [if_pos h2, if_pos h2]
    · rw [if_neg h2, if_neg h2]
theorem cs_r : ∀ (k l q : Nat) (f : Nat → Nat), np_r k l q (cm a f) = cm a (np_r k l q f) := by
  intro k
  induction k with
  | zero => intro l q f; rfl
  | succ k ih =>
    intro l q f
    unfold np_r
    by_cases h : q ≤ l
    · rw [if_pos h, if_pos h]
    · rw [if_neg h, if_neg h, cs_s, ih]
theorem cs_t (h : in_c n a) (hb : ∀ p, p < n → f p < n) : ∀ k, k < n → np_t (cm a f) k = np_t f k := by
  intro k
  induction k with
  | zero => intro _; rfl
  | succ k ih =>
    intro hk
    have e : cm a f (k + 1) < cm a f k ↔ f (k + 1) < f k := ic_lt h (hb _ hk) (hb _ (by omega))
    unfold np_t
    by_cases q : f (k + 1) < f k
    · rw [if_pos (e.mpr q), if_pos q, ih (by omega)]
    · rw [if_neg (fun z => q (e.mp z)), if_neg q]
theorem cs_l (h : in_c n a) (hb : ∀ p, p < n → f p < n) (ht : t < n) : ∀ l, l < n → np_l (cm a f) t l = np_l f t l := by
  intro l
  induction l with
  | zero => intro _; rfl
  | succ l ih =>
    intro hl
    have e : cm a f t ≤ cm a f (l + 1) ↔ f t ≤ f (l + 1) := ic_le h (hb _ ht) (hb _ hl)
    unfold np_l
    by_cases h1 : l + 1 ≤ t
    · rw [if_pos h1, if_pos h1]
    · rw [if_neg h1, if_neg h1]
      by_cases q : f t ≤ f (l + 1)
      · rw [if_pos (e.mpr q), if_pos q]
      · rw [if_neg (fun z => q (e.mp z)), if_neg q, ih (by omega)]
theorem cs_n (h : in_c n a) (hb : ∀ p, p < n → f p < n) : np_n (cm a f) n = (np_n f n).map (cm a) := by
  by_cases h0 : n = 0
  · subst h0; rfl
  unfold np_n
  rw [cs_t h hb (n - 1) (by omega)]
  cases ht : np_t f (n - 1) with
  | none => rfl
  | some t =>
    have := np_tl ht
    show some (np_r n (t + 1) (n - 1) (np_s (cm a f) t (np_l (cm a f) t (n - 1)))) = some (cm a (np_r n (t + 1) (n - 1) (np_s f t (np_l f t (n - 1)))))
    rw [cs_l h hb (by omega) _ (by omega), cs_s, cs_r]
theorem rg_b (h : np_ok (List.range n) f) : ∀ p, p < n → f p < n := fun p hp => List.mem_range.mp (h.2 p (by rw [List.length_range]; exact hp))
theorem cs_a (h : in_c n a) : ∀ (k : Nat) (f : Nat → Nat), np_ok (List.range n) f → np_a n k (cm a f) = (np_a n k f).map (cm a) := by
  intro k
  induction k with
  | zero => intro f _; rfl
  | succ k ih =>
    intro f hf
    unfold np_a
    rw [cs_n h (rg_b hf)]
    cases e : np_n f n with
    | none => rfl
    | some g => exact congrArg (List.cons (cm a f)) (ih g (np_nk hf (by rw [List.length_range]; exact e)))
theorem mp_f : np_f (cm a f) n = (np_f f n).map a := by
  unfold np_f
  rw [List.map_map]
  rfl
theorem ei_map : ∀ (L : List Nat) (q : Nat), (L.map a).eraseIdx q = (L.eraseIdx q).map a := by
  intro L
  induction L with
  | nil => intro q; rfl
  | cons x L ih =>
    intro q
    cases q with
    | zero => rfl
    | succ q => exact congrArg (List.cons (a x)) (ih q)
theorem lh_mp : ∀ (m : Nat) (L : List Nat) (o : Nat), L.length = m → o < lh_f m → lh_l m (L.map a) o = (lh_l m L o).map a := by
  intro m
  induction m with
  | zero => intro L o _ _; rfl
  | succ m ih =>
    intro L o h ho
    have hp := lh_pk ho
    have e1 : (L.map a).getD (o / lh_f m) 0 = a (L.getD (o / lh_f m) 0) := by
      rw [List.getD_eq_getElem?_getD, List.getElem?_map, List.getElem?_eq_getElem (by omega), List.getD_eq_getElem?_getD, List.getElem?_eq_getElem (by omega)]
      rfl
    show (L.map a).getD (o / lh_f m) 0 :: lh_l m ((L.map a).eraseIdx (o / lh_f m)) (o % lh_f m) = a (L.getD (o / lh_f m) 0) :: (lh_l m (L.eraseIdx (o / lh_f m)) (o % lh_f m)).map a
    rw [e1, ei_map, ih _ _ (by rw [List.length_eraseIdx_of_lt (by omega)]; omega) (Nat.mod_lt _ (lf_pos m))]
theorem rw_n (h : n ≤ 5) : (np_a n 120 (fun i => i)).map (fun f => np_f f n) = (List.range (lh_f n)).map (lh_l n (List.range n)) := by
  rcases (by omega : n = 0 ∨ n = 1 ∨ n = 2 ∨ n = 3 ∨ n = 4 ∨ n = 5) with rfl | rfl | rfl | rfl | rfl | rfl <;> decide +kernel
theorem l0_map : (List.range L.length).map (fun i => L.getD i 0) = L := by
  refine List.ext_getElem (by rw [List.length_map, List.length_range]) (fun i h1 h2 => ?_)
  rw [List.getElem_map, List.getElem_range, List.getD_eq_getElem?_getD, List.getElem?_eq_getElem h2]
  rfl
theorem ic_0 : in_c (np_0 kn r).length (fun i => (np_0 kn r).getD i 0) := by
  intro i j hij hj
  have hp : List.Pairwise (· < ·) (np_0 kn r) := List.Pairwise.filter _ List.pairwise_lt_range
  have h := List.pairwise_iff_getElem.mp hp i j (by omega) hj hij
  show (np_0 kn r).getD i 0 < (np_0 kn r).getD j 0
  rw [List.getD_eq_getElem?_getD, List.getD_eq_getElem?_getD, List.getElem?_eq_getElem (by omega), List.getElem?_eq_getElem hj]
  exact h
theorem id_ok : np_ok (List.range n) (fun i => i) := ⟨fun p q _ _ e => e, fun p hp => by rw [List.length_range] at hp; exact List.mem_range.mpr hp⟩
theorem rows_eq (ok : gb_ok G) (h5 : (ab_row (gD G)).length ≤ 5) : (ab_os G).map (fun f => np_f f (ab_row (gD G)).length) = (List.range (lh_f (ab_row (gD G)).length)).map (ab_rr (gP G) (gD G)) := by
  have hl : (np_0 (gK G) (ab_row (gD G))).length = (ab_row (gD G)).length := n0_len ok.1.2.1.1 ok.1.2.1.2.1
  have hi : in_c (ab_row (gD G)).length (fun i => (np_0 (gK G) (ab_row (gD G))).getD i 0) := by rw [← hl]; exact ic_0
  have hm : (List.range (ab_row (gD G)).length).map (fun i => (np_0 (gK G) (ab_row (gD G))).getD i 0) = np_0 (gK G) (ab_row (gD G)) := by rw [← hl]; exact l0_map
  have e1 : ab_os G = (np_a (ab_row (gD G)).length 120 (fun i => i)).map (cm (fun i => (np_0 (gK G) (ab_row (gD G))).getD i 0)) := cs_a hi 120 (fun i => i) id_ok
  have e2 : ((np_a (ab_row (gD G)).length 120 (fun i => i)).map (cm (fun i => (np_0 (gK G) (ab_row (gD G))).getD i 0))).map (fun f => np_f f (ab_row (gD G)).length) = ((np_a (ab_row (gD G)).length 120 (fun i => i)).map (fun f => np_f f (ab_row (gD G)).length)).map (List.map (fun i => (np_0 (gK G) (ab_row (gD G))).getD i 0)) := by
    rw [List.map_map, List.map_map]
    exact List.map_congr_left (fun f _ => mp_f)
  rw [e1, e2, rw_n h5, List.map_map]
  refine List.map_congr_left (fun o ho => ?_)
  show (lh_l (ab_row (gD G)).length (List.range (ab_row (gD G)).length) o).map (fun i => (np_0 (gK G) (ab_row (gD G))).getD i 0) = lh_l (ab_row (gD G)).length (np_0 (gK G) (ab_row (gD G))) o
  rw [← lh_mp _ _ _ List.length_range (List.mem_range.mp ho), hm]
end RW
