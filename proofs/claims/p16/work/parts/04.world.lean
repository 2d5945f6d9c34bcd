/-! ===== the numbered cells as a world of the kit's ===== -/
def mm_ad (aa : Nat → Nat) (z : Value) (v : Value) : Value := match v with
  | .ref i => .ref (aa i)
  | .retAddr _ => z
  | v => v
def mm_fs (aa : Nat → Nat) (S : mm_S) (k i : Nat) : List Value := (List.range (mm_NF k)).map fun j => if mm_tg k j = 1 then .long (mm_L S i j) else if mm_tg k j = 2 then va_rf ((mm_R S i j).map aa) else .int (mm_M S i j)
def mm_ce1 (ca : Nat → ClassId) (aa : Nat → Nat) (S : mm_S) (i : Nat) : va_E :=
  if mm_K S i < 13 then .inr (mm_K S i, mm_fs aa S (mm_K S i) i)
  else if mm_K S i = 14 then .inl (ca (mm_K S i), mm_N S i, .inr (.inl (mm_L S i)))
  else if 16 ≤ mm_K S i then .inl (ca (mm_K S i), mm_N S i, .inr (.inr (.inr (.inr fun j => (mm_R S i j).map aa))))
  else .inl (ca (mm_K S i), mm_N S i, .inl (mm_M S i))
def mm_ws (ca : Nat → ClassId) (aa : Nat → Nat) (S : mm_S) : va_W := (List.range (mm_n S)).map fun i => (aa i, mm_ce1 ca aa S i)
def mm_ats (ca : Nat → ClassId) : List (ClassId × FieldType) := [(ca 13, .int), (ca 14, .long), (ca 15, .boolean), (ca 16, .object "PennyMore$Buyer"), (ca 17, .object "PennyMore$Shop"), (ca 18, .object "PennyMore$Tape")]
def mm_wf (S : mm_S) : Prop := (∀ i, i < mm_n S → ∀ j b, mm_R S i j = some b → b < mm_n S) ∧ mm_n S ≤ 1000000
def mm_vok (S : mm_S) (v : Value) : Prop := match v with
  | .ref i => i < mm_n S ∨ 1000000 ≤ i
  | _ => True
theorem mm_ws_get {ca : Nat → ClassId} {aa : Nat → Nat} {S : mm_S} {i : Nat} (h : i < mm_n S) : (mm_ws ca aa S)[i]? = some (aa i, mm_ce1 ca aa S i) := by
  simp [mm_ws, h]
theorem mm_ws_len {ca : Nat → ClassId} {aa : Nat → Nat} {S : mm_S} : (mm_ws ca aa S).length = mm_n S := by simp [mm_ws]
theorem mm_ws_set {ca : Nat → ClassId} {aa : Nat → Nat} {S S' : mm_S} {i : Nat} {e : va_E} (he : mm_ce1 ca aa S' i = e) (hn : mm_n S' = mm_n S) (hj : ∀ j, j ≠ i → mm_ce1 ca aa S' j = mm_ce1 ca aa S j) : (mm_ws ca aa S).set i (aa i, e) = mm_ws ca aa S' := by
  apply List.ext_getElem?
  intro j
  by_cases hl : j < mm_n S
  · rw [mm_ws_get (S := S') (by rw [hn]; exact hl)]
    by_cases h : j = i
    · subst h
      rw [List.getElem?_set_self (by rw [mm_ws_len]; exact hl), he]
    · rw [List.getElem?_set_ne (Ne.symm h), mm_ws_get hl, hj j h]
  · rw [List.getElem?_eq_none (by rw [List.length_set, mm_ws_len]; omega), List.getElem?_eq_none (by rw [mm_ws_len, hn]; omega)]
theorem mm_u_self {α : Type} {f : Nat → α} {k : Nat} {x : α} : mm_u f k x k = x := by simp [mm_u]
theorem mm_u_ne {α : Type} {f : Nat → α} {k j : Nat} {x : α} (h : j ≠ k) : mm_u f k x j = f j := by simp [mm_u, h]
theorem mm_ce1_sM {ca : Nat → ClassId} {aa : Nat → Nat} {S : mm_S} {i : Nat} {f : Nat → Int32} : ∀ j, j ≠ i → mm_ce1 ca aa (mm_sM S i f) j = mm_ce1 ca aa S j := by
  intro j hj
  have e1 : mm_M (mm_sM S i f) j = mm_M S j := mm_u_ne hj
  have e2 : ∀ k, mm_fs aa (mm_sM S i f) k j = mm_fs aa S k j := fun k => by
    unfold mm_fs
    rw [e1]; rfl
  unfold mm_ce1
  rw [e1, e2]; rfl
theorem mm_ce1_sL {ca : Nat → ClassId} {aa : Nat → Nat} {S : mm_S} {i : Nat} {f : Nat → Int64} : ∀ j, j ≠ i → mm_ce1 ca aa (mm_sL S i f) j = mm_ce1 ca aa S j := by
  intro j hj
  have e1 : mm_L (mm_sL S i f) j = mm_L S j := mm_u_ne hj
  have e2 : ∀ k, mm_fs aa (mm_sL S i f) k j = mm_fs aa S k j := fun k => by
    unfold mm_fs
    rw [e1]; rfl
  unfold mm_ce1
  rw [e1, e2]; rfl
theorem mm_ce1_sR {ca : Nat → ClassId} {aa : Nat → Nat} {S : mm_S} {i : Nat} {f : Nat → Option Nat} : ∀ j, j ≠ i → mm_ce1 ca aa (mm_sR S i f) j = mm_ce1 ca aa S j := by
  intro j hj
  have e1 : mm_R (mm_sR S i f) j = mm_R S j := mm_u_ne hj
  have e2 : ∀ k, mm_fs aa (mm_sR S i f) k j = mm_fs aa S k j := fun k => by
    unfold mm_fs
    rw [e1]; rfl
  unfold mm_ce1
  rw [e1, e2]; rfl
/-- where the numbers are the same, the cell is -/
theorem mm_ce1_aa {ca : Nat → ClassId} {aa bb : Nat → Nat} {S : mm_S} {i : Nat} (h : ∀ j b, mm_R S i j = some b → bb b = aa b) : mm_ce1 ca bb S i = mm_ce1 ca aa S i := by
  have e1 : ∀ j, (mm_R S i j).map bb = (mm_R S i j).map aa := fun j => by
    cases hr : mm_R S i j with
    | none => rfl
    | some b => simp [h j b hr]
  have e2 : ∀ k, mm_fs bb S k i = mm_fs aa S k i := fun k => by
    unfold mm_fs
    simp only [e1]
  unfold mm_ce1
  simp only [e1, e2]
theorem mm_ws_push {ca : Nat → ClassId} {aa : Nat → Nat} {S : mm_S} {k n q : Nat} {e : va_E} (hw : mm_wf S) (he : mm_ce1 ca (mm_u aa (mm_n S) q) (mm_nw S k n) (mm_n S) = e) : mm_ws ca aa S ++ [(q, e)] = mm_ws ca (mm_u aa (mm_n S) q) (mm_nw S k n) := by
  have hn : mm_n (mm_nw S k n) = mm_n S + 1 := rfl
  apply List.ext_getElem?
  intro j
  rcases Nat.lt_trichotomy j (mm_n S) with hj | hj | hj
  · rw [List.getElem?_append_left (by rw [mm_ws_len]; exact hj), mm_ws_get hj, mm_ws_get (by rw [hn]; omega)]
    have hne : j ≠ mm_n S := by omega
    have a1 : mm_u aa (mm_n S) q j = aa j := mm_u_ne hne
    have r1 : mm_R (mm_nw S k n) j = mm_R S j := mm_u_ne hne
    have m1 : mm_M (mm_nw S k n) j = mm_M S j := mm_u_ne hne
    have l1 : mm_L (mm_nw S k n) j = mm_L S j := mm_u_ne hne
    have k1 : mm_K (mm_nw S k n) j = mm_K S j := mm_u_ne hne
    have n1 : mm_N (mm_nw S k n) j = mm_N S j := mm_u_ne hne
    rw [a1, mm_ce1_aa (aa := aa) (fun i b h => mm_u_ne (by have := hw.1 j hj i b (by rw [← r1]; exact h); omega))]
    have e2 : ∀ k', mm_fs aa (mm_nw S k n) k' j = mm_fs aa S k' j := fun k' => by
      unfold mm_fs
      rw [r1, m1, l1]
    unfold mm_ce1
    rw [k1, n1, m1, l1, r1, e2]
  · subst hj
    rw [List.getElem?_append_right (by rw [mm_ws_len]; exact Nat.le_refl _), mm_ws_get (by rw [hn]; omega), mm_ws_len, Nat.sub_self, mm_u_self, he]
    rfl
  · rw [List.getElem?_eq_none (by simp [mm_ws_len]; omega), List.getElem?_eq_none (by rw [mm_ws_len, hn]; omega)]
theorem mm_cls_get : ∀ k, k < 13 → mm_cl_s[k]? = some (mm_ck k, mm_T k, mm_NF k) := by
  intro k hk
  match k, hk with
  | 0, _ => rfl
  | 1, _ => rfl
  | 2, _ => rfl
  | 3, _ => rfl
  | 4, _ => rfl
  | 5, _ => rfl
  | 6, _ => rfl
  | 7, _ => rfl
  | 8, _ => rfl
  | 9, _ => rfl
  | 10, _ => rfl
  | 11, _ => rfl
  | 12, _ => rfl
  | k + 13, h => exact absurd h (by omega)
theorem mm_ad_cat {aa : Nat → Nat} {z v : Value} (hz : z.category = 1) : (mm_ad aa z v).category = v.category := by
  cases v <;> first | rfl | exact hz
theorem mm_cs_map {aa : Nat → Nat} {z : Value} (hz : z.category = 1) : ∀ l : List Value, ((l.map (mm_ad aa z)).map fun v => v.category).sum = mm_cs l
  | [] => rfl
  | v :: l => by
    simp only [List.map_cons, List.sum_cons, mm_cs]
    rw [mm_ad_cat hz, mm_cs_map hz l]
theorem mm_ad_aa {aa bb : Nat → Nat} {z v : Value} {S : mm_S} (hv : mm_vok S v) (h : ∀ i, i < mm_n S ∨ 1000000 ≤ i → bb i = aa i) : mm_ad bb z v = mm_ad aa z v := by
  cases v <;> try rfl
  rename_i i
  exact congrArg Value.ref (h i hv)
theorem mm_map_aa {aa bb : Nat → Nat} {z : Value} {S : mm_S} {l : List Value} (hv : ∀ v ∈ l, mm_vok S v) (h : ∀ i, i < mm_n S ∨ 1000000 ≤ i → bb i = aa i) : l.map (mm_ad bb z) = l.map (mm_ad aa z) :=
  List.map_congr_left fun v hm => mm_ad_aa (hv v hm) h
theorem mm_ad_ref {aa : Nat → Nat} {z : Value} {i : Nat} : mm_ad aa z (.ref i) = .ref (aa i) := rfl
theorem mm_ad_rv {aa : Nat → Nat} {z : Value} {o : Option Nat} : mm_ad aa z (mm_rv o) = va_rf (o.map aa) := by cases o <;> rfl
/-! ===== the locals ===== -/
def mm_la (aa : Nat → Nat) (z : Value) (ls : List Value) : List (Nat × Value) := (List.range ls.length).filterMap fun i => match mm_lg ls i with
  | .null => none
  | v => some (i, mm_ad aa z v)
def mm_Lr (aa : Nat → Nat) (z : Value) (ls : List Value) (lm : Array Slot) (n : Nat) : Prop := ls.length = n ∧ lv_has lm n (mm_la aa z ls)
theorem mm_la_mem {aa : Nat → Nat} {z : Value} {ls : List Value} {q : Nat × Value} : q ∈ mm_la aa z ls ↔ ∃ v, q.1 < ls.length ∧ mm_lg ls q.1 = v ∧ v ≠ .null ∧ q.2 = mm_ad aa z v := by
  unfold mm_la
  rw [List.mem_filterMap]
  constructor
  · rintro ⟨i, hi, h⟩
    rw [List.mem_range] at hi
    cases hv : mm_lg ls i <;> rw [hv] at h <;> simp only [Option.some.injEq, reduceCtorEq] at h <;> subst h <;> exact ⟨_, hi, hv, by simp, rfl⟩
  · rintro ⟨v, hi, hv, hn, h2⟩
    refine ⟨q.1, List.mem_range.mpr hi, ?_⟩
    obtain ⟨i, w⟩ := q
    simp only at hv h2 ⊢
    rw [hv]
    subst h2
    cases v <;> first | rfl | exact absurd rfl hn
theorem lv_has_sub {ls : Array Slot} {n : Nat} {l l' : List (Nat × Value)} (h : lv_has ls n l) (hs : ∀ q ∈ l', q ∈ l) : lv_has ls n l' := ⟨h.1, h.2.1, fun q hq => h.2.2 q (hs q hq)⟩
theorem mm_Lr_get {aa : Nat → Nat} {z v : Value} {ls : List Value} {lm : Array Slot} {n k : Nat} (h : mm_Lr aa z ls lm n) (hv : mm_lg ls k = v) (hn : v ≠ .null) : lm[k]? = some (.val (mm_ad aa z v)) := by
  have hk : k < ls.length := by
    rcases Nat.lt_or_ge k ls.length with q | q
    · exact q
    · unfold mm_lg at hv
      rw [List.getD_eq_getElem?_getD, List.getElem?_eq_none q] at hv
      exact absurd hv.symm hn
  exact h.2.2.2 (k, mm_ad aa z v) (mm_la_mem.mpr ⟨v, hk, hv, hn, rfl⟩)
theorem mm_lg_set {ls : List Value} {i j : Nat} {v : Value} : mm_lg (ls.set i v) j = if j = i ∧ i < ls.length then v else mm_lg ls j := by
  unfold mm_lg
  rw [List.getD_eq_getElem?_getD, List.getD_eq_getElem?_getD, List.getElem?_set]
  by_cases h : i = j
  · subst h
    by_cases hl : i < ls.length
    · simp [hl]
    · simp [hl, List.getElem?_eq_none (Nat.not_lt.mp hl)]
  · have h2 : ¬ (j = i ∧ i < ls.length) := fun q => h q.1.symm
    rw [if_neg h, if_neg h2]
theorem mm_kl_len {ls : List Value} {i : Nat} : (mm_kl ls i).length = ls.length := by cases i <;> simp [mm_kl]
theorem mm_l1_len {ls : List Value} {i : Nat} {v : Value} : (mm_l1 ls i v).length = ls.length := by simp [mm_l1, mm_kl_len]
theorem mm_l2_len {ls : List Value} {i : Nat} {v : Value} : (mm_l2 ls i v).length = ls.length := by simp [mm_l2, mm_kl_len]
theorem mm_lg_kl {ls : List Value} {i j : Nat} {v : Value} (h : mm_lg (mm_kl ls i) j = v) (hn : v ≠ .null) (hj : j < ls.length) : mm_lg ls j = v ∧ ¬ (j + 1 = i ∧ v.category = 2) := by
  cases i with
  | zero => exact ⟨h, by omega⟩
  | succ k =>
    unfold mm_kl at h
    rw [mm_lg_set] at h
    by_cases hk : j = k
    · subst hk
      rw [if_pos ⟨rfl, hj⟩] at h
      unfold mm_k1 at h
      split at h
      · exact absurd h.symm hn
      · rename_i hc
        subst h
        exact ⟨rfl, fun q => hc q.2⟩
    · rw [if_neg (fun q => hk q.1)] at h
      exact ⟨h, by omega⟩
theorem mm_Lr_1 {aa : Nat → Nat} {z v : Value} {ls : List Value} {lm lm' : Array Slot} {n i : Nat} (hz : z.category = 1) (h : mm_Lr aa z ls lm n) (h2 : lv_has lm' n ((i, mm_ad aa z v) :: (mm_la aa z ls).filter (fun q => !(q.1 == i) && !(q.1 + 1 == i && q.2.category == 2)))) : mm_Lr aa z (mm_l1 ls i v) lm' n := by
  refine ⟨mm_l1_len.trans h.1, lv_has_sub h2 fun q hq => ?_⟩
  obtain ⟨w, a1, a2, a3, a4⟩ := mm_la_mem.mp hq
  rw [mm_l1_len] at a1
  obtain ⟨j, x⟩ := q
  simp only at a1 a2 a4
  unfold mm_l1 at a2
  rw [mm_lg_set] at a2
  by_cases hj : j = i
  · subst hj
    rw [if_pos ⟨rfl, by rw [mm_kl_len]; exact a1⟩] at a2
    subst a2
    rw [a4]; exact List.mem_cons_self
  · rw [if_neg (fun q => hj q.1)] at a2
    obtain ⟨b1, b2⟩ := mm_lg_kl a2 a3 a1
    refine List.mem_cons_of_mem _ (List.mem_filter.mpr ⟨mm_la_mem.mpr ⟨w, a1, b1, a3, a4⟩, ?_⟩)
    simp only [a4, mm_ad_cat hz]
    have : ¬ (j + 1 = i ∧ w.category = 2) := b2
    simp only [Bool.and_eq_true, Bool.not_eq_true', beq_eq_false_iff_ne, ne_eq, hj, not_false_eq_true, true_and, Bool.and_eq_false_iff]
    by_cases hc : j + 1 = i
    · exact Or.inr fun q => b2 ⟨hc, q⟩
    · exact Or.inl hc
theorem mm_Lr_2 {aa : Nat → Nat} {z v : Value} {ls : List Value} {lm lm' : Array Slot} {n i : Nat} (hz : z.category = 1) (h : mm_Lr aa z ls lm n) (h2 : lv_has lm' n ((i, mm_ad aa z v) :: (mm_la aa z ls).filter (fun q => !(q.1 == i) && (!(q.1 == i + 1) && !(q.1 + 1 == i && q.2.category == 2))))) : mm_Lr aa z (mm_l2 ls i v) lm' n := by
  refine ⟨mm_l2_len.trans h.1, lv_has_sub h2 fun q hq => ?_⟩
  obtain ⟨w, a1, a2, a3, a4⟩ := mm_la_mem.mp hq
  rw [mm_l2_len] at a1
  obtain ⟨j, x⟩ := q
  simp only at a1 a2 a4
  unfold mm_l2 at a2
  rw [mm_lg_set] at a2
  by_cases hj1 : j = i + 1
  · subst hj1
    rw [if_pos ⟨rfl, by rw [List.length_set, mm_kl_len]; exact a1⟩] at a2
    exact absurd a2.symm a3
  · rw [if_neg (fun q => hj1 q.1), mm_lg_set] at a2
    by_cases hj : j = i
    · subst hj
      rw [if_pos ⟨rfl, by rw [mm_kl_len]; exact a1⟩] at a2
      subst a2
      rw [a4]; exact List.mem_cons_self
    · rw [if_neg (fun q => hj q.1)] at a2
      obtain ⟨b1, b2⟩ := mm_lg_kl a2 a3 a1
      refine List.mem_cons_of_mem _ (List.mem_filter.mpr ⟨mm_la_mem.mpr ⟨w, a1, b1, a3, a4⟩, ?_⟩)
      simp only [a4, mm_ad_cat hz]
      simp only [Bool.and_eq_true, Bool.not_eq_true', beq_eq_false_iff_ne, ne_eq, hj, hj1, not_false_eq_true, true_and, Bool.and_eq_false_iff]
      by_cases hc : j + 1 = i
      · exact Or.inr fun q => b2 ⟨hc, q⟩
      · exact Or.inl hc
theorem mm_Lr_aa {aa bb : Nat → Nat} {z : Value} {S : mm_S} {ls : List Value} {lm : Array Slot} {n : Nat} (h : mm_Lr aa z ls lm n) (hv : ∀ v ∈ ls, mm_vok S v) (he : ∀ i, i < mm_n S ∨ 1000000 ≤ i → bb i = aa i) : mm_Lr bb z ls lm n := by
  refine ⟨h.1, lv_has_sub h.2 fun q hq => ?_⟩
  obtain ⟨w, a1, a2, a3, a4⟩ := mm_la_mem.mp hq
  have hm : w ∈ ls := by
    unfold mm_lg at a2
    rw [List.getD_eq_getElem?_getD, List.getElem?_eq_getElem a1] at a2
    rw [← a2]
    exact List.getElem_mem a1
  exact mm_la_mem.mpr ⟨w, a1, a2, a3, by rw [a4]; exact mm_ad_aa (hv w hm) he⟩
theorem mm_lg_vok {S : mm_S} {ls : List Value} (hv : ∀ v ∈ ls, mm_vok S v) (k : Nat) : mm_vok S (mm_lg ls k) := by
  unfold mm_lg
  rw [List.getD_eq_getElem?_getD]
  cases h : ls[k]? with
  | none => exact trivial
  | some v => exact hv v (List.mem_of_getElem? h)
theorem mm_set_vok {S : mm_S} {ls : List Value} (hv : ∀ v ∈ ls, mm_vok S v) {i : Nat} {v : Value} (h : mm_vok S v) : ∀ w ∈ ls.set i v, mm_vok S w := by
  intro w hw
  rcases List.mem_or_eq_of_mem_set hw with q | q
  · exact hv w q
  · rw [q]; exact h
theorem mm_kl_vok {S : mm_S} {ls : List Value} (hv : ∀ v ∈ ls, mm_vok S v) (i : Nat) : ∀ w ∈ mm_kl ls i, mm_vok S w := by
  cases i with
  | zero => exact hv
  | succ k =>
    refine mm_set_vok hv ?_
    unfold mm_k1
    split
    · exact trivial
    · exact mm_lg_vok hv k
theorem mm_l1_vok {S : mm_S} {ls : List Value} (hv : ∀ v ∈ ls, mm_vok S v) {i : Nat} {v : Value} (h : mm_vok S v) : ∀ w ∈ mm_l1 ls i v, mm_vok S w := mm_set_vok (mm_kl_vok hv i) h
theorem mm_l2_vok {S : mm_S} {ls : List Value} (hv : ∀ v ∈ ls, mm_vok S v) {i : Nat} {v : Value} (h : mm_vok S v) : ∀ w ∈ mm_l2 ls i v, mm_vok S w := mm_set_vok (mm_set_vok (mm_kl_vok hv i) h) trivial
/-! ===== an entry's locals ===== -/
theorem mm_as_len {aa : Nat → Nat} {z : Value} (hz : z.category = 1) : ∀ as : List Value, (lg_sl (as.map (mm_ad aa z))).length = (mm_as as).length
  | [] => rfl
  | v :: l => by
    have ih := mm_as_len (aa := aa) hz l
    simp only [lg_sl, List.map_cons, List.flatMap_cons, mm_ad_cat hz, mm_as]
    simp only [lg_sl] at ih
    by_cases h : v.category = 2
    · simp only [if_pos h, List.length_append, List.length_cons, List.length_nil, ih]; omega
    · simp only [if_neg h, List.length_append, List.length_cons, List.length_nil, ih]; omega
theorem mm_as_args {aa : Nat → Nat} {z : Value} (hz : z.category = 1) : ∀ (as : List Value) (k : Nat) (v : Value) (j : Nat), (mm_as as)[j]? = some v → v ≠ .null → (k + j, mm_ad aa z v) ∈ lv_args k (as.map (mm_ad aa z))
  | [], k, v, j, h, _ => by simp [mm_as] at h
  | w :: l, k, v, j, h, hn => by
    simp only [List.map_cons, lv_args, mm_ad_cat hz]
    unfold mm_as at h
    by_cases hc : w.category = 2
    · rw [if_pos hc] at h ⊢
      match j, h with
      | 0, h => cases h; exact List.mem_cons_self
      | 1, h => cases h; exact absurd rfl hn
      | j + 2, h =>
        have := mm_as_args (aa := aa) hz l (k + 2) v j (by simpa using h) hn
        exact List.mem_cons_of_mem _ (by rw [show k + (j + 2) = k + 2 + j by omega]; exact this)
    · rw [if_neg hc] at h ⊢
      match j, h with
      | 0, h => cases h; exact List.mem_cons_self
      | j + 1, h =>
        have := mm_as_args (aa := aa) hz l (k + 1) v j (by simpa using h) hn
        exact List.mem_cons_of_mem _ (by rw [show k + (j + 1) = k + 1 + j by omega]; exact this)
theorem mm_en_Lr {aa : Nat → Nat} {z : Value} (hz : z.category = 1) {as : List Value} {n : Nat} (hn : (mm_as as).length ≤ n) : mm_Lr aa z (mm_en n as) ((lg_sl (as.map (mm_ad aa z)) ++ List.replicate (n - (lg_sl (as.map (mm_ad aa z))).length) Slot.unset).toArray) n := by
  have h := lv_entry (as.map (mm_ad aa z)) (n := n) (by rw [mm_as_len hz]; exact hn)
  refine ⟨by simp [mm_en]; omega, lv_has_sub h fun q hq => ?_⟩
  obtain ⟨w, a1, a2, a3, a4⟩ := mm_la_mem.mp hq
  obtain ⟨j, x⟩ := q
  simp only at a1 a2 a4
  have hj : (mm_as as)[j]? = some w := by
    unfold mm_lg mm_en at a2
    rw [List.getD_eq_getElem?_getD, List.getElem?_append] at a2
    split at a2
    · rename_i hl
      rw [List.getElem?_eq_getElem hl] at a2 ⊢
      exact congrArg some a2
    · rw [List.getElem?_replicate] at a2
      split at a2 <;> exact absurd a2.symm a3
  rw [a4]
  have := mm_as_args (aa := aa) hz as 0 w j hj a3
  rw [Nat.zero_add] at this
  exact this
