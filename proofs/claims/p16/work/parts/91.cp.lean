/-! ===== how the class reads: signs, numbers, words ===== -/
def ct (S : mm_S) (s : Nat) (t : List Nat) : Prop := mm_W S ∧ mm_sh s ∧ mm_n S < 1000000 ∧ mm_M S 73 0 = nI t.length ∧ (∀ i, i < t.length → mm_M S 74 i = nI (t.getD i 0)) ∧ t.length ≤ 100 ∧ (∀ x ∈ t, x < 128) ∧ mm_R S 73 3 = some s
def q73 (T U : mm_S) (i : Nat) : Prop := U = mm_wM T (mm_M U) ∧ (∀ c j, ¬ (c = 73 ∧ j = 2) → mm_M U c j = mm_M T c j) ∧ mm_M U 73 2 = nI i
section CP
variable {S T U V : mm_S} {t : List Nat} {d i j k n c q s m : Nat} {x y : Int32}
theorem sh_n73 (h : mm_sh s) : ¬ (s ≤ 73 ∧ 73 ≤ s + 4) ∧ ¬ (s ≤ 74 ∧ 74 ≤ s + 4) := by unfold mm_sh at h; omega
theorem q_tr (h : q73 T U i) (h2 : q73 U V j) : q73 T V j := by
  refine ⟨?_, fun c j hc => (h2.2.1 c j hc).trans (h.2.1 c j hc), h2.2.2⟩
  have e := h2.1
  rw [h.1] at e
  exact e
theorem q_rf (h : mm_M T 73 2 = nI i) : q73 T T i := ⟨rfl, fun _ _ _ => rfl, h⟩
theorem q_w : q73 T (mm_uM T 73 2 (nI i)) i := ⟨hp_uMw, fun c j hc => rdn hc, rds⟩
theorem ct_w (h : q73 T U i) (hT : ct T s t) : ct U s t := by
  obtain ⟨h1, h2, h3, h4, h5, h6, h7, h8⟩ := hT
  have g : ∀ c j, ¬ (c = 73 ∧ j = 2) → mm_M U c j = mm_M T c j := h.2.1
  exact ⟨by rw [h.1]; exact h1, h2, by rw [h.1]; exact h3, (g _ _ (by omega)).trans h4, fun i hi => (g _ _ (by omega)).trans (h5 i hi), h6, h7, by rw [h.1]; exact h8⟩
theorem cs_lt (hT : ct S s t) : ps t i < 128 := by
  unfold ps
  by_cases h : i < t.length
  · rw [List.getD_eq_getElem?_getD, List.getElem?_eq_getElem h]
    exact hT.2.2.2.2.2.2.1 _ (List.getElem_mem h)
  · rw [List.getD_eq_getElem?_getD, List.getElem?_eq_none (by omega)]
    exact Nat.zero_lt_succ _
theorem s38 (hT : ct T s t) (h : mm_M T 73 2 = nI i) (hi : i < 2 ^ 20) : mm_cl d 38 [.ref 73] T = some (some (.int (nI (ps t i))), T) := by
  obtain ⟨hw, -, -, h0, h74, h100, -, -⟩ := hT
  rw [e38, b38_0 (wx_o73 hw), h0, h]
  by_cases q : i < t.length
  · rw [if_neg (nI_ge q (by omega)), b38_11 (wx_o73 hw) (wx_s73_1 hw) (by rw [h, wx_g73_1 hw, wx_N74 hw]; exact hp_inb (by omega) (by omega)) (by rw [wx_g73_1 hw]; exact wx_a74 hw), h, wx_g73_1 hw, nI_clamp (by omega), h74 i q]
    rfl
  · have e : ps t i = 0 := by
      unfold ps
      rw [List.getD_eq_getElem?_getD, List.getElem?_eq_none (by omega)]
      rfl
    rw [if_pos (nI_le (by omega) (by omega)), b38_23, e]
theorem l46 (hT : ct T s t) (h : mm_M T 73 2 = nI k) (hk : k < 2 ^ 10) (hi : i < 2 ^ 10) (hn : n < 100) : mm_ex d 46 7 [.ref 73, .int (nI i), .int (nI n)] [] T = if k < i + 2 ∧ pdg (ps t k) = true then mm_ex d 46 7 [.ref 73, .int (nI i), .int (nI (10 * n + (ps t k - 48)))] [] (mm_uM T 73 2 (nI (k + 1))) else mm_ex d 46 87 [.ref 73, .int (nI i), .int (nI n)] [] T := by
  have hl := cs_lt (i := k) hT
  obtain ⟨hw, -, -, h0, h74, h100, -, -⟩ := hT
  rw [b46_7 (wx_o73 hw), h0, h]
  by_cases q : k < t.length
  · have et : mm_M T 74 k = nI (ps t k) := h74 k q
    have ck : (nI k).toNatClampNeg = k := nI_clamp (by omega)
    have bk : mm_inb (nI k) 100 = true := hp_inb (by omega) (by omega)
    rw [if_neg (nI_ge q (by omega)), b46_18 (wx_o73 hw), nI_add, h]
    by_cases q2 : k < i + 2
    · rw [if_neg (nI_ge q2 (by omega)), b46_28 (wx_o73 hw) (wx_s73_1 hw) (by rw [h, wx_g73_1 hw, wx_N74 hw]; exact bk) (by rw [wx_g73_1 hw]; exact wx_a74 hw), h, wx_g73_1 hw, ck, et]
      by_cases q3 : ps t k < 48
      · have np : ¬ (k < i + 2 ∧ pdg (ps t k) = true) := fun z => by have := (pdg_in z.2).2; omega
        rw [if_pos (nI_lt q3 (by omega)), if_neg np]
      · rw [if_neg (nI_nlt (by omega) (by omega)), b46_42 (wx_o73 hw) (wx_s73_1 hw) (by rw [h, wx_g73_1 hw, wx_N74 hw]; exact bk) (by rw [wx_g73_1 hw]; exact wx_a74 hw), h, wx_g73_1 hw, ck, et]
        by_cases q4 : 57 < ps t k
        · have np : ¬ (k < i + 2 ∧ pdg (ps t k) = true) := fun z => by have := (pdg_in z.2).2; omega
          rw [if_pos (nI_lt q4 (by omega)), if_neg np]
        · have hp : k < i + 2 ∧ pdg (ps t k) = true := ⟨q2, by unfold pdg; rw [decide_eq_true (by omega), decide_eq_true (by omega)]; rfl⟩
          rw [if_neg (nI_nlt (by omega) (by omega)), if_pos hp, b46_56 (wx_o73 hw) (wx_s73_1 hw) (by rw [h, wx_g73_1 hw, wx_N74 hw]; exact bk) (by rw [wx_g73_1 hw]; exact wx_a74 hw), h, wx_g73_1 hw, ck, et, nI_mul, nI_add, nI_add, pk_sub (by omega), show 10 * n + ps t k - 48 = 10 * n + (ps t k - 48) by omega]
    · have np : ¬ (k < i + 2 ∧ pdg (ps t k) = true) := fun z => q2 z.1
      rw [if_pos (nI_le (by omega) (by omega)), if_neg np]
  · have np : ¬ (k < i + 2 ∧ pdg (ps t k) = true) := fun z => q (pdg_in z.2).1
    rw [if_pos (nI_le (by omega) (by omega)), if_neg np]
theorem s46 (hT : ct T s t) (h : mm_M T 73 2 = nI i) (hi : i < 2 ^ 9) : ∃ U, mm_cl d 46 [.ref 73] T = some (some (.int (pmo (pnu t i).2)), U) ∧ q73 T U (pnu t i).1 := by
  have hw := hT.1
  have e0 : mm_cl d 46 [.ref 73] T = mm_ex d 46 7 [.ref 73, .int (nI i), .int (nI 0)] [] T := by rw [e46, b46_0 (wx_o73 hw), h]
  have l0 := l46 (d := d) (n := 0) hT h (by omega) (i := i) (by omega) (by decide)
  unfold pnu
  by_cases p1 : pdg (ps t i) = true
  · have a := pdg_in p1
    rw [if_pos ⟨by omega, p1⟩] at l0
    have r1 : q73 T (mm_uM T 73 2 (nI (i + 1))) (i + 1) := q_w
    have T1 := ct_w r1 hT
    have l1 := l46 (d := d) (n := 10 * 0 + (ps t i - 48)) T1 r1.2.2 (by omega) (i := i) (by omega) (by omega)
    have nz : ∀ m, i < m → m < 2 ^ 20 → ¬ nI m = nI i := fun m hm hm2 e => by have := (nI_eq (by omega) (by omega)).mp e; omega
    rw [if_pos p1]
    by_cases p2 : pdg (ps t (i + 1)) = true
    · rw [if_pos ⟨by omega, p2⟩] at l1
      have b := pdg_in p2
      have r2 : q73 T (mm_uM (mm_uM T 73 2 (nI (i + 1))) 73 2 (nI (i + 1 + 1))) (i + 1 + 1) := q_tr r1 q_w
      have T2 := ct_w r2 hT
      have l2 := l46 (d := d) (n := 10 * (10 * 0 + (ps t i - 48)) + (ps t (i + 1) - 48)) T2 r2.2.2 (by omega) (i := i) (by omega) (by omega)
      rw [if_neg (by omega)] at l2
      rw [if_pos p2]
      refine ⟨_, ?_, r2⟩
      rw [e0, l0, l1, l2, b46_87 (wx_o73 T2.1), r2.2.2, if_neg (nz _ (by omega) (by omega)), b46_99]
      show some (some (Value.int (nI (10 * (10 * 0 + (ps t i - 48)) + (ps t (i + 1) - 48)))), _) = some (some (Value.int (nI (10 * (ps t i - 48) + (ps t (i + 1) - 48)))), _)
      rw [show 10 * (10 * 0 + (ps t i - 48)) = 10 * (ps t i - 48) by omega]
    · rw [if_neg (fun z => p2 z.2)] at l1
      rw [if_neg p2]
      refine ⟨_, ?_, r1⟩
      rw [e0, l0, l1, b46_87 (wx_o73 T1.1), r1.2.2, if_neg (nz _ (by omega) (by omega)), b46_99]
      show some (some (Value.int (nI (10 * 0 + (ps t i - 48)))), _) = some (some (Value.int (nI (ps t i - 48))), _)
      rw [show 10 * 0 + (ps t i - 48) = ps t i - 48 by omega]
  · rw [if_neg (fun z => p1 z.2)] at l0
    rw [if_neg p1]
    refine ⟨T, ?_, q_rf h⟩
    rw [e0, l0, b46_87 (wx_o73 hw), h, if_pos rfl, b46_95]
    rfl
/-- the signs of a string, one after another -/
theorem s39_l (hq : q < 12) : ∀ (A : List Nat) (m i : Nat) (T : mm_S), ct T s t → mm_M T 73 2 = nI i → i + A.length < 2 ^ 10 → stg q = (stg q).take m ++ A → m + A.length = (stg q).length → ∃ U, mm_ex (d + 4) 39 2 [.ref 73, .ref (sta q), .int (nI m)] [] T = some (some (.int (if (pw t A i).2 = true then nI 1 else nI 0)), U) ∧ q73 T U (pw t A i).1 := by
  have hl := (st_l q hq).1
  intro A
  induction A with
  | nil =>
    intro m i T hT h _ hA hm
    rw [List.length_nil] at hm
    refine ⟨T, ?_, q_rf h⟩
    rw [b39_2 (st_k hT.2.2.1 hq), s212 (d := d + 2) hT.2.2.1 hq, hp_bd, hp_tsc, b39_7, if_pos (nI_le (by omega) (by omega)), b39_40]
    rfl
  | cons z A ih =>
    intro m i T hT h hb hA hm
    have hw := hT.1
    rw [List.length_cons] at hm hb
    have hml : m < (stg q).length := by omega
    have hio := it_of hA hml
    have hgo : (stg q).getD m 0 = z := by rw [List.getD_eq_getElem?_getD, hio]; rfl
    have hz := (st_l q hq).2 m hml
    rw [hgo] at hz
    have s14 := s214 (d := d) (S := T) hT.2.2.1 hq hml
    rw [hgo] at s14
    have hl1 := cs_lt (i := i) hT
    have e0 : (nI (ps t i) = nI z) = (ps t i = z) := propext (nI_eq (by omega) (by omega))
    have st : mm_ex (d + 4) 39 2 [.ref 73, .ref (sta q), .int (nI m)] [] T = mm_ex (d + 4) 39 19 [.ref 73, .ref (sta q), .int (nI m)] [.int (nI z), .int (nI (ps t i))] T := by
      rw [b39_2 (st_k hT.2.2.1 hq), s212 (d := d + 2) hT.2.2.1 hq, hp_bd, hp_tsc, b39_7, if_neg (nI_ge hml (by omega)), b39_10 (wx_k73 hw), s38 hT h (by omega), hp_bd, hp_ts, b39_14 (st_k hT.2.2.1 hq), s14, hp_bd, hp_tsc]
    rw [b39_19] at st
    simp only [e0] at st
    have e : pw t (z :: A) i = if ps t i = z then pw t A (i + 1) else (i, false) := rfl
    rw [e]
    by_cases g : ps t i = z
    · rw [if_pos g, b39_24 (wx_o73 hw), h, nI_add, nI_add] at st
      rw [if_pos g]
      have r1 : q73 T (mm_uM T 73 2 (nI (i + 1))) (i + 1) := q_w
      obtain ⟨V, g3, g4⟩ := ih (m + 1) (i + 1) _ (ct_w r1 hT) r1.2.2 (by omega) (by rw [tk1 hio, List.append_assoc]; exact hA) (by omega)
      exact ⟨V, st.trans g3, q_tr r1 g4⟩
    · rw [if_neg g, b39_22] at st
      rw [if_neg g]
      exact ⟨T, st, q_rf h⟩
theorem s39 (hq : q < 12) (hT : ct T s t) (h : mm_M T 73 2 = nI i) (hi : i < 2 ^ 9) : ∃ U, mm_cl (d + 4) 39 [.ref 73, .ref (sta q)] T = some (some (.int (if (pw t (stg q) i).2 = true then nI 1 else nI 0)), U) ∧ q73 T U (pw t (stg q) i).1 := by
  have hl := (st_l q hq).1
  obtain ⟨U, g1, g2⟩ := s39_l (d := d) hq (stg q) 0 i T hT h (by omega) (by rw [List.take_zero, List.nil_append]) (Nat.zero_add _)
  refine ⟨U, ?_, g2⟩
  rw [e39, b39_0]
  exact g1
end CP
