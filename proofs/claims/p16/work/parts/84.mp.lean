/-! ===== how the reference reads: an E ===== -/
def stL (e : Nat) (W : List Nat) : Prop := ∀ p, p + 1 = W.length → W.getD p 0 < 3 - e
def okQ (e : Nat) (Q : List Nat) : Prop := ∀ q ∈ Q, 3 - e ≤ q ∧ q < 3
def enT (S : mm_S) (t : List Nat) (T : mm_S) (W : List Nat) (C : List ab_T) (i a : Nat) : Prop := rq S T W C i ∧ i ≤ t.length ∧ C.length + W.length ≤ i ∧ (∀ x ∈ W, x < 4) ∧ opn W = a ∧ a ≤ 4
def faT (S U : mm_S) (j : Nat) : Prop := U = mm_wM S (mm_M U) ∧ (∀ c j, ¬ gp_x c j → mm_M U c j = mm_M S c j) ∧ mm_M U 92 36 = nI j
def reS (S : mm_S) (d e : Nat) (W : List Nat) (N : List ab_T) (j : Nat) (o : Option (List ab_T)) (x : List ab_T) (r : mm_Res) : Prop := match o with
  | none => ∃ U, r = some (some (.int (nI 0)), U) ∧ faT S U j
  | some c => ∃ U v Q C2, r = mm_ex (d + 4) 149 12 [.ref 92, .int (nI 0), v] [] U ∧ rq S U (W ++ Q.reverse) C2 j ∧ C2 ++ pcs Q = N ++ c ++ x ∧ okQ e Q
noncomputable def gn1 (d : Nat) (v : Value) (T : mm_S) : mm_Res := mm_ex (d + 4) 149 12 [.ref 92, .int (nI 1), v] [] T
noncomputable def gn0 (d : Nat) (v : Value) (T : mm_S) : mm_Res := mm_ex (d + 4) 149 12 [.ref 92, .int (nI 0), v] [] T
def EM (S : mm_S) (t : List Nat) (d k a i j : Nat) (o : Option (List ab_T)) : Prop :=
  (k = 0 → ∀ W n T C v, enT S t T (W ++ List.replicate n 3) C i a → stL 0 W → reS S d 0 W C j o (List.replicate n (Sum.inr 3)) (gn1 d v T)) ∧
  (∀ e, k = e → e = 1 ∨ e = 2 → ∀ W T C v, enT S t T W C i a → stL e W → reS S d e W C j o [] (gn1 d v T) ∧ (o ≠ none → ps t j ≠ 38 ∧ (e = 2 → ps t j ≠ 124))) ∧
  ∀ e, k = e + 2 → e = 1 ∨ e = 2 → (e = 2 → ps t i ≠ 38) → ∀ W Q T C v, enT S t T (W ++ Q.reverse) C i a → stL e W → okQ e Q → reS S d e W (C ++ pcs Q) j o [] (gn0 d v T) ∧ (o ≠ none → ps t j ≠ 38 ∧ (e = 2 → ps t j ≠ 124))
section MP4
variable {S T U V : mm_S} {t : List Nat} {d i j k n c q s a e : Nat} {x y : Int32} {W W0 A B Q : List Nat} {C N : List ab_T} {v : Value} {o : Option (List ab_T)} {z w : List ab_T} {r : mm_Res}
theorem EM_m0 (h : ∀ W n T C v, enT S t T (W ++ List.replicate n 3) C i a → stL 0 W → reS S d 0 W C j o (List.replicate n (Sum.inr 3)) (gn1 d v T)) : EM S t d 0 a i j o := ⟨fun _ => h, fun e he h2 => absurd he (by omega), fun e he h2 => absurd he (by omega)⟩
theorem EM_m1 (hs : s < 2) (h : ∀ W T C v, enT S t T W C i a → stL (s + 1) W → reS S d (s + 1) W C j o [] (gn1 d v T) ∧ (o ≠ none → ps t j ≠ 38 ∧ (s + 1 = 2 → ps t j ≠ 124))) : EM S t d (s + 1) a i j o := by
  refine ⟨fun z => absurd z (by omega), fun e he h2 => ?_, fun e he h2 => absurd he (by omega)⟩
  subst he
  exact h
theorem EM_m3 (hs : s < 2) (h : (s + 1 = 2 → ps t i ≠ 38) → ∀ W Q T C v, enT S t T (W ++ Q.reverse) C i a → stL (s + 1) W → okQ (s + 1) Q → reS S d (s + 1) W (C ++ pcs Q) j o [] (gn0 d v T) ∧ (o ≠ none → ps t j ≠ 38 ∧ (s + 1 = 2 → ps t j ≠ 124))) : EM S t d (s + 3) a i j o := by
  refine ⟨fun z => absurd z (by omega), fun e he h2 => absurd he (by omega), fun e he h2 => ?_⟩
  have e1 : e = s + 1 := by omega
  subst e1
  exact h
theorem okQ_n : okQ e [] := fun q hq => by cases hq
theorem okQ_m (h : okQ s Q) (hs : s < 2) : okQ (s + 1) Q := fun q hq => by have := h q hq; omega
theorem opn_Q (he : e ≤ 2) : ∀ (Q : List Nat), okQ e Q → opn (W ++ Q.reverse) = opn W := by
  intro Q
  induction Q with
  | nil => intro _; rw [List.reverse_nil, List.append_nil]
  | cons q Q ih =>
    intro h
    have hq := h q List.mem_cons_self
    rw [List.reverse_cons, ← List.append_assoc, opn_1, ih (fun z hz => h z (List.mem_cons_of_mem q hz)), if_neg (by omega)]
    rfl
theorem fa_rq (h : rq S T W C i) : faT S T i := ⟨h.1, h.2.1, h.2.2.1⟩
/-- what stood before an E's part is as that part found it -/
theorem en_re (hE : enT S t T W C i a) (hU : rq S U (W ++ Q.reverse) N j) (he : e ≤ 2) (hQ : okQ e Q) {c : List ab_T} (hc : N ++ pcs Q = C ++ c) (hl : c.length + i ≤ j) (hj : j ≤ t.length) : enT S t U (W ++ Q.reverse) N j a := by
  obtain ⟨-, -, h3, h4, h5, h6⟩ := hE
  refine ⟨hU, hj, ?_, fun x hx => ?_, (opn_Q he Q hQ).trans h5, h6⟩
  · have e1 := congrArg List.length hc
    unfold pcs at e1
    rw [List.length_append, List.length_append, List.length_map] at e1
    rw [List.length_append, List.length_reverse]
    omega
  · rcases List.mem_append.mp hx with h | h
    · exact h4 x h
    · have := hQ x (List.mem_reverse.mp h)
      omega
theorem EM_in (h : EM S t d s a i j o) (hs : s < 2) (hE : enT S t T W C i a) (hW : stL s W) : reS S d s W C j o [] (gn1 d v T) ∧ (o ≠ none → s = 1 → ps t j ≠ 38) := by
  rcases (by omega : s = 0 ∨ s = 1) with rfl | rfl
  · have := h.1 rfl W 0 T C v (by rw [List.replicate_zero, List.append_nil]; exact hE) hW
    exact ⟨this, fun _ z => by cases z⟩
  · have := h.2.1 1 rfl (Or.inl rfl) W T C v hE hW
    exact ⟨this.1, fun z _ => (this.2 z).1⟩
theorem stL_m (h : stL (s + 1) W) (hs : s < 2) : stL s W := fun p hp => by have := h p hp; omega
theorem stL_1 (h : q < 3 - e) : stL e (W ++ [q]) := fun p hp => by
  rw [la1] at hp
  have e1 : p = W.length := by omega
  rw [e1, ga_r]
  exact h
theorem w12 (hT1 : rt T t) (h : mm_M T 92 36 = nI i) (hi : i ≤ 100) {b : Nat} (hb : b = 0 ∨ b = 1) : mm_ex (d + 4) 149 12 [.ref 92, .int (nI b), v] [] T = mm_ex (d + 4) 149 (if b = 0 then 71 else 21) [.ref 92, .int (nI b), .int (sg t i)] [] T := by
  rw [b149_12 (wx_k92 hT1.1), s139 hT1 h (by omega), hp_bd, hp_ts, b149_16]
  rcases hb with rfl | rfl
  · rw [if_pos rfl, if_pos rfl]
  · rw [if_neg i01, if_neg (by decide)]
/-- ( or ! opens -/
theorem m149_open (hE : enT S t T W C i a) (hT : rt S t) (hs : ps t i = 33 ∨ ps t i = 40) : (a = 4 → ∃ U, gn1 d v T = some (some (.int (nI 0)), U) ∧ faT S U i) ∧ (a < 4 → ∃ U v2, gn1 d v T = gn1 d v2 U ∧ enT S t U (W ++ [if ps t i = 40 then 0 else 3]) C (i + 1) (a + 1)) := by
  obtain ⟨h1, h2, h3, h4, h5, h6⟩ := hE
  have hS := hT.1
  have hT1 := rq_t h1 hT
  have hw := hT1.1
  have hi : i < t.length := ps_in (by omega)
  have h100 := hT.2.2.2.1
  have e40 := @sg_eq S t i 40 hT (by decide) (by decide)
  have e33 := @sg_eq S t i 33 hT (by decide) (by decide)
  have k148 := s148 (d := d + 3) (q := if ps t i = 40 then 0 else 3) h1 hS (by omega) (by omega) (by split <;> decide)
  have st : gn1 d v T = mm_bd (mm_cl (d + 3) 148 [.ref 92, .int (nI (if ps t i = 40 then 0 else 3))] T) (fun u S2 => mm_ex (d + 4) 149 48 [.ref 92, .int (nI 1), .int (sg t i)] (u.toList ++ []) S2) := by
    unfold gn1
    rw [w12 hT1 h1.2.2.1 (by omega) (Or.inr rfl), if_neg (by decide), b149_21]
    by_cases z : ps t i = 40
    · rw [if_pos (by rw [e40]; exact z), b149_33, if_pos (by rw [e40]; exact z), b149_40 (wx_k92 hw), if_pos z]
    · rw [if_neg (by rw [e40]; exact z), b149_27, if_pos (by rw [e33]; omega), b149_33, if_neg (by rw [e40]; exact z), b149_44 (wx_k92 hw), if_neg z]
  refine ⟨fun z => ⟨T, ?_, fa_rq h1⟩, fun z => ?_⟩
  · rw [st, k148.1 (by omega), hp_bd, hp_ts, b149_48, if_pos rfl, b149_51]
  · obtain ⟨U, g1, g2⟩ := k148.2 (by omega)
    refine ⟨U, .int (sg t i), ?_, g2, by omega, by rw [la1]; omega, fun x hx => ?_, ?_, by omega⟩
    · rw [st, g1, hp_bd, hp_ts, b149_48, if_neg i01, b149_216]
      rfl
    · rcases List.mem_append.mp hx with h | h
      · exact h4 x h
      · have := List.mem_singleton.mp h
        rw [this]
        split <;> decide
    · rw [opn_1, if_pos (by split <;> decide), h5]
/-- ) closes -/
theorem m149_close (h : rq S T (W ++ List.replicate n 3 ++ [0] ++ Q.reverse) C j) (hT : rt S t) (hj : ps t j = 41) (hQ : okQ 2 Q) (hW : stL 0 W) (h4 : ∀ x ∈ W, x < 4) (hj2 : j ≤ 100) (hl : (W ++ List.replicate n 3 ++ [0] ++ Q.reverse).length + C.length ≤ 100) : ∃ U v2, gn0 d v T = gn0 d v2 U ∧ rq S U W (C ++ pcs Q ++ List.replicate n (Sum.inr 3)) (j + 1) := by
  have hS := hT.1
  have hT1 := rq_t h hT
  have hw := hT1.1
  have hl2 : (W ++ List.replicate n 3).length + 1 + Q.length + C.length ≤ 100 := by rw [List.length_append, List.length_reverse, la1] at hl; exact hl
  have o1 : opn (W ++ List.replicate n 3 ++ [0] ++ Q.reverse) = opn (W ++ List.replicate n 3) + 1 := by rw [opn_Q (e := 2) (Nat.le_refl _) Q hQ, opn_1]; rfl
  have hol := @opn_le (W ++ List.replicate n 3)
  obtain ⟨U, g1, g2⟩ := s147 (d := d + 2) hS (m := 1) (Or.inl rfl) (W0 := W ++ List.replicate n 3 ++ [0]) (fun p hp => by
    rw [la1] at hp
    have e1 : p = (W ++ List.replicate n 3).length := by omega
    rw [e1, ga_r]
    decide) Q T C hQ h (by omega) (by omega)
  have wU := rq_W g2 hS
  have g1 : mm_cl (d + 3) 147 [.ref 92, .int (nI 1)] T = some (none, U) := by rw [e147]; exact g1
  obtain ⟨u1, u2, u3, u4, u5, u6, u7, u8⟩ := g2
  rw [la1] at u6 u8
  have o2 : opn (W ++ List.replicate n 3 ++ [0]) = opn (W ++ List.replicate n 3) + 1 := by rw [opn_1]; rfl
  rw [o2] at u7
  have w1 : mm_W (mm_uM U 92 39 (nI (W ++ List.replicate n 3).length)) := wU
  have w2 : mm_W (mm_uM (mm_uM U 92 39 (nI (W ++ List.replicate n 3).length)) 92 40 (nI (opn (W ++ List.replicate n 3)))) := wU
  have r2 : rq S (mm_uM (mm_uM (mm_uM U 92 39 (nI (W ++ List.replicate n 3).length)) 92 40 (nI (opn (W ++ List.replicate n 3)))) 92 36 (nI (j + 1))) (W ++ List.replicate n 3) (C ++ pcs Q) (j + 1) := ⟨wM_u (wM_u (wM_u u1)), fun c j hc => (rdn (fun z => hc (by unfold gp_x; omega))).trans ((rdn (fun z => hc (by unfold gp_x; omega))).trans ((rdn (fun z => hc (by unfold gp_x; omega))).trans (u2 c j hc))), rds, (rdn (by omega)).trans ((rdn (by omega)).trans ((rdn (by omega)).trans u4)), fun n hn => (rdn (by omega)).trans ((rdn (by omega)).trans ((rdn (by omega)).trans (u5 n hn))), (rdn (by omega)).trans ((rdn (by omega)).trans rds), (rdn (by omega)).trans rds, fun p hp => (rdn (by omega)).trans ((rdn (by omega)).trans ((rdn (by omega)).trans ((u8 p (by omega)).trans (by rw [ga_l hp]))))⟩
  have hpl : (pcs Q).length = Q.length := by unfold pcs; rw [List.length_map]
  have hn : n ≤ (W ++ List.replicate n 3).length := by rw [List.length_append, List.length_replicate]; omega
  obtain ⟨V, g3, g4⟩ := s146 (d := d + 2) hS (W0 := W) (fun p hp => by have := hW p hp; omega) h4 n _ _ r2 (by omega) (by rw [List.length_append, hpl]; omega)
  rw [← e146] at g3
  change mm_cl (d + 3) 146 [.ref 92] _ = _ at g3
  have n38 : ¬ sg t j = nI 38 := by rw [@sg_eq S t j 38 hT (by decide) (by decide)]; omega
  have n124 : ¬ sg t j = nI 124 := by rw [@sg_eq S t j 124 hT (by decide) (by decide)]; omega
  have p41 : sg t j = nI 41 := by rw [@sg_eq S t j 41 hT (by decide) (by decide)]; exact hj
  have m40 : mm_M (mm_uM U 92 39 (nI (W ++ List.replicate n 3).length)) 92 40 = nI (opn (W ++ List.replicate n 3) + 1) := (rdn (by omega)).trans u7
  have m36 : mm_M (mm_uM (mm_uM U 92 39 (nI (W ++ List.replicate n 3).length)) 92 40 (nI (opn (W ++ List.replicate n 3)))) 92 36 = nI j := (rdn (by omega)).trans ((rdn (by omega)).trans u3)
  refine ⟨V, .int (sg t j), ?_, g4⟩
  unfold gn0
  rw [w12 hT1 h.2.2.1 (by omega) (Or.inl rfl), if_pos rfl, b149_71, if_neg n38, b149_77, if_neg n124, b149_143, if_pos p41, b149_149 (wx_o92 hw), h.2.2.2.2.2.2.1, o1, if_neg (nI_ge (by omega) (by omega)), b149_156 (wx_k92 hw), g1, hp_bd, hp_tn, b149_161 (wx_o92 wU), u6, pk_sub (by omega), Nat.add_sub_cancel, b149_173 (wx_o92 w1) (wx_o92 w1), m40, pk_sub (by omega), Nat.add_sub_cancel, b149_183 (wx_o92 w2) (wx_o92 w2) (wx_k92 w2), m36, nI_add, g3, hp_bd, hp_tn, b149_195]
end MP4
