/-! ===== how the reference reads: an E is as the document's rules read it ===== -/
section MP5
variable {S T U V : mm_S} {t : List Nat} {d i j k n c q s a e m : Nat} {x y : Int32} {W W0 A B Q : List Nat} {C N : List ab_T} {v : Value} {o : Option (List ab_T)} {z w : List ab_T} {r : mm_Res}
theorem re_none (h : reS S d e W N j none z r) {e2 : Nat} {W2 : List Nat} {N2 w : List ab_T} : reS S d e2 W2 N2 j none w r := h
theorem re_eq {c c2 : List ab_T} (h : reS S d e W N j (some c) z r) (q : N ++ c ++ z = C ++ c2 ++ w) : reS S d e W C j (some c2) w r := by
  obtain ⟨U, v, Q, C2, h1, h2, h3, h4⟩ := h
  exact ⟨U, v, Q, C2, h1, h2, h3.trans q, h4⟩
theorem re_r {r2 : mm_Res} (h : reS S d e W N j o z r) (q : r2 = r) : reS S d e W N j o z r2 := by rw [q]; exact h
theorem rep_1 {α : Type} {x : α} : List.replicate (n + 1) x = List.replicate n x ++ [x] := List.replicate_succ'
theorem m149_test (hT : rt S t) (h1 : ps t i ≠ 33) (h2 : ps t i ≠ 40) (hE : enT S t T (W ++ List.replicate n 3) C i a) (hW : stL 0 W) : reS S d 0 W C (pte t i).1 ((pte t i).2.map (fun x => [x])) (List.replicate n (Sum.inr 3)) (gn1 d v T) := by
  obtain ⟨g1, g2, g3, g4, g5, g6⟩ := hE
  have hS := hT.1
  have hT1 := rq_t g1 hT
  have hw := hT1.1
  have h100 := hT.2.2.2.1
  have n40 : ¬ sg t i = nI 40 := by rw [@sg_eq S t i 40 hT (by decide) (by decide)]; exact h2
  have n33 : ¬ sg t i = nI 33 := by rw [@sg_eq S t i 33 hT (by decide) (by decide)]; exact h1
  obtain ⟨U, f1, f2, f3⟩ := s145 (d := d) g1 hT (by omega) (by omega)
  have st : gn1 d v T = mm_ex (d + 4) 149 57 [.ref 92, .int (nI 1), .int (sg t i)] [.int (if (pte t i).2 = none then nI 0 else nI 1)] U := by
    unfold gn1
    rw [w12 hT1 g1.2.2.1 (by omega) (Or.inr rfl), if_neg (by decide), b149_21, if_neg n40, b149_27, if_neg n33, b149_53 (wx_k92 hw), f1, hp_bd, hp_ts]
  rw [b149_57] at st
  cases hp : (pte t i).2 with
  | none =>
    have q := f3 hp
    rw [hp, if_pos rfl, if_pos rfl] at st
    exact ⟨U, by rw [st, b149_60], fa_rq q⟩
  | some x =>
    have q := f2 x hp
    have wU := rq_W q hS
    have hn : n ≤ (W ++ List.replicate n 3).length := by rw [List.length_append, List.length_replicate]; omega
    obtain ⟨V, f4, f5⟩ := s146 (d := d + 2) hS (W0 := W) (fun p hp => by have := hW p hp; omega) (fun y hy => g4 y (List.mem_append.mpr (Or.inl hy))) n _ _ q (by omega) (by rw [la1]; omega)
    rw [← e146] at f4
    change mm_cl (d + 3) 146 [.ref 92] _ = _ at f4
    have nx : ¬ some x = (none : Option ab_T) := by simp
    rw [hp, if_neg nx, if_neg i01] at st
    refine ⟨V, .int (sg t i), [], C ++ [x] ++ List.replicate n (Sum.inr 3), ?_, ?_, ?_, okQ_n⟩
    · rw [st, b149_62 (wx_k92 wU), f4, hp_bd, hp_tn, b149_66]
    · rw [List.reverse_nil, List.append_nil]
      exact f5
    · unfold pcs
      rw [List.map_nil, List.append_nil]
/-- what PE says is what the reference's reading does -/
theorem PE_EM (hT : rt S t) (p : PE t k a i j o) : PE t k a i j o ∧ EM S t d k a i j o := by
  have h100 := hT.2.2.2.1
  refine p (fun k a i j o => PE t k a i j o ∧ EM S t d k a i j o) ⟨?_, ?_, ?_, ?_, ?_, ?_, ?_, ?_, ?_, ?_⟩
  · intro a i h1 h2
    exact ⟨PE_c.1 a i h1 h2, EM_m0 (fun W n T C v hE hW => m149_test hT h1 h2 hE hW)⟩
  · intro a i h1 h2
    refine ⟨PE_c.2.1 a i h1 h2, EM_m0 (fun W n T C v hE hW => ?_)⟩
    exact (m149_open (d := d) (v := v) hE hT h1).1 (by have := hE.2.2.2.2.2; omega)
  · intro a i j o h1 h2 h3
    refine ⟨PE_c.2.2.1 a i j o h1 h2 h3.1, EM_m0 (fun W n T C v hE hW => ?_)⟩
    obtain ⟨U, v2, g1, g2⟩ := (m149_open (d := d) (v := v) hE hT (Or.inl h1)).2 h2
    rw [if_neg (by omega), List.append_assoc, ← rep_1] at g2
    have g3 := h3.2.1 rfl W (n + 1) U C v2 g2 hW
    refine re_r ?_ g1
    cases o with
    | none => exact re_none g3
    | some c =>
      refine re_eq g3 ?_
      rw [List.append_assoc, List.append_assoc, List.append_assoc]
      rfl
  · intro a i j h1 h2 h3
    refine ⟨PE_c.2.2.2.1 a i j h1 h2 h3.1, EM_m0 (fun W n T C v hE hW => ?_)⟩
    obtain ⟨U, v2, g1, g2⟩ := (m149_open (d := d) (v := v) hE hT (Or.inr h1)).2 h2
    rw [if_pos h1] at g2
    have g3 := (h3.2.2.1 2 rfl (Or.inr rfl) _ U C v2 g2 (stL_1 (by decide))).1
    exact re_r (re_none g3) g1
  · intro a i j c h1 h2 h3
    refine ⟨PE_c.2.2.2.2.1 a i j c h1 h2 h3.1, EM_m0 (fun W n T C v hE hW => ?_)⟩
    have hle := PE_le h3.1
    have hi : i < t.length := ps_in (by omega)
    obtain ⟨U, v2, g1, g2⟩ := (m149_open (d := d) (v := v) hE hT (Or.inr h1)).2 h2
    rw [if_pos h1] at g2
    obtain ⟨g3, g4⟩ := h3.2.2.1 2 rfl (Or.inr rfl) _ U C v2 g2 (stL_1 (by decide))
    obtain ⟨n38, n124⟩ := g4 (by simp)
    have n124 := n124 rfl
    obtain ⟨V, v3, Q, C2, f1, f2, f3, f4⟩ := g3
    rw [List.append_nil] at f3
    have hc := hle.2.2 c rfl
    have E2 := en_re g2 f2 (Nat.le_refl 2) f4 f3 hc (hle.2.1 (by omega))
    have hx4 : ∀ x ∈ W, x < 4 := fun x hx => hE.2.2.2.1 x (List.mem_append.mpr (Or.inl hx))
    have hjl := E2.2.1
    have hb := E2.2.2.1
    by_cases z : ps t j = 41
    · rw [if_pos z, if_pos z]
      obtain ⟨V2, v4, k1, k2⟩ := m149_close (d := d) (v := v3) f2 hT z f4 hW hx4 (by omega) (by omega)
      refine ⟨V2, v4, [], C2 ++ pcs Q ++ List.replicate n (Sum.inr 3), ?_, ?_, ?_, okQ_n⟩
      · rw [g1, f1]
        exact k1
      · rw [List.reverse_nil, List.append_nil]
        exact k2
      · unfold pcs at f3 ⊢
        rw [List.map_nil, List.append_nil, f3]
    · rw [if_neg z, if_neg z]
      obtain ⟨V2, k1, k2⟩ := m149_end (d := d) (v := v3) f2 hT n38 n124 (Or.inl z) (fun p hp => by
        rw [la1] at hp
        have e1 : p = (W ++ List.replicate n 3).length := by omega
        rw [e1, ga_r]
        decide) f4 (by omega) (by omega)
      refine ⟨V2, ?_, fa_rq k2⟩
      rw [g1, f1]
      refine k1.trans ?_
      rw [la1, if_neg (by omega)]
  · intro s a i j hs h2
    refine ⟨PE_c.2.2.2.2.2.1 s a i j hs h2.1, EM_m1 hs (fun W T C v hE hW => ⟨?_, fun z => absurd rfl z⟩)⟩
    exact re_none (EM_in h2.2 hs hE (stL_m hW hs)).1
  · intro s a i j k c o hs h2 h3
    refine ⟨PE_c.2.2.2.2.2.2.1 s a i j k c o hs h2.1 h3.1, EM_m1 hs (fun W T C v hE hW => ?_)⟩
    have hle := PE_le h2.1
    obtain ⟨g3, g4⟩ := EM_in (v := v) h2.2 hs hE (stL_m hW hs)
    obtain ⟨V, v3, Q, C2, f1, f2, f3, f4⟩ := g3
    rw [List.append_nil] at f3
    have E2 := en_re hE f2 (by omega) f4 f3 (hle.2.2 c rfl) (hle.2.1 hE.2.1)
    obtain ⟨k1, k2⟩ := h3.2.2.2 (s + 1) rfl (by omega) (fun z => g4 (by simp) (by omega)) W Q V C2 v3 E2 hW (okQ_m f4 hs)
    rw [f3] at k1
    refine ⟨re_r ?_ f1, fun z => k2 (fun y => z (by rw [y]; rfl))⟩
    cases o with
    | none => exact re_none k1
    | some r =>
      refine re_eq k1 ?_
      rw [List.append_assoc C c r]
  · intro s a j hs h2
    refine ⟨PE_c.2.2.2.2.2.2.2.1 s a j hs h2, EM_m3 hs (fun n38 W Q T C v hE hW hQ => ⟨⟨T, v, Q, C, rfl, hE.1, by rw [List.append_nil, List.append_nil], hQ⟩, fun _ => ?_⟩)⟩
    rcases (by omega : s = 0 ∨ s = 1) with rfl | rfl
    · exact ⟨h2, fun z => by cases z⟩
    · exact ⟨n38 rfl, fun _ => h2⟩
  · intro s a j k hs h2 h3
    refine ⟨PE_c.2.2.2.2.2.2.2.2.1 s a j k hs h2 h3.1, EM_m3 hs (fun n38 W Q T C v hE hW hQ => ⟨?_, fun z => absurd rfl z⟩)⟩
    have hj : j < t.length := ps_in (by rw [h2]; unfold pch; split <;> decide)
    have hQ2 : ∀ q ∈ Q, 2 - s ≤ q ∧ q < 3 := fun q hq => by have := hQ q hq; omega
    have hb := hE.2.2.1
    obtain ⟨U, v2, g1, g2⟩ := m149_op (d := d) (v := v) hE.1 hT hs h2 (fun p hp => by have := hW p hp; omega) hQ2 (by omega) (by omega)
    have hE1 : enT S t U (W ++ [2 - s]) (C ++ pcs Q) (j + 1) a := by
      have hx := hE.2.2.2.1
      rw [List.length_append, List.length_reverse] at hb
      refine ⟨g2, by omega, ?_, fun x h => ?_, ?_, hE.2.2.2.2.2⟩
      · unfold pcs
        rw [List.length_append, List.length_map, la1]
        omega
      · rcases List.mem_append.mp h with h | h
        · exact hx x (List.mem_append.mpr (Or.inl h))
        · have := List.mem_singleton.mp h
          omega
      · rw [opn_1, if_neg (by omega), ← hE.2.2.2.2.1, opn_Q (e := s + 1) (by omega) Q hQ]
        rfl
    exact re_r (re_none (EM_in (v := v2) h3.2 hs hE1 (stL_1 (by omega))).1) g1
  · intro s a j k m c o hs h2 h3 h4
    refine ⟨PE_c.2.2.2.2.2.2.2.2.2 s a j k m c o hs h2 h3.1 h4.1, EM_m3 hs (fun n38 W Q T C v hE hW hQ => ?_)⟩
    have hle := PE_le h3.1
    have hj : j < t.length := ps_in (by rw [h2]; unfold pch; split <;> decide)
    have hQ2 : ∀ q ∈ Q, 2 - s ≤ q ∧ q < 3 := fun q hq => by have := hQ q hq; omega
    have hb := hE.2.2.1
    obtain ⟨U, v2, g1, g2⟩ := m149_op (d := d) (v := v) hE.1 hT hs h2 (fun p hp => by have := hW p hp; omega) hQ2 (by omega) (by omega)
    have hE1 : enT S t U (W ++ [2 - s]) (C ++ pcs Q) (j + 1) a := by
      have hx := hE.2.2.2.1
      rw [List.length_append, List.length_reverse] at hb
      refine ⟨g2, by omega, ?_, fun x h => ?_, ?_, hE.2.2.2.2.2⟩
      · unfold pcs
        rw [List.length_append, List.length_map, la1]
        omega
      · rcases List.mem_append.mp h with h | h
        · exact hx x (List.mem_append.mpr (Or.inl h))
        · have := List.mem_singleton.mp h
          omega
      · rw [opn_1, if_neg (by omega), ← hE.2.2.2.2.1, opn_Q (e := s + 1) (by omega) Q hQ]
        rfl
    obtain ⟨g3, g4⟩ := EM_in (v := v2) h3.2 hs hE1 (stL_1 (by omega))
    obtain ⟨V, v3, R, C2, f1, f2, f3, f4⟩ := g3
    rw [List.append_nil] at f3
    have E2 := en_re hE1 f2 (by omega) f4 f3 (hle.2.2 c rfl) (hle.2.1 (by omega))
    have eW : W ++ [2 - s] ++ R.reverse = W ++ (R ++ [2 - s]).reverse := by rw [List.reverse_append, List.append_assoc]; rfl
    rw [eW] at E2
    have hR : okQ (s + 1) (R ++ [2 - s]) := fun q hq => by
      rcases List.mem_append.mp hq with h | h
      · have := f4 q h
        omega
      · have := List.mem_singleton.mp h
        omega
    obtain ⟨k1, k2⟩ := h4.2.2.2 (s + 1) rfl (by omega) (fun z => g4 (by simp) (by omega)) W (R ++ [2 - s]) V C2 v3 E2 hW hR
    have ep : C2 ++ pcs (R ++ [2 - s]) = C ++ pcs Q ++ c ++ [Sum.inr (2 - s)] := by
      rw [← f3]
      unfold pcs
      rw [List.map_append, ← List.append_assoc]
      rfl
    rw [ep] at k1
    refine ⟨re_r ?_ (g1.trans f1), fun z => k2 (fun y => z (by rw [y]; rfl))⟩
    cases o with
    | none => exact re_none k1
    | some r =>
      refine re_eq k1 ?_
      simp only [List.append_assoc, List.append_nil, List.singleton_append, List.cons_append, List.nil_append]
end MP5
