/-! ===== questions of the reference: order, lot ===== -/
def ab_rv (P : ab_P) (D : ab_D) (w : Nat) (l : List Nat) : Int32 := if w = 0 then ab_ti (ab_fin P (gD_row D l)) else ab_all (ab_kn P) (ab_ga (ab_fin P (gD_row D l)))
def ab_rr (P : ab_P) (D : ab_D) (o : Nat) : List Nat := lh_l (ab_row D).length (np_0 (ab_kn P) (ab_row D)) o
def ab_r1 (P : ab_P) (D : ab_D) (w : Nat) (s : Option Nat × Int32) (o : Nat) : Option Nat × Int32 := if s.1 = none ∨ s.2 < ab_rv P D w (ab_rr P D o) then (some o, ab_rv P D w (ab_rr P D o)) else s
def ab_ro (P : ab_P) (D : ab_D) (w n : Nat) : Option Nat × Int32 := (List.range n).foldl (ab_r1 P D w) (none, nI 0)
def mn_14 (G : gb_G) (x k : Int32) : Int32 := if ¬ (x = nI 0 ∨ x = nI 1) ∨ k < -1 ∨ nI (ab_row (gD G)).length ≤ k then -100001 else if 5 < (ab_row (gD G)).length then -9 else if k = -1 then (ab_ro (gP G) (gD G) (if x = nI 0 then 0 else 1) (lh_f (ab_row (gD G)).length)).2 else match (ab_ro (gP G) (gD G) (if x = nI 0 then 0 else 1) (lh_f (ab_row (gD G)).length)).1 with
  | none => -1
  | some o => nI ((ab_rr (gP G) (gD G) o).getD k.toNatClampNeg 0)
def lw_g : Nat → Int64 → Int64 → Int64
  | 0, a, _ => a
  | n + 1, a, b => if b = 0 then a else lw_g n b (a - a / b * b)
def lw_l (a b : Int64) (x : Int32) : Int64 := if a = 0 then x.toInt64 else if x = nI 0 then a / lw_g (b.toInt.natAbs + 1) a b else b / lw_g (b.toInt.natAbs + 1) a b
def ab_rs (P : ab_P) (D : ab_D) (s : Int64) (o : Nat) : Int64 := s + (ab_ti (ab_fin P (gD_row D (ab_rr P D o)))).toInt64
def mn_16 (G : gb_G) (x : Int32) : Int64 := if ¬ (x = nI 0 ∨ x = nI 1) ∨ 5 < (ab_row (gD G)).length then -9223372036854775808 else lw_l ((List.range (lh_f (ab_row (gD G)).length)).foldl (ab_rs (gP G) (gD G)) 0) (nI (lh_f (ab_row (gD G)).length)).toInt64 x
section QM5
variable {S T U : mm_S} {G : gb_G} {P : ab_P} {D E : ab_D} {b c d n k i j p m o : Nat} {x w y : Int32} {r l L : List Nat}
theorem sR (ok : gb_ok G) (hR : RM S G) (h5 : (ab_row (gD G)).length ≤ 5) (ho : o < lh_f (ab_row (gD G)).length) : ∃ U, mm_cl (d + 1) 178 [.ref 92, .int (nI o)] (mm_kp S) = some (none, U) ∧ QK S U ∧ md_A U (gP G) (gD_row (gD G) (ab_rr (gP G) (gD G) o)) := by
  obtain ⟨U, g1, g2, g3, g4⟩ := s178 (d := d) (kp_A ok hR) h5 ho
  refine ⟨U, g1, ⟨g2, fun c j hc => g3 c j ?_ ?_⟩, g4⟩ <;> (unfold gm_e md_dc at hc; omega)
theorem m179_it (ok : gb_ok G) (hR : RM S G) (h5 : (ab_row (gD G)).length ≤ 5) (ho : o < lh_f (ab_row (gD G)).length) (hx : x = nI 0 ∨ x = nI 1) {s : Option Nat × Int32} (hs : ∀ b, s.1 = some b → b < 2 ^ 20) {k : Int32} {v6 : Value} : ∃ W v, mm_ex (d + 10) 179 45 [.ref 92, .int x, .int k, .int (gm_ho s.1), .int s.2, .int (nI o), v6] [] S = mm_ex (d + 10) 179 45 [.ref 92, .int x, .int k, .int (gm_ho (ab_r1 (gP G) (gD G) (if x = nI 0 then 0 else 1) s o).1), .int (ab_r1 (gP G) (gD G) (if x = nI 0 then 0 else 1) s o).2, .int (nI (o + 1)), v] [] W ∧ QM S W G := by
  have hw := hR.1
  have wk : mm_W (mm_kp S) := hw
  have h8 : mm_M S 92 8 = nI (ab_row (gD G)).length := hR.2.1.2.1.1
  have fl := lf_le h5
  obtain ⟨U, g1, g2, g3⟩ := sR (d := d + 8) ok hR h5 ho
  have wU := g3.1
  obtain ⟨T, g4, g5, g6, -⟩ := s173 (d := d) g3
  have wT := g6.1
  have qT := QK_md g2 g5
  have wl : mm_W (mm_ly T) := wT
  have t7 := g6.2.2.1.2.2.2.2.2.2.1
  have k177 := s177 (d := d + 9) (S := S) h5
  have st : mm_ex (d + 10) 179 45 [.ref 92, .int x, .int k, .int (gm_ho s.1), .int s.2, .int (nI o), v6] [] S = mm_ex (d + 10) 179 92 [.ref 92, .int x, .int k, .int (gm_ho s.1), .int s.2, .int (nI o), .int (ab_rv (gP G) (gD G) (if x = nI 0 then 0 else 1) (ab_rr (gP G) (gD G) o))] [] (mm_ly T) := by
    unfold ab_rv
    rw [b179_45 (wx_o92 hw), h8, k177, hp_bd, hp_tsc, b179_54, if_neg (nI_ge ho (by omega)), b179_57 (wx_k92 hw), s171 hw, hp_bd, hp_tn, b179_61 (wx_k92 wk), g1, hp_bd, hp_tn, b179_67 (wx_k92 wU), g4, hp_bd, hp_tn, b179_71]
    by_cases x0 : x = nI 0
    · rw [if_pos x0, if_pos x0, if_pos rfl, b179_75 (wx_o92 wT) (wx_k92 wT), s172 wT, hp_bd, hp_tn, t7]
    · rw [if_neg x0, if_neg x0, if_neg (by decide), b179_82 (wx_k92 wT), s174 g6, hp_bd, hp_ts, b179_86 (wx_k92 wT), s172 wT, hp_bd, hp_tn]
  refine ⟨mm_ly T, .int (ab_rv (gP G) (gD G) (if x = nI 0 then 0 else 1) (ab_rr (gP G) (gD G) o)), ?_, QM_ly ok hR qT⟩
  rw [st, b179_92]
  unfold ab_r1
  obtain ⟨s1, s2⟩ := s
  cases s1 with
  | none =>
    have e : gm_ho none = -1 := rfl
    rw [if_pos (show gm_ho (none, s2).1 = -1 from rfl), b179_104, nI_add, if_pos (Or.inl rfl)]
    rfl
  | some q =>
    have hq := hs q rfl
    have nq : ¬ gm_ho (some q, s2).1 = -1 := nI_m1 (n := q) (by omega)
    rw [if_neg nq, b179_97]
    by_cases h1 : s2 < ab_rv (gP G) (gD G) (if x = nI 0 then 0 else 1) (ab_rr (gP G) (gD G) o)
    · rw [if_neg (Int32.not_le.mpr h1), b179_104, nI_add, if_pos (Or.inr h1)]
      rfl
    · have nn : ¬ ((some q, s2).1 = none ∨ (some q, s2).2 < ab_rv (gP G) (gD G) (if x = nI 0 then 0 else 1) (ab_rr (gP G) (gD G) o)) := fun e => Or.elim e (fun z => by cases z) h1
      rw [if_pos (Int32.not_lt.mp h1), b179_111, nI_add, if_neg nn]
theorem ro_s {w : Nat} : ab_ro P D w (n + 1) = ab_r1 P D w (ab_ro P D w n) n := by
  unfold ab_ro
  rw [List.range_succ, List.foldl_append]
  rfl
theorem ro_lt {w : Nat} : ∀ n b, (ab_ro P D w n).1 = some b → b < n := by
  intro n
  induction n with
  | zero => intro b h; cases h
  | succ n ih =>
    intro b h
    rw [ro_s] at h
    unfold ab_r1 at h
    split at h
    · cases h; omega
    · have := ih b h; omega
theorem ro_so {w : Nat} : ∀ n, 0 < n → (ab_ro P D w n).1 ≠ none := by
  intro n
  cases n with
  | zero => intro h; exact absurd h (Nat.lt_irrefl _)
  | succ n =>
    intro _ h
    rw [ro_s] at h
    unfold ab_r1 at h
    by_cases q : (ab_ro P D w n).1 = none ∨ (ab_ro P D w n).2 < ab_rv P D w (ab_rr P D n)
    · rw [if_pos q] at h; cases h
    · rw [if_neg q] at h; exact q (Or.inl h)
theorem m179_loop (ok : gb_ok G) (h5 : (ab_row (gD G)).length ≤ 5) (hx : x = nI 0 ∨ x = nI 1) {k : Int32} : ∀ (q o : Nat) (S : mm_S) (v6 : Value), RM S G → o + q = lh_f (ab_row (gD G)).length → ∃ W v, mm_ex (d + 10) 179 45 [.ref 92, .int x, .int k, .int (gm_ho (ab_ro (gP G) (gD G) (if x = nI 0 then 0 else 1) o).1), .int (ab_ro (gP G) (gD G) (if x = nI 0 then 0 else 1) o).2, .int (nI o), v6] [] S = mm_ex (d + 10) 179 117 [.ref 92, .int x, .int k, .int (gm_ho (ab_ro (gP G) (gD G) (if x = nI 0 then 0 else 1) (lh_f (ab_row (gD G)).length)).1), .int (ab_ro (gP G) (gD G) (if x = nI 0 then 0 else 1) (lh_f (ab_row (gD G)).length)).2, .int (nI (lh_f (ab_row (gD G)).length)), v] [] W ∧ QM S W G := by
  have fl := lf_le h5
  intro q
  induction q with
  | zero =>
    intro o S v6 hR ho
    have hw := hR.1
    have h8 : mm_M S 92 8 = nI (ab_row (gD G)).length := hR.2.1.2.1.1
    have k177 := s177 (d := d + 9) (S := S) h5
    have e : o = lh_f (ab_row (gD G)).length := by omega
    subst e
    refine ⟨S, v6, ?_, QM_rf hR⟩
    rw [b179_45 (wx_o92 hw), h8, k177, hp_bd, hp_tsc, b179_54, if_pos (nI_le (Nat.le_refl _) (by omega))]
  | succ q ih =>
    intro o S v6 hR ho
    obtain ⟨W, v, g1, g2⟩ := m179_it (d := d) (k := k) (v6 := v6) ok hR h5 (o := o) (by omega) hx (s := ab_ro (gP G) (gD G) (if x = nI 0 then 0 else 1) o) (fun b hb => by have := ro_lt _ _ hb; omega)
    rw [← ro_s] at g1
    obtain ⟨W2, v2, g3, g4⟩ := ih (o + 1) W v g2.1 (by omega)
    exact ⟨W2, v2, g1.trans g3, QM_tr g2 g4⟩
theorem i_lt1 {n : Nat} {k : Int32} (hn : n < 2 ^ 30) : (nI n - nI 1 < k) = (nI n ≤ k) := by
  rw [Int32.lt_iff_toInt_lt, Int32.le_iff_toInt_le, nI_toInt (by omega), pk_sub_toInt (by omega) (by omega)]
  exact propext (by omega)
theorem m_14 (ok : gb_ok G) (hR : RM S G) {k : Int32} : oM S (d + 10) 179 [.ref 92, .int x, .int k] (.int (mn_14 G x k)) G := by
  have hw := hR.1
  have hl6 : (ab_row (gD G)).length ≤ 6 := row_le ok.1.1 ok.1.2.1
  have h8 : mm_M S 92 8 = nI (ab_row (gD G)).length := hR.2.1.2.1.1
  unfold mn_14
  rcases k128 (S := S) (x := x) (d + 9) with ⟨hx, kx⟩ | ⟨hx, kx⟩
  · have k2 : mm_cl (d + 9) 128 [.int k, .int (-1), .int (nI (ab_row (gD G)).length - nI 1)] S = some (some (.int (if k < -1 ∨ nI (ab_row (gD G)).length ≤ k then nI 0 else nI 1)), S) := by
      rw [s128]
      simp only [i_lt1 (show (ab_row (gD G)).length < 2 ^ 30 by omega)]
    have st : mm_cl (d + 10) 179 [.ref 92, .int x, .int k] S = mm_ex (d + 10) 179 20 [.ref 92, .int x, .int k, .null, .null, .null, .null] [.int (if k < -1 ∨ nI (ab_row (gD G)).length ≤ k then nI 0 else nI 1)] S := by
      rw [e179, b179_0, kx, hp_bd, hp_ts, b179_6, if_neg i01, b179_9 (wx_o92 hw), h8, k2, hp_bd, hp_ts]
    by_cases hk : k < -1 ∨ nI (ab_row (gD G)).length ≤ k
    · rw [if_pos (show _ ∨ _ ∨ _ from Or.inr hk)]
      refine oM_id hR ?_
      rw [st, if_pos hk, b179_20, if_pos rfl, b179_23]
    have nn : ¬ (¬ (x = nI 0 ∨ x = nI 1) ∨ k < -1 ∨ nI (ab_row (gD G)).length ≤ k) := fun e => Or.elim e (fun z => z hx) hk
    rw [if_neg nn]
    rw [if_neg hk, b179_20, if_neg i01, b179_26 (wx_o92 hw), h8] at st
    by_cases h5 : 5 < (ab_row (gD G)).length
    · rw [if_pos h5]
      refine oM_id hR ?_
      rw [st, if_neg (nI_ge h5 (by omega)), b179_34]
    rw [if_neg h5]
    have h5 : (ab_row (gD G)).length ≤ 5 := by omega
    have fl := lf_le h5
    rw [if_pos (nI_le h5 (by omega)), b179_37] at st
    obtain ⟨W, v, g1, g2⟩ := m179_loop (d := d) (k := k) ok h5 hx (lh_f (ab_row (gD G)).length) 0 S .null hR (Nat.zero_add _)
    have hwW := g2.1.1
    have st2 := st.trans g1
    by_cases k1 : k = -1
    · rw [if_pos k1]
      refine oM_Q g2 ?_
      rw [st2, b179_117, if_pos k1, b179_122]
    · rw [if_neg k1]
      cases hb : (ab_ro (gP G) (gD G) (if x = nI 0 then 0 else 1) (lh_f (ab_row (gD G)).length)).1 with
      | none => exact absurd hb (ro_so _ (lf_pos _))
      | some q =>
        have hq := ro_lt _ _ hb
        rw [hb] at st2
        have k0 : ¬ k < nI 0 := by
          intro h
          rw [Int32.lt_iff_toInt_lt, nI_toInt (by decide)] at h
          have n1 : ¬ k < -1 := fun e => hk (Or.inl e)
          rw [Int32.lt_iff_toInt_lt, show (-1 : Int32).toInt = -1 from rfl] at n1
          exact k1 (Int32.toInt_inj.mp (by rw [show (-1 : Int32).toInt = -1 from rfl]; omega))
        obtain ⟨z, hz, rfl⟩ := nI_of (x := k) k0
        have hzl : z < (ab_row (gD G)).length := by
          have n2 : ¬ nI (ab_row (gD G)).length ≤ nI z := fun e => hk (Or.inr e)
          rw [nI_leI (by omega) hz] at n2
          omega
        have cz : (nI z).toNatClampNeg = z := nI_clamp hz
        obtain ⟨U, g3, g4, g5⟩ := sR (d := d + 8) ok g2.1 h5 hq
        have wU := g5.1
        have wkW : mm_W (mm_kp W) := hwW
        have ll : (ab_rr (gP G) (gD G) q).length = (ab_row (gD G)).length := lh_len (n0_len ok.1.2.1.1 ok.1.2.1.2.1) hq
        have h100 : mm_M U 100 z = nI ((ab_rr (gP G) (gD G) q).getD z 0) := g5.2.2.1.2.1 z (by show z < (ab_rr (gP G) (gD G) q).length; omega)
        refine oM_Q (QM_tr g2 (QM_ly ok g2.1 g4)) ?_
        rw [st2, b179_117, if_neg k1, b179_125 (wx_k92 hwW), s171 hwW, hp_bd, hp_tn, b179_129 (wx_k92 wkW), show gm_ho (some q) = nI q from rfl, g3, hp_bd, hp_tn, b179_134 (wx_o92 wU) (wx_s92_9 wU) (by rw [wx_g92_9 wU, wx_N100 wU]; exact hp_inb (by omega) hz) (by rw [wx_g92_9 wU]; exact wx_a100 wU) (wx_k92 wU), s172 wU, hp_bd, hp_tn, b179_146, wx_g92_9 wU, cz, h100]
  · rw [if_pos (Or.inl hx)]
    refine oM_id hR ?_
    rw [e179, b179_0, kx, hp_bd, hp_ts, b179_6, if_pos rfl, b179_23]
/-! lowest terms -/
theorem rem_lt {a b : Int64} (hb : b ≠ 0) : (a - a / b * b).toInt.natAbs < b.toInt.natAbs := by
  have h0 : b.toInt ≠ 0 := fun e => hb (Int64.toInt_inj.mp (by rw [e]; rfl))
  have e : (a - a / b * b).toInt = (a.toInt.tmod b.toInt).bmod (2 ^ 64) := by
    rw [Int64.toInt_sub, Int64.toInt_mul, Int64.toInt_div, Int.tmod_def, Int.mul_comm b.toInt]
    simp
  have r1 := b.le_toInt
  have r2 := b.toInt_lt
  have t : (a.toInt.tmod b.toInt).natAbs < b.toInt.natAbs := by
    rw [Int.natAbs_tmod]
    exact Nat.mod_lt _ (by omega)
  rw [e, Int.bmod_eq_of_le (by omega) (by omega)]
  exact t
theorem lg_0 {b : Int64} : lg_cmp b 0 = nI 0 ↔ b = 0 := lg_cmp_eq b 0
theorem s181_loop {j0 j2 : Int64} : ∀ (n : Nat) (a b : Int64) (v : Value), b.toInt.natAbs < n → (a ≠ 0 ∨ b ≠ 0) → ∃ z v', mm_ex d 181 16 [.long j0, .null, .long j2, .null, .int x, .long a, .null, .long b, .null, v, .null] [] S = mm_ex d 181 41 [.long j0, .null, .long j2, .null, .int x, .long (lw_g n a b), .null, .long z, .null, v', .null] [] S ∧ lw_g n a b ≠ 0 := by
  intro n
  induction n with
  | zero => intro a b v h; exact absurd h (Nat.not_lt_zero _)
  | succ n ih =>
    intro a b v h hab
    by_cases hb : b = 0
    · refine ⟨b, v, ?_, ?_⟩
      · rw [b181_16, if_pos (lg_0.mpr hb)]
        unfold lw_g
        rw [if_pos hb]
      · unfold lw_g
        rw [if_pos hb]
        exact hab.resolve_right (fun q => q hb)
    · have hl := rem_lt (a := a) hb
      obtain ⟨z, v', g1, g2⟩ := ih b (a - a / b * b) (.long (a - a / b * b)) (by omega) (Or.inl hb)
      refine ⟨z, v', ?_, ?_⟩
      · rw [b181_16, if_neg (fun q => hb (lg_0.mp q)), b181_23 hb, g1]
        show _ = mm_ex d 181 41 [.long j0, .null, .long j2, .null, .int x, .long (if b = 0 then a else lw_g n b (a - a / b * b)), .null, .long z, .null, v', .null] [] S
        rw [if_neg hb]
      · show (if b = 0 then a else lw_g n b (a - a / b * b)) ≠ 0
        rw [if_neg hb]
        exact g2
theorem s181 {a b : Int64} : mm_cl d 181 [.long a, .long b, .int x] S = some (some (.long (lw_l a b x)), S) := by
  unfold lw_l
  by_cases ha : a = 0
  · rw [if_pos ha, e181, b181_0, if_pos (lg_0.mpr ha), b181_6]
  · obtain ⟨z, v, g1, g2⟩ := s181_loop (d := d) (S := S) (x := x) (j0 := a) (j2 := b) (b.toInt.natAbs + 1) a b .null (Nat.lt_succ_self _) (Or.inl ha)
    rw [if_neg ha, e181, b181_0, if_neg (fun q => ha (lg_0.mp q)), b181_10, g1, b181_41]
    by_cases x0 : x = nI 0
    · rw [if_pos x0, if_pos x0, b181_46 g2]
    · rw [if_neg x0, if_neg x0, b181_50 g2]
theorem m182_loop (ok : gb_ok G) (h5 : (ab_row (gD G)).length ≤ 5) : ∀ (q o : Nat) (S : mm_S), RM S G → o + q = lh_f (ab_row (gD G)).length → ∃ W, mm_ex (d + 10) 182 26 [.ref 92, .int x, .long ((List.range o).foldl (ab_rs (gP G) (gD G)) 0), .null, .int (nI o)] [] S = mm_ex (d + 10) 182 70 [.ref 92, .int x, .long ((List.range (lh_f (ab_row (gD G)).length)).foldl (ab_rs (gP G) (gD G)) 0), .null, .int (nI (lh_f (ab_row (gD G)).length))] [] W ∧ QM S W G := by
  have fl := lf_le h5
  intro q
  induction q with
  | zero =>
    intro o S hR ho
    have hw := hR.1
    have h8 : mm_M S 92 8 = nI (ab_row (gD G)).length := hR.2.1.2.1.1
    have k177 := s177 (d := d + 9) (S := S) h5
    have e : o = lh_f (ab_row (gD G)).length := by omega
    subst e
    refine ⟨S, ?_, QM_rf hR⟩
    rw [b182_26 (wx_o92 hw), h8, k177, hp_bd, hp_tsc, b182_35, if_pos (nI_le (Nat.le_refl _) (by omega))]
  | succ q ih =>
    intro o S hR ho
    have hw := hR.1
    have wk : mm_W (mm_kp S) := hw
    have h8 : mm_M S 92 8 = nI (ab_row (gD G)).length := hR.2.1.2.1.1
    have k177 := s177 (d := d + 9) (S := S) h5
    obtain ⟨U, g1, g2, g3⟩ := sR (d := d + 8) ok hR h5 (o := o) (by omega)
    have wU := g3.1
    obtain ⟨T, g4, g5, g6, -⟩ := s173 (d := d) g3
    have wT := g6.1
    have qT := QK_md g2 g5
    have wl : mm_W (mm_ly T) := wT
    have t7 := g6.2.2.1.2.2.2.2.2.2.1
    have QW := QM_ly ok hR qT
    obtain ⟨W, g7, g8⟩ := ih (o + 1) (mm_ly T) QW.1 (by omega)
    refine ⟨W, ?_, QM_tr QW g8⟩
    rw [List.range_succ, List.foldl_append] at g7
    rw [b182_26 (wx_o92 hw), h8, k177, hp_bd, hp_tsc, b182_35, if_neg (nI_ge (by omega) (by omega)), b182_38 (wx_k92 hw), s171 hw, hp_bd, hp_tn, b182_42 (wx_k92 wk), g1, hp_bd, hp_tn, b182_48 (wx_k92 wU), g4, hp_bd, hp_tn, b182_52 (wx_o92 wT) (wx_k92 wT), s172 wT, hp_bd, hp_tn, t7, b182_64, nI_add]
    exact g7
theorem m_16 (ok : gb_ok G) (hR : RM S G) : oM S (d + 10) 182 [.ref 92, .int x] (.long (mn_16 G x)) G := by
  have hw := hR.1
  have hl6 : (ab_row (gD G)).length ≤ 6 := row_le ok.1.1 ok.1.2.1
  have h8 : mm_M S 92 8 = nI (ab_row (gD G)).length := hR.2.1.2.1.1
  unfold mn_16
  rcases k128 (S := S) (x := x) (d + 9) with ⟨hx, kx⟩ | ⟨hx, kx⟩
  · have st : mm_cl (d + 10) 182 [.ref 92, .int x] S = if nI (ab_row (gD G)).length ≤ nI 5 then mm_ex (d + 10) 182 21 [.ref 92, .int x, .null, .null, .null] [] S else mm_ex (d + 10) 182 17 [.ref 92, .int x, .null, .null, .null] [] S := by
      rw [e182, b182_0, kx, hp_bd, hp_ts, b182_6, if_neg i01, b182_9 (wx_o92 hw), h8]
    by_cases h5 : 5 < (ab_row (gD G)).length
    · rw [if_pos (Or.inr h5)]
      refine oM_id hR ?_
      rw [st, if_neg (nI_ge h5 (by omega)), b182_17]
    have nn : ¬ (¬ (x = nI 0 ∨ x = nI 1) ∨ 5 < (ab_row (gD G)).length) := fun e => Or.elim e (fun z => z hx) h5
    have h5 : (ab_row (gD G)).length ≤ 5 := by omega
    obtain ⟨W, g1, g2⟩ := m182_loop (d := d) (x := x) ok h5 (lh_f (ab_row (gD G)).length) 0 S hR (Nat.zero_add _)
    have wW := g2.1.1
    have h8W : mm_M W 92 8 = nI (ab_row (gD G)).length := g2.1.2.1.2.1.1
    have k177 := s177 (d := d + 9) (S := W) h5
    rw [if_neg nn]
    refine oM_Q g2 ?_
    rw [st, if_pos (nI_le h5 (by omega)), b182_21]
    refine Eq.trans g1 ?_
    rw [b182_70 (wx_o92 wW), h8W, k177, hp_bd, hp_tsc, b182_78, s181, hp_bd, hp_ts, b182_83]
  · rw [if_pos (Or.inl hx)]
    refine oM_id hR ?_
    rw [e182, b182_0, kx, hp_bd, hp_ts, b182_6, if_pos rfl, b182_17]
end QM5
