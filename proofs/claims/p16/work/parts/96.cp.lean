/-! ===== how the class reads: the whole text ===== -/
def rL (S : mm_S) (s j : Nat) (o : Option (List ab_C)) (r : mm_Res) : Prop := match o with
  | none => ∃ U, r = some (some (.int (nI j)), U) ∧ feK S s U j
  | some l => ∃ U C, r = some (some (.int (-1)), U) ∧ ck S s U l C j ∧ C.length ≤ 100
section CP6
variable {S T U V : mm_S} {t : List Nat} {d i j k n q s m a e w N K : Nat} {x y : Int32} {C D : List ab_T} {r : mm_Res} {l L : List ab_C} {c : ab_C} {p : Option ab_C} {o : Option (List ab_C)}
theorem L37 (hT : ct S s t) : ∀ (m : Nat) (l : List ab_C) (C : List ab_T) (i : Nat) (T : mm_S), ck S s T l C i → m + 1 + l.length = 10 → C.length ≤ i → i ≤ t.length → ∃ j o, PL t (m + 1) l i j o ∧ rL S s j o (mm_ex (d + 22) 37 19 [.ref 73, .ref s, .int (nI (l.length + 1))] [] T) := by
  have hs := hT.2.1
  have h100 := hT.2.2.2.2.2.1
  intro m
  induction m with
  | zero =>
    intro l C i T h hm hC hi
    have T0 := k_t h.1 hT
    obtain ⟨k, p, p1, p2⟩ := s41 (d := d) hT h (by omega) hC hi
    have hk := PC_le p1 hi
    have st : mm_ex (d + 22) 37 19 [.ref 73, .ref s, .int (nI (l.length + 1))] [] T = mm_bd (mm_cl (d + 21) 41 [.ref 73] T) (fun u S2 => mm_ex (d + 22) 37 29 [.ref 73, .ref s, .int (nI (l.length + 1))] (u.toList ++ []) S2) := by
      rw [b37_19, if_neg (nI_nlt (by omega) (by omega)), b37_25 (wx_k73 T0.1)]
    cases p with
    | none =>
      obtain ⟨U, q1, q2⟩ := p2
      have TU := k_t q2 hT
      refine ⟨k, none, Or.inl ⟨p1, rfl⟩, U, ?_, q2⟩
      rw [st, q1, hp_bd, hp_ts, b37_29, if_pos rfl, b37_32 (wx_o73 TU.1), q2.2.2]
    | some c =>
      obtain ⟨U, C2, q1, q2, q3⟩ := p2
      have TU := k_t q2.1 hT
      have st2 : mm_ex (d + 22) 37 19 [.ref 73, .ref s, .int (nI (l.length + 1))] [] T = if nI k < nI t.length then mm_ex (d + 22) 37 50 [.ref 73, .ref s, .int (nI (l.length + 1))] [] U else mm_ex (d + 22) 37 48 [.ref 73, .ref s, .int (nI (l.length + 1))] [] U := by
        rw [st, q1, hp_bd, hp_ts, b37_29, if_neg i01, b37_37 (wx_o73 TU.1), q2.1.2.2, TU.2.2.2.1]
      by_cases kl : k < t.length
      · refine ⟨k, none, Or.inr ⟨k, c, p1, Or.inr (Or.inl ⟨kl, Or.inl rfl, rfl, rfl⟩)⟩, U, ?_, q2.1⟩
        rw [st2, if_pos (nI_lt kl (by omega)), b37_50, if_pos (by rw [show l.length + 1 = 10 by omega]), b37_65 (wx_o73 TU.1), q2.1.2.2]
      · refine ⟨k, some (l ++ [c]), Or.inr ⟨k, c, p1, Or.inl ⟨by omega, rfl, rfl⟩⟩, U, C2, ?_, q2, by omega⟩
        rw [st2, if_neg (nI_nlt (by omega) (by omega)), b37_48]
  | succ m ih =>
    intro l C i T h hm hC hi
    have T0 := k_t h.1 hT
    obtain ⟨k, p, p1, p2⟩ := s41 (d := d) hT h (by omega) hC hi
    have hk := PC_le p1 hi
    have st : mm_ex (d + 22) 37 19 [.ref 73, .ref s, .int (nI (l.length + 1))] [] T = mm_bd (mm_cl (d + 21) 41 [.ref 73] T) (fun u S2 => mm_ex (d + 22) 37 29 [.ref 73, .ref s, .int (nI (l.length + 1))] (u.toList ++ []) S2) := by
      rw [b37_19, if_neg (nI_nlt (by omega) (by omega)), b37_25 (wx_k73 T0.1)]
    cases p with
    | none =>
      obtain ⟨U, q1, q2⟩ := p2
      have TU := k_t q2 hT
      refine ⟨k, none, Or.inl ⟨p1, rfl⟩, U, ?_, q2⟩
      rw [st, q1, hp_bd, hp_ts, b37_29, if_pos rfl, b37_32 (wx_o73 TU.1), q2.2.2]
    | some c =>
      obtain ⟨U, C2, q1, q2, q3⟩ := p2
      have TU := k_t q2.1 hT
      have st2 : mm_ex (d + 22) 37 19 [.ref 73, .ref s, .int (nI (l.length + 1))] [] T = if nI k < nI t.length then mm_ex (d + 22) 37 50 [.ref 73, .ref s, .int (nI (l.length + 1))] [] U else mm_ex (d + 22) 37 48 [.ref 73, .ref s, .int (nI (l.length + 1))] [] U := by
        rw [st, q1, hp_bd, hp_ts, b37_29, if_neg i01, b37_37 (wx_o73 TU.1), q2.1.2.2, TU.2.2.2.1]
      by_cases kl : k < t.length
      · have n10 : ¬ nI (l.length + 1) = nI 10 := fun z => by
          have := (nI_eq (by omega) (by omega)).mp z
          omega
        obtain ⟨V, f1, f2⟩ := s39 (d := d + 17) (q := 0) (by decide) TU q2.1.2.2 (by omega)
        change mm_cl (d + 21) 39 [.ref 73, .ref 1000000] _ = _ at f1
        have epw : pw t (stg 0) k = if ps t k = 59 then (k + 1, true) else (k, false) := rfl
        rw [epw] at f1 f2
        have kV := ck_36 hs q2 f2
        have TV := k_t kV.1 hT
        rw [if_pos (nI_lt kl (by omega)), b37_50, if_neg n10, b37_56 (wx_k73 TU.1), f1, hp_bd, hp_ts, b37_62] at st2
        by_cases h59 : ps t k = 59
        · rw [if_pos h59] at kV st2
          rw [if_pos rfl, if_neg i01, b37_70, nI_add] at st2
          have lc := @la1 _ l c
          obtain ⟨j, o, r1, r2⟩ := ih (l ++ [c]) C2 (k + 1) V kV (by omega) (by omega) (by omega)
          rw [lc] at r2
          refine ⟨j, o, Or.inr ⟨k, c, p1, Or.inr (Or.inr ⟨kl, by omega, h59, r1⟩)⟩, ?_⟩
          rw [st2]
          exact r2
        · rw [if_neg h59] at kV st2
          refine ⟨k, none, Or.inr ⟨k, c, p1, Or.inr (Or.inl ⟨kl, Or.inr h59, rfl, rfl⟩)⟩, V, ?_, kV.1⟩
          rw [st2, if_neg (show ¬ (k, false).2 = true from fun z => by cases z), if_pos rfl, b37_65 (wx_o73 TV.1), kV.1.2.2]
      · refine ⟨k, some (l ++ [c]), Or.inr ⟨k, c, p1, Or.inl ⟨by omega, rfl, rfl⟩⟩, U, C2, ?_, q2, by omega⟩
        rw [st2, if_neg (nI_nlt (by omega) (by omega)), b37_48]
/-- into a shop that is cleared -/
theorem s37 (hT : ct S s t) : ∃ j o, PL t 10 [] 0 j o ∧ rL S s j o (mm_ex (d + 22) 37 6 [.ref 73, .ref s, .null] [.ref 73] S) := by
  have hw := hT.1
  have hs := hT.2.1
  have n73 := sh_n73 hs
  have R := hT.2.2.2.2.2.2.2
  have e0 : ∀ {X : mm_S} {n k : Nat} {x : Int32}, n = s → (X = mm_wM S (mm_M X) ∧ ∀ c j, ¬ gKs s c j → mm_M X c j = mm_M S c j) → (mm_uM X n k x = mm_wM S (mm_M (mm_uM X n k x)) ∧ ∀ c j, ¬ gKs s c j → mm_M (mm_uM X n k x) c j = mm_M S c j) := by
    intro X n k x hn h
    exact ⟨wM_u h.1, fun c j hc => (rdn (fun z => hc (by unfold gKs; omega))).trans (h.2 c j hc)⟩
  have b0 : S = mm_wM S (mm_M S) ∧ ∀ c j, ¬ gKs s c j → mm_M S c j = mm_M S c j := ⟨rfl, fun _ _ _ => rfl⟩
  have b6 := e0 (n := s) (k := 3) (x := nI 0) rfl (e0 (n := s) (k := 2) (x := nI 1) rfl (e0 (n := s) (k := 1) (x := nI 1) rfl (e0 (n := s) (k := 0) (x := nI 1) rfl (e0 (n := s) (k := 9) (x := nI 0) rfl (e0 (n := s) (k := 8) (x := nI 0) rfl b0)))))
  have st : mm_ex (d + 22) 37 6 [.ref 73, .ref s, .null] [.ref 73] S = mm_ex (d + 22) 37 19 [.ref 73, .ref s, .int (nI 1)] [] (mm_uM (mm_uM (mm_uM (mm_uM (mm_uM (mm_uM (mm_uM S s 8 (nI 0)) s 9 (nI 0)) s 0 (nI 1)) s 1 (nI 1)) s 2 (nI 1)) s 3 (nI 0)) 73 2 (nI 0)) := by
    have w6 : mm_W (mm_uM (mm_uM (mm_uM (mm_uM (mm_uM (mm_uM S s 8 (nI 0)) s 9 (nI 0)) s 0 (nI 1)) s 1 (nI 1)) s 2 (nI 1)) s 3 (nI 0)) := hw
    rw [b37_6 (wx_o73 hw) (hp_rs R) (by rw [hp_rg R]; exact ws_k hw hs), hp_rg R, e48, b48_0 (ws_o hw hs), hp_bd, hp_tn, b37_12 (wx_o73 w6)]
  rw [st]
  refine L37 (d := d) hT 9 [] [] 0 _ ⟨⟨wM_u b6.1, fun c j hc => (rdn (fun z => hc (Or.inl z))).trans (b6.2 c j hc), rds⟩, ⟨?_, ?_, ?_, ?_⟩, ?_, ?_, fun n hn => absurd hn (Nat.not_lt_zero _), ⟨rfl, rfl⟩⟩ rfl (Nat.le_refl _) (Nat.zero_le _)
  · exact (rdn (by omega)).trans ((rdn (by omega)).trans ((rdn (by omega)).trans ((rdn (by omega)).trans rds)))
  · exact (rdn (by omega)).trans ((rdn (by omega)).trans ((rdn (by omega)).trans rds))
  · exact (rdn (by omega)).trans ((rdn (by omega)).trans rds)
  · exact (rdn (by omega)).trans rds
  · exact (rdn (by omega)).trans ((rdn (by omega)).trans ((rdn (by omega)).trans ((rdn (by omega)).trans ((rdn (by omega)).trans ((rdn (by omega)).trans rds)))))
  · exact (rdn (by omega)).trans ((rdn (by omega)).trans ((rdn (by omega)).trans ((rdn (by omega)).trans ((rdn (by omega)).trans rds))))
end CP6
