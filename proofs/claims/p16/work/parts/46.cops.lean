/-! ===== acts, in the class ===== -/
def ab_bid (k : Nat) (i v x : Int32) : Int32 × List Nat := match k with
  | 2 => (x * nI 3 + i, [30, 10])
  | 4 => (-(x + i), [50, 10])
  | 5 => (x * nI 3 + i, [30, 10])
  | 6 => ((x + i) ^^^ v, [71, 10])
  | _ => (x + i, [10])
def ab_w0 (k : Nat) (i v x : Int32) : Int32 × List Nat := ((ab_bid k i v x).1 - v, 11 :: (ab_bid k i v x).2)
def ab_wait (k : Nat) (i v x : Int32) : Int32 × List Nat := match k with
  | 1 => ((ab_w0 1 i v x).1 ^^^ nI 6, 20 :: (ab_w0 1 i v x).2)
  | 4 => ((ab_w0 4 i v (x + nI 1)).1 ^^^ nI 6, 51 :: 20 :: (ab_w0 4 i v (x + nI 1)).2)
  | 6 => ((ab_w0 6 i v x).1 + (nI 2 + i), 70 :: (ab_w0 6 i v x).2 ++ [10])
  | k => ab_w0 k i v x
def ab_t0 (k : Nat) (i v x : Int32) : Int32 × List Nat := ((ab_wait k i v x).1 * nI 2, 12 :: (ab_wait k i v x).2)
def ab_tell (k : Nat) (i v x : Int32) : Int32 × List Nat := match k with
  | 3 => ((ab_t0 3 i v x).1 + (ab_wait 3 i v (nI 1)).1, 40 :: (ab_t0 3 i v x).2 ++ (ab_wait 3 i v (nI 1)).2)
  | 5 => ((ab_t0 5 i v (x - i)).1, 60 :: (ab_t0 5 i v (x - i)).2)
  | 6 => ((ab_t0 6 i v x).1 + (ab_wait 6 i v (nI 1)).1, 40 :: (ab_t0 6 i v x).2 ++ (ab_wait 6 i v (nI 1)).2)
  | k => ab_t0 k i v x
def cLog (S T : mm_S) (l : List Nat) : Prop := sf_f gc_rr S T ∧ mm_W T ∧ gc_r T l ∧ mm_n T = mm_n S ∧ mm_z T = mm_z S
def cAct (S : mm_S) (d y e : Nat) (x : Int32) (l : List Nat) (r : Int32 × List Nat) : Prop := ∃ T, mm_cl d y [.ref e, .int x, .ref 88] S = some (some (.int r.1), T) ∧ cLog S T (l ++ r.2)
theorem k7c {k : Nat} (h : k < 7) : k = 0 ∨ k = 1 ∨ k = 2 ∨ k = 3 ∨ k = 4 ∨ k = 5 ∨ k = 6 := by omega
section AC
variable {S T U : mm_S} {d b e k v w : Nat} {x : Int32} {l m : List Nat}
theorem lg_tr (h : cLog S T l) (h2 : cLog T U m) : cLog S U m := ⟨sf_tr h.1 h2.1, h2.2.1, h2.2.2.1, h2.2.2.2.1.trans h.2.2.2.1, h2.2.2.2.2.trans h.2.2.2.2⟩
theorem lg_by (h : cLog S T l) (hy : cd_by S e b k v w) : cd_by T e b k v w := tr_by h.1 (fun j _ (q : e = 88) => by have := hy.1; omega) hy
theorem s1n (hw : mm_W S) (hr : gc_r S l) (hl : l.length < 20) {c : Nat} : ∃ T, mm_cl d 1 [.ref 88, .int (nI c)] S = some (none, T) ∧ cLog S T (l ++ [c]) := by
  obtain ⟨h0, h1⟩ := hr
  have i0 : mm_inb (nI 0) 21 = true := by decide
  have c0 : (nI 0).toNatClampNeg = 0 := nI_clamp (by decide)
  have e0 : mm_M (mm_uM S 88 0 (nI (l.length + 1))) 88 0 = nI (l.length + 1) := rds
  have i1 : mm_inb (nI (l.length + 1)) 21 = true := hp_inb (by omega) (by omega)
  have c1 : (nI (l.length + 1)).toNatClampNeg = l.length + 1 := nI_clamp (by omega)
  have l1 : (nI 21 ≤ nI (l.length + 1)) = False := eq_false (nI_ge (by omega) (by decide))
  refine ⟨mm_uM (mm_uM S 88 0 (nI (l.length + 1))) 88 (l.length + 1) (nI c), ?_, sf_tr (sf_uM rfl) (sf_uM rfl), hw, ⟨?_, fun i hi => ?_⟩, rfl, rfl⟩
  · simp only [b1_0, b1_9, b1_15, b1_21, e1, wx_o0 hw, wx_k0 hw, wx_q0 hw, wx_g0_0 hw, wx_s0_0 hw, wx_g0_1 hw, wx_s0_1 hw, wx_g0_2 hw, wx_s0_2 hw, wx_g0_3 hw, wx_s0_3 hw, wx_g0_4 hw, wx_s0_4 hw, wx_N42 hw, wx_a42 hw, wx_K42 hw, wx_g0_5 hw, wx_s0_5 hw, wx_g0_6 hw, wx_s0_6 hw, wx_N75 hw, wx_a75 hw, wx_K75 hw, wx_g0_7 hw, wx_s0_7 hw, wx_N88 hw, wx_a88 hw, wx_g0_8 hw, wx_s0_8 hw, wx_N89 hw, wx_a89 hw, wx_g0_9 hw, wx_s0_9 hw, wx_N90 hw, wx_a90 hw, wx_g0_10 hw, wx_s0_10 hw, wx_N91 hw, wx_a91 hw, List.not_mem_nil, false_implies, implies_true, nI_clamp, nI_add, Nat.reducePow, hp_bd, hp_bdi, hp_ts, hp_tn, hp_tsc, hp_tnc, Nat.reduceAdd, Nat.reduceSub, Nat.reduceMul, Nat.reduceLT, Nat.reduceLeDiff, Nat.reduceEqDiff, reduceIte, not_true_eq_false, not_false_eq_true, and_true, true_and, and_self, and_false, false_and, or_true, true_or, or_false, false_or, decide_true, decide_false, Bool.and_true, Bool.true_and, Bool.not_false, Bool.or_false, Bool.false_or, Bool.or_true, Bool.true_or, hp_MuM, hp_LuL, hp_RuR, hp_McpM, hp_LcpL, hp_LuM, hp_RuM, hp_KuM, hp_NuM, hp_nuM, hp_zuM, hp_ouM, hp_auM, hp_kuM, hp_guM, hp_MuL, hp_RuL, hp_KuL, hp_NuL, hp_nuL, hp_zuL, hp_ouL, hp_auL, hp_kuL, hp_guL, hp_MuR, hp_LuR, hp_KuR, hp_NuR, hp_nuR, hp_zuR, hp_ouR, hp_auR, hp_kuR, hp_LcpM, hp_RcpM, hp_KcpM, hp_NcpM, hp_ncpM, hp_zcpM, hp_ocpM, hp_acpM, hp_kcpM, hp_gcpM, hp_McpL, hp_RcpL, hp_KcpL, hp_NcpL, hp_ncpL, hp_zcpL, hp_ocpL, hp_acpL, hp_kcpL, hp_gcpL, hp_MwM, hp_LwM, hp_RwM, hp_KwM, hp_NwM, hp_nwM, hp_zwM, hp_owM, hp_awM, hp_kwM, hp_gwM, hp_MwR, hp_LwR, hp_RwR, hp_KwR, hp_NwR, hp_nwR, hp_zwR, hp_owR, hp_awR, hp_kwR, hp_MwL, hp_LwL, hp_RwL, hp_KwL, hp_NwL, hp_nwL, hp_zwL, hp_owL, hp_awL, hp_kwL, hp_gwL, hp_w2M, hp_w2R, hp_w2L, i0, c0, h0, e0, i1, c1, l1]
  · rw [rdn (by omega), rds, List.length_append]; rfl
  · rw [List.length_append] at hi
    rw [rdk]
    by_cases e : i = l.length
    · rw [if_pos (by omega), e, List.getD_eq_getElem?_getD, List.getElem?_append_right (Nat.le_refl _), Nat.sub_self]; rfl
    · have hi2 : i < l.length := by
        have : [c].length = 1 := rfl
        omega
      rw [if_neg (by omega), rdn (by omega), List.getD_eq_getElem?_getD, List.getElem?_append_left hi2, ← List.getD_eq_getElem?_getD]
      exact h1 i hi2
theorem s3a (hw : mm_W S) (hr : gc_r S l) (hl : l.length < 20) (hk : k < 7) (hy : cd_by S e b k v w) : cAct S (d + 1) 3 e x l (x + nI b, [10]) := by
  obtain ⟨T, g1, g2⟩ := s1n (d := d) (c := 10) hw hr hl
  have yT := lg_by g2 hy
  refine ⟨T, ?_, g2⟩
  rw [e3, b3_0, g1, hp_bd, hp_tn, b3_6 (by_o hk yT), yT.2.2.2.2.1]
theorem ll (l : List Nat) (c : Nat) (m : List Nat) : (l ++ [c]) ++ m = l ++ (c :: m) := by rw [List.append_assoc]; rfl
theorem len1 (l : List Nat) (c : Nat) : (l ++ [c]).length = l.length + 1 := by rw [List.length_append]; rfl
def cd_bm (k : Nat) : Nat := ([3, 3, 71, 3, 57, 71, 68] : List Nat).getD k 0
def cd_wm (k : Nat) : Nat := ([4, 33, 4, 4, 58, 4, 67] : List Nat).getD k 0
def cd_tm (k : Nat) : Nat := ([5, 5, 5, 27, 5, 30, 27] : List Nat).getD k 0
theorem bid_c (hw : mm_W S) (hr : gc_r S l) (hl : l.length + 2 ≤ 20) (hk : k < 7) (hy : cd_by S e b k v w) : cAct S (d + 2) (cd_bm k) e x l (ab_bid k (nI b) (nI v) x) := by
  rcases k7c hk with rfl | rfl | rfl | rfl | rfl | rfl | rfl
  · exact s3a hw hr (by omega) hk hy
  · exact s3a hw hr (by omega) hk hy
  · obtain ⟨T, g1, g2⟩ := s1n (d := d + 1) (c := 30) hw hr (by omega)
    have yT := lg_by g2 hy
    obtain ⟨U, g3, g4⟩ := s3a (d := d) (x := x * nI 3) g2.2.1 g2.2.2.1 (by rw [len1]; omega) hk yT
    rw [ll] at g4
    refine ⟨U, ?_, lg_tr g2 g4⟩
    show mm_cl (d + 2) 71 _ S = _
    rw [e71, b71_0, g1, hp_bd, hp_tn, b71_6 (by_q hk yT), g3, hp_bd, hp_ts, b71_14]
    rfl
  · exact s3a hw hr (by omega) hk hy
  · obtain ⟨T, g1, g2⟩ := s1n (d := d + 1) (c := 50) hw hr (by omega)
    have yT := lg_by g2 hy
    obtain ⟨U, g3, g4⟩ := s3a (d := d) (x := x) g2.2.1 g2.2.2.1 (by rw [len1]; omega) hk yT
    rw [ll] at g4
    refine ⟨U, ?_, lg_tr g2 g4⟩
    show mm_cl (d + 2) 57 _ S = _
    rw [e57, b57_0, g1, hp_bd, hp_tn, b57_6 (by_q hk yT), g3, hp_bd, hp_ts, b57_12]
    rfl
  · obtain ⟨T, g1, g2⟩ := s1n (d := d + 1) (c := 30) hw hr (by omega)
    have yT := lg_by g2 hy
    obtain ⟨U, g3, g4⟩ := s3a (d := d) (x := x * nI 3) g2.2.1 g2.2.2.1 (by rw [len1]; omega) hk yT
    rw [ll] at g4
    refine ⟨U, ?_, lg_tr g2 g4⟩
    show mm_cl (d + 2) 71 _ S = _
    rw [e71, b71_0, g1, hp_bd, hp_tn, b71_6 (by_q hk yT), g3, hp_bd, hp_ts, b71_14]
    rfl
  · obtain ⟨T, g1, g2⟩ := s1n (d := d + 1) (c := 71) hw hr (by omega)
    have yT := lg_by g2 hy
    obtain ⟨U, g3, g4⟩ := s3a (d := d) (x := x) g2.2.1 g2.2.2.1 (by rw [len1]; omega) hk yT
    have yU := lg_by g4 yT
    rw [ll] at g4
    refine ⟨U, ?_, lg_tr g2 g4⟩
    show mm_cl (d + 2) 68 _ S = _
    rw [e68, b68_0, g1, hp_bd, hp_tn, b68_6 (by_q hk yT), g3, hp_bd, hp_ts, b68_12 (by_o hk yU), yU.2.2.2.2.2.1]
    rfl
theorem bid_len {i u : Int32} : (ab_bid k i u x).2.length ≤ 2 := by
  unfold ab_bid
  split <;> simp
theorem s4a (hw : mm_W S) (hr : gc_r S l) (hl : l.length + 3 ≤ 20) (hk : k < 7) (hy : cd_by S e b k v w) : cAct S (d + 3) 4 e x l (ab_w0 k (nI b) (nI v) x) := by
  obtain ⟨T, g1, g2⟩ := s1n (d := d + 2) (c := 11) hw hr (by omega)
  have yT := lg_by g2 hy
  obtain ⟨U, g3, g4⟩ := bid_c (d := d) (x := x) g2.2.1 g2.2.2.1 (by rw [len1]; omega) hk yT
  have yU := lg_by g4 yT
  have kT := by_k hk yT
  rw [ll] at g4
  refine ⟨U, ?_, lg_tr g2 g4⟩
  rw [e4, b4_0, g1, hp_bd, hp_tn]
  have fin : mm_ex (d + 3) 4 12 [.ref e, .int x, .ref 88] [.int (ab_bid k (nI b) (nI v) x).1] U = some (some (.int (ab_w0 k (nI b) (nI v) x).1), U) := by
    rw [b4_12 (by_o hk yU), yU.2.2.2.2.2.1]; rfl
  rcases k7c hk with rfl | rfl | rfl | rfl | rfl | rfl | rfl
  · rw [b4_6_k0 kT, show mm_cl (d + 2) 3 _ T = _ from g3, hp_bd, hp_ts]; exact fin
  · rw [b4_6_k4 kT, show mm_cl (d + 2) 3 _ T = _ from g3, hp_bd, hp_ts]; exact fin
  · rw [b4_6_k10 kT, show mm_cl (d + 2) 71 _ T = _ from g3, hp_bd, hp_ts]; exact fin
  · rw [b4_6_k2 kT, show mm_cl (d + 2) 3 _ T = _ from g3, hp_bd, hp_ts]; exact fin
  · rw [b4_6_k7 kT, show mm_cl (d + 2) 57 _ T = _ from g3, hp_bd, hp_ts]; exact fin
  · rw [b4_6_k3 kT, show mm_cl (d + 2) 71 _ T = _ from g3, hp_bd, hp_ts]; exact fin
  · rw [b4_6_k9 kT, show mm_cl (d + 2) 68 _ T = _ from g3, hp_bd, hp_ts]; exact fin
theorem s33a (hw : mm_W S) (hr : gc_r S l) (hl : l.length + 4 ≤ 20) (hk : k < 7) (hy : cd_by S e b k v w) : cAct S (d + 4) 33 e x l ((ab_w0 k (nI b) (nI v) x).1 ^^^ nI 6, 20 :: (ab_w0 k (nI b) (nI v) x).2) := by
  obtain ⟨T, g1, g2⟩ := s1n (d := d + 3) (c := 20) hw hr (by omega)
  have yT := lg_by g2 hy
  obtain ⟨U, g3, g4⟩ := s4a (d := d) (x := x) g2.2.1 g2.2.2.1 (by rw [len1]; omega) hk yT
  rw [ll] at g4
  refine ⟨U, ?_, lg_tr g2 g4⟩
  rw [e33, b33_0, g1, hp_bd, hp_tn, b33_6 (by_q hk yT), g3, hp_bd, hp_ts, b33_12]
theorem wait_c (hw : mm_W S) (hr : gc_r S l) (hl : l.length + 5 ≤ 20) (hk : k < 7) (hy : cd_by S e b k v w) : cAct S (d + 5) (cd_wm k) e x l (ab_wait k (nI b) (nI v) x) := by
  rcases k7c hk with rfl | rfl | rfl | rfl | rfl | rfl | rfl
  · exact s4a hw hr (by omega) hk hy
  · exact s33a hw hr (by omega) hk hy
  · exact s4a hw hr (by omega) hk hy
  · exact s4a hw hr (by omega) hk hy
  · obtain ⟨T, g1, g2⟩ := s1n (d := d + 4) (c := 51) hw hr (by omega)
    have yT := lg_by g2 hy
    obtain ⟨U, g3, g4⟩ := s33a (d := d) (x := x + nI 1) g2.2.1 g2.2.2.1 (by rw [len1]; omega) hk yT
    rw [ll] at g4
    refine ⟨U, ?_, lg_tr g2 g4⟩
    show mm_cl (d + 5) 58 _ S = _
    rw [e58, b58_0, g1, hp_bd, hp_tn, b58_6 (by_q hk yT), g3, hp_bd, hp_ts, b58_14]
    rfl
  · exact s4a hw hr (by omega) hk hy
  · obtain ⟨T, g1, g2⟩ := s1n (d := d + 4) (c := 70) hw hr (by omega)
    have yT := lg_by g2 hy
    obtain ⟨U, g3, g4⟩ := s4a (d := d + 1) (x := x) g2.2.1 g2.2.2.1 (by rw [len1]; omega) hk yT
    have yU := lg_by g4 yT
    obtain ⟨V, g5, g6⟩ := s3a (d := d + 3) (x := nI 2) g4.2.1 g4.2.2.1 (by
      have h2 : (ab_w0 6 (nI b) (nI v) x).2.length = 3 := rfl
      rw [List.length_append, len1, h2]; omega) hk yU
    rw [ll] at g4
    have g6' : cLog U V (l ++ (70 :: (ab_w0 6 (nI b) (nI v) x).2 ++ [10])) := by
      have e : l ++ [70] ++ (ab_w0 6 (nI b) (nI v) x).2 ++ [10] = l ++ (70 :: (ab_w0 6 (nI b) (nI v) x).2 ++ [10]) := by rw [ll, List.append_assoc]
      rw [← e]; exact g6
    refine ⟨V, ?_, lg_tr g2 (lg_tr g4 g6')⟩
    show mm_cl (d + 5) 67 _ S = _
    rw [e67, b67_0, g1, hp_bd, hp_tn, b67_6 (by_q hk yT), g3, hp_bd, hp_ts, b67_12 (by_q hk yU), show mm_cl (d + 4) 3 _ U = _ from g5, hp_bd, hp_tsc, b67_18]
    rfl
theorem wait_len (hk : k < 7) {i u : Int32} : (ab_wait k i u x).2.length ≤ 5 := by
  rcases k7c hk with rfl | rfl | rfl | rfl | rfl | rfl | rfl <;> simp [ab_wait, ab_w0, ab_bid]
theorem s5a (hw : mm_W S) (hr : gc_r S l) (hl : l.length + 6 ≤ 20) (hk : k < 7) (hy : cd_by S e b k v w) : cAct S (d + 6) 5 e x l (ab_t0 k (nI b) (nI v) x) := by
  obtain ⟨T, g1, g2⟩ := s1n (d := d + 5) (c := 12) hw hr (by omega)
  have yT := lg_by g2 hy
  obtain ⟨U, g3, g4⟩ := wait_c (d := d) (x := x) g2.2.1 g2.2.2.1 (by rw [len1]; omega) hk yT
  have kT := by_k hk yT
  rw [ll] at g4
  refine ⟨U, ?_, lg_tr g2 g4⟩
  rw [e5, b5_0, g1, hp_bd, hp_tn]
  have fin : mm_ex (d + 6) 5 12 [.ref e, .int x, .ref 88] [.int (ab_wait k (nI b) (nI v) x).1] U = some (some (.int (ab_t0 k (nI b) (nI v) x).1), U) := by
    rw [b5_12]; rfl
  rcases k7c hk with rfl | rfl | rfl | rfl | rfl | rfl | rfl
  · rw [b5_6_k0 kT, show mm_cl (d + 5) 4 _ T = _ from g3, hp_bd, hp_ts]; exact fin
  · rw [b5_6_k4 kT, show mm_cl (d + 5) 33 _ T = _ from g3, hp_bd, hp_ts]; exact fin
  · rw [b5_6_k10 kT, show mm_cl (d + 5) 4 _ T = _ from g3, hp_bd, hp_ts]; exact fin
  · rw [b5_6_k2 kT, show mm_cl (d + 5) 4 _ T = _ from g3, hp_bd, hp_ts]; exact fin
  · rw [b5_6_k7 kT, show mm_cl (d + 5) 58 _ T = _ from g3, hp_bd, hp_ts]; exact fin
  · rw [b5_6_k3 kT, show mm_cl (d + 5) 4 _ T = _ from g3, hp_bd, hp_ts]; exact fin
  · rw [b5_6_k9 kT, show mm_cl (d + 5) 67 _ T = _ from g3, hp_bd, hp_ts]; exact fin
theorem s27a (hw : mm_W S) (hr : gc_r S l) (hl : l.length + 12 ≤ 20) (hk : k = 3 ∨ k = 6) (hy : cd_by S e b k v w) : cAct S (d + 7) 27 e x l ((ab_t0 k (nI b) (nI v) x).1 + (ab_wait k (nI b) (nI v) (nI 1)).1, 40 :: (ab_t0 k (nI b) (nI v) x).2 ++ (ab_wait k (nI b) (nI v) (nI 1)).2) := by
  have hk7 : k < 7 := by omega
  obtain ⟨T, g1, g2⟩ := s1n (d := d + 6) (c := 40) hw hr (by omega)
  have yT := lg_by g2 hy
  obtain ⟨U, g3, g4⟩ := s5a (d := d) (x := x) g2.2.1 g2.2.2.1 (by rw [len1]; omega) hk7 yT
  have yU := lg_by g4 yT
  have kU := by_k hk7 yU
  have hl2 : (ab_t0 k (nI b) (nI v) x).2.length ≤ 6 := by
    have := @wait_len k x hk7 (nI b) (nI v)
    show (12 :: (ab_wait k (nI b) (nI v) x).2).length ≤ 6
    rw [List.length_cons]; omega
  obtain ⟨V, g5, g6⟩ := wait_c (d := d + 1) (x := nI 1) g4.2.1 g4.2.2.1 (by rw [List.length_append, len1]; omega) hk7 yU
  rw [ll] at g4
  have g6' : cLog U V (l ++ (40 :: (ab_t0 k (nI b) (nI v) x).2 ++ (ab_wait k (nI b) (nI v) (nI 1)).2)) := by
    have e : l ++ [40] ++ (ab_t0 k (nI b) (nI v) x).2 ++ (ab_wait k (nI b) (nI v) (nI 1)).2 = l ++ (40 :: (ab_t0 k (nI b) (nI v) x).2 ++ (ab_wait k (nI b) (nI v) (nI 1)).2) := by rw [ll, List.append_assoc]
    rw [← e]; exact g6
  refine ⟨V, ?_, lg_tr g2 (lg_tr g4 g6')⟩
  rw [e27, b27_0, g1, hp_bd, hp_tn, b27_6 (by_q hk7 yT), g3, hp_bd, hp_ts]
  rcases hk with rfl | rfl
  · rw [b27_12_k2 kU, show mm_cl (d + 6) 4 _ U = _ from g5, hp_bd, hp_tsc, b27_18]
  · rw [b27_12_k9 kU, show mm_cl (d + 6) 67 _ U = _ from g5, hp_bd, hp_tsc, b27_18]
theorem tell_c (hw : mm_W S) (hr : gc_r S l) (hl : l.length + 12 ≤ 20) (hk : k < 7) (hy : cd_by S e b k v w) : cAct S (d + 7) (cd_tm k) e x l (ab_tell k (nI b) (nI v) x) := by
  rcases k7c hk with rfl | rfl | rfl | rfl | rfl | rfl | rfl
  · exact s5a hw hr (by omega) hk hy
  · exact s5a hw hr (by omega) hk hy
  · exact s5a hw hr (by omega) hk hy
  · exact s27a hw hr (by omega) (Or.inl rfl) hy
  · exact s5a hw hr (by omega) hk hy
  · obtain ⟨T, g1, g2⟩ := s1n (d := d + 6) (c := 60) hw hr (by omega)
    have yT := lg_by g2 hy
    obtain ⟨U, g3, g4⟩ := s5a (d := d) (x := x - nI b) g2.2.1 g2.2.2.1 (by rw [len1]; omega) hk yT
    rw [ll] at g4
    refine ⟨U, ?_, lg_tr g2 g4⟩
    show mm_cl (d + 7) 30 _ S = _
    rw [e30, b30_0, g1, hp_bd, hp_tn, b30_6 (by_o hk yT) (by_q hk yT), yT.2.2.2.2.1, g3, hp_bd, hp_ts, b30_17]
    rfl
  · exact s27a hw hr (by omega) (Or.inr rfl) hy
end AC
def op_27 (G : gb_G) (x a y : Int32) : Int32 × gb_G := match ab_kw (gK G) x with
  | none => (nI 0, gS_r G [])
  | some b => if a = nI 0 then ((ab_bid (ab_ki (gP G) b) (nI b) (nI (ab_v (gP G) b)) y).1, gS_r G (ab_bid (ab_ki (gP G) b) (nI b) (nI (ab_v (gP G) b)) y).2) else if a = nI 1 then ((ab_wait (ab_ki (gP G) b) (nI b) (nI (ab_v (gP G) b)) y).1, gS_r G (ab_wait (ab_ki (gP G) b) (nI b) (nI (ab_v (gP G) b)) y).2) else if a = nI 2 then ((ab_tell (ab_ki (gP G) b) (nI b) (nI (ab_v (gP G) b)) y).1, gS_r G (ab_tell (ab_ki (gP G) b) (nI b) (nI (ab_v (gP G) b)) y).2) else (nI 0, gS_r G [])
section AD
variable {S T U : mm_S} {G : gb_G} {d b e k v w : Nat} {x a y : Int32} {l m : List Nat}
theorem ok_r (ok : gb_ok G) (h : l.length ≤ 20) (h2 : ∀ b ∈ l, b < 100) : gb_ok (gS_r G l) := ⟨ok.1, ok.2.1, ok.2.2.1, ok.2.2.2.1, ok.2.2.2.2.1, ok.2.2.2.2.2.1, ok.2.2.2.2.2.2.1, h, h2⟩
theorem a100_48 (hw : mm_W T) (hb : b < 6) {q : Nat} (hq : mm_R T 7 b = some q) (hk : k < 7) (kq : mm_rk T q = cd_kc k) {r : Int32} (g : mm_cl (d + 7) (cd_bm k) [.ref q, .int y, .ref 88] T = some (some (.int r), U)) : mm_ex (d + 8) 100 48 [.ref 0, .int (nI b), .int a, .int y] [] T = some (some (.int r), U) := by
  have cl : (nI b).toNatClampNeg = b := nI_clamp (by omega)
  have hbi : mm_inb (nI b) 6 = true := hp_inb (by omega) (by omega)
  have rq := hp_rg hq
  have sq := hp_rs hq
  rcases k7c hk with rfl | rfl | rfl | rfl | rfl | rfl | rfl
  · rw [b100_48_k0 (wx_o0 hw) (wx_s0_0 hw) (by rw [wx_g0_0 hw]; exact wx_o6 hw) (by rw [wx_g0_0 hw]; exact wx_s6_0 hw) (by rw [wx_g0_0 hw, wx_g6_0 hw, wx_N7 hw]; exact hbi) (by rw [wx_g0_0 hw, wx_g6_0 hw]; exact wx_a7 hw) (by rw [wx_g0_0 hw, wx_g6_0 hw, cl]; exact sq) (wx_s0_7 hw) (by rw [wx_g0_0 hw, wx_g6_0 hw, cl, rq]; exact kq), wx_g0_0 hw, wx_g6_0 hw, cl, rq, wx_g0_7 hw, show mm_cl (d + 7) 3 _ T = _ from g, hp_bd, hp_ts, b100_65]
  · rw [b100_48_k4 (wx_o0 hw) (wx_s0_0 hw) (by rw [wx_g0_0 hw]; exact wx_o6 hw) (by rw [wx_g0_0 hw]; exact wx_s6_0 hw) (by rw [wx_g0_0 hw, wx_g6_0 hw, wx_N7 hw]; exact hbi) (by rw [wx_g0_0 hw, wx_g6_0 hw]; exact wx_a7 hw) (by rw [wx_g0_0 hw, wx_g6_0 hw, cl]; exact sq) (wx_s0_7 hw) (by rw [wx_g0_0 hw, wx_g6_0 hw, cl, rq]; exact kq), wx_g0_0 hw, wx_g6_0 hw, cl, rq, wx_g0_7 hw, show mm_cl (d + 7) 3 _ T = _ from g, hp_bd, hp_ts, b100_65]
  · rw [b100_48_k10 (wx_o0 hw) (wx_s0_0 hw) (by rw [wx_g0_0 hw]; exact wx_o6 hw) (by rw [wx_g0_0 hw]; exact wx_s6_0 hw) (by rw [wx_g0_0 hw, wx_g6_0 hw, wx_N7 hw]; exact hbi) (by rw [wx_g0_0 hw, wx_g6_0 hw]; exact wx_a7 hw) (by rw [wx_g0_0 hw, wx_g6_0 hw, cl]; exact sq) (wx_s0_7 hw) (by rw [wx_g0_0 hw, wx_g6_0 hw, cl, rq]; exact kq), wx_g0_0 hw, wx_g6_0 hw, cl, rq, wx_g0_7 hw, show mm_cl (d + 7) 71 _ T = _ from g, hp_bd, hp_ts, b100_65]
  · rw [b100_48_k2 (wx_o0 hw) (wx_s0_0 hw) (by rw [wx_g0_0 hw]; exact wx_o6 hw) (by rw [wx_g0_0 hw]; exact wx_s6_0 hw) (by rw [wx_g0_0 hw, wx_g6_0 hw, wx_N7 hw]; exact hbi) (by rw [wx_g0_0 hw, wx_g6_0 hw]; exact wx_a7 hw) (by rw [wx_g0_0 hw, wx_g6_0 hw, cl]; exact sq) (wx_s0_7 hw) (by rw [wx_g0_0 hw, wx_g6_0 hw, cl, rq]; exact kq), wx_g0_0 hw, wx_g6_0 hw, cl, rq, wx_g0_7 hw, show mm_cl (d + 7) 3 _ T = _ from g, hp_bd, hp_ts, b100_65]
  · rw [b100_48_k7 (wx_o0 hw) (wx_s0_0 hw) (by rw [wx_g0_0 hw]; exact wx_o6 hw) (by rw [wx_g0_0 hw]; exact wx_s6_0 hw) (by rw [wx_g0_0 hw, wx_g6_0 hw, wx_N7 hw]; exact hbi) (by rw [wx_g0_0 hw, wx_g6_0 hw]; exact wx_a7 hw) (by rw [wx_g0_0 hw, wx_g6_0 hw, cl]; exact sq) (wx_s0_7 hw) (by rw [wx_g0_0 hw, wx_g6_0 hw, cl, rq]; exact kq), wx_g0_0 hw, wx_g6_0 hw, cl, rq, wx_g0_7 hw, show mm_cl (d + 7) 57 _ T = _ from g, hp_bd, hp_ts, b100_65]
  · rw [b100_48_k3 (wx_o0 hw) (wx_s0_0 hw) (by rw [wx_g0_0 hw]; exact wx_o6 hw) (by rw [wx_g0_0 hw]; exact wx_s6_0 hw) (by rw [wx_g0_0 hw, wx_g6_0 hw, wx_N7 hw]; exact hbi) (by rw [wx_g0_0 hw, wx_g6_0 hw]; exact wx_a7 hw) (by rw [wx_g0_0 hw, wx_g6_0 hw, cl]; exact sq) (wx_s0_7 hw) (by rw [wx_g0_0 hw, wx_g6_0 hw, cl, rq]; exact kq), wx_g0_0 hw, wx_g6_0 hw, cl, rq, wx_g0_7 hw, show mm_cl (d + 7) 71 _ T = _ from g, hp_bd, hp_ts, b100_65]
  · rw [b100_48_k9 (wx_o0 hw) (wx_s0_0 hw) (by rw [wx_g0_0 hw]; exact wx_o6 hw) (by rw [wx_g0_0 hw]; exact wx_s6_0 hw) (by rw [wx_g0_0 hw, wx_g6_0 hw, wx_N7 hw]; exact hbi) (by rw [wx_g0_0 hw, wx_g6_0 hw]; exact wx_a7 hw) (by rw [wx_g0_0 hw, wx_g6_0 hw, cl]; exact sq) (wx_s0_7 hw) (by rw [wx_g0_0 hw, wx_g6_0 hw, cl, rq]; exact kq), wx_g0_0 hw, wx_g6_0 hw, cl, rq, wx_g0_7 hw, show mm_cl (d + 7) 68 _ T = _ from g, hp_bd, hp_ts, b100_65]
theorem a100_66 (hw : mm_W T) (hb : b < 6) {q : Nat} (hq : mm_R T 7 b = some q) (hk : k < 7) (kq : mm_rk T q = cd_kc k) {r : Int32} (g : mm_cl (d + 7) (cd_wm k) [.ref q, .int y, .ref 88] T = some (some (.int r), U)) : mm_ex (d + 8) 100 66 [.ref 0, .int (nI b), .int a, .int y] [] T = some (some (.int r), U) := by
  have cl : (nI b).toNatClampNeg = b := nI_clamp (by omega)
  have hbi : mm_inb (nI b) 6 = true := hp_inb (by omega) (by omega)
  have rq := hp_rg hq
  have sq := hp_rs hq
  rcases k7c hk with rfl | rfl | rfl | rfl | rfl | rfl | rfl
  · rw [b100_66_k0 (wx_o0 hw) (wx_s0_0 hw) (by rw [wx_g0_0 hw]; exact wx_o6 hw) (by rw [wx_g0_0 hw]; exact wx_s6_0 hw) (by rw [wx_g0_0 hw, wx_g6_0 hw, wx_N7 hw]; exact hbi) (by rw [wx_g0_0 hw, wx_g6_0 hw]; exact wx_a7 hw) (by rw [wx_g0_0 hw, wx_g6_0 hw, cl]; exact sq) (wx_s0_7 hw) (by rw [wx_g0_0 hw, wx_g6_0 hw, cl, rq]; exact kq), wx_g0_0 hw, wx_g6_0 hw, cl, rq, wx_g0_7 hw, show mm_cl (d + 7) 4 _ T = _ from g, hp_bd, hp_ts, b100_83]
  · rw [b100_66_k4 (wx_o0 hw) (wx_s0_0 hw) (by rw [wx_g0_0 hw]; exact wx_o6 hw) (by rw [wx_g0_0 hw]; exact wx_s6_0 hw) (by rw [wx_g0_0 hw, wx_g6_0 hw, wx_N7 hw]; exact hbi) (by rw [wx_g0_0 hw, wx_g6_0 hw]; exact wx_a7 hw) (by rw [wx_g0_0 hw, wx_g6_0 hw, cl]; exact sq) (wx_s0_7 hw) (by rw [wx_g0_0 hw, wx_g6_0 hw, cl, rq]; exact kq), wx_g0_0 hw, wx_g6_0 hw, cl, rq, wx_g0_7 hw, show mm_cl (d + 7) 33 _ T = _ from g, hp_bd, hp_ts, b100_83]
  · rw [b100_66_k10 (wx_o0 hw) (wx_s0_0 hw) (by rw [wx_g0_0 hw]; exact wx_o6 hw) (by rw [wx_g0_0 hw]; exact wx_s6_0 hw) (by rw [wx_g0_0 hw, wx_g6_0 hw, wx_N7 hw]; exact hbi) (by rw [wx_g0_0 hw, wx_g6_0 hw]; exact wx_a7 hw) (by rw [wx_g0_0 hw, wx_g6_0 hw, cl]; exact sq) (wx_s0_7 hw) (by rw [wx_g0_0 hw, wx_g6_0 hw, cl, rq]; exact kq), wx_g0_0 hw, wx_g6_0 hw, cl, rq, wx_g0_7 hw, show mm_cl (d + 7) 4 _ T = _ from g, hp_bd, hp_ts, b100_83]
  · rw [b100_66_k2 (wx_o0 hw) (wx_s0_0 hw) (by rw [wx_g0_0 hw]; exact wx_o6 hw) (by rw [wx_g0_0 hw]; exact wx_s6_0 hw) (by rw [wx_g0_0 hw, wx_g6_0 hw, wx_N7 hw]; exact hbi) (by rw [wx_g0_0 hw, wx_g6_0 hw]; exact wx_a7 hw) (by rw [wx_g0_0 hw, wx_g6_0 hw, cl]; exact sq) (wx_s0_7 hw) (by rw [wx_g0_0 hw, wx_g6_0 hw, cl, rq]; exact kq), wx_g0_0 hw, wx_g6_0 hw, cl, rq, wx_g0_7 hw, show mm_cl (d + 7) 4 _ T = _ from g, hp_bd, hp_ts, b100_83]
  · rw [b100_66_k7 (wx_o0 hw) (wx_s0_0 hw) (by rw [wx_g0_0 hw]; exact wx_o6 hw) (by rw [wx_g0_0 hw]; exact wx_s6_0 hw) (by rw [wx_g0_0 hw, wx_g6_0 hw, wx_N7 hw]; exact hbi) (by rw [wx_g0_0 hw, wx_g6_0 hw]; exact wx_a7 hw) (by rw [wx_g0_0 hw, wx_g6_0 hw, cl]; exact sq) (wx_s0_7 hw) (by rw [wx_g0_0 hw, wx_g6_0 hw, cl, rq]; exact kq), wx_g0_0 hw, wx_g6_0 hw, cl, rq, wx_g0_7 hw, show mm_cl (d + 7) 58 _ T = _ from g, hp_bd, hp_ts, b100_83]
  · rw [b100_66_k3 (wx_o0 hw) (wx_s0_0 hw) (by rw [wx_g0_0 hw]; exact wx_o6 hw) (by rw [wx_g0_0 hw]; exact wx_s6_0 hw) (by rw [wx_g0_0 hw, wx_g6_0 hw, wx_N7 hw]; exact hbi) (by rw [wx_g0_0 hw, wx_g6_0 hw]; exact wx_a7 hw) (by rw [wx_g0_0 hw, wx_g6_0 hw, cl]; exact sq) (wx_s0_7 hw) (by rw [wx_g0_0 hw, wx_g6_0 hw, cl, rq]; exact kq), wx_g0_0 hw, wx_g6_0 hw, cl, rq, wx_g0_7 hw, show mm_cl (d + 7) 4 _ T = _ from g, hp_bd, hp_ts, b100_83]
  · rw [b100_66_k9 (wx_o0 hw) (wx_s0_0 hw) (by rw [wx_g0_0 hw]; exact wx_o6 hw) (by rw [wx_g0_0 hw]; exact wx_s6_0 hw) (by rw [wx_g0_0 hw, wx_g6_0 hw, wx_N7 hw]; exact hbi) (by rw [wx_g0_0 hw, wx_g6_0 hw]; exact wx_a7 hw) (by rw [wx_g0_0 hw, wx_g6_0 hw, cl]; exact sq) (wx_s0_7 hw) (by rw [wx_g0_0 hw, wx_g6_0 hw, cl, rq]; exact kq), wx_g0_0 hw, wx_g6_0 hw, cl, rq, wx_g0_7 hw, show mm_cl (d + 7) 67 _ T = _ from g, hp_bd, hp_ts, b100_83]
theorem a100_84 (hw : mm_W T) (hb : b < 6) {q : Nat} (hq : mm_R T 7 b = some q) (hk : k < 7) (kq : mm_rk T q = cd_kc k) {r : Int32} (g : mm_cl (d + 7) (cd_tm k) [.ref q, .int y, .ref 88] T = some (some (.int r), U)) : mm_ex (d + 8) 100 84 [.ref 0, .int (nI b), .int a, .int y] [] T = some (some (.int r), U) := by
  have cl : (nI b).toNatClampNeg = b := nI_clamp (by omega)
  have hbi : mm_inb (nI b) 6 = true := hp_inb (by omega) (by omega)
  have rq := hp_rg hq
  have sq := hp_rs hq
  rcases k7c hk with rfl | rfl | rfl | rfl | rfl | rfl | rfl
  · rw [b100_84_k0 (wx_o0 hw) (wx_s0_0 hw) (by rw [wx_g0_0 hw]; exact wx_o6 hw) (by rw [wx_g0_0 hw]; exact wx_s6_0 hw) (by rw [wx_g0_0 hw, wx_g6_0 hw, wx_N7 hw]; exact hbi) (by rw [wx_g0_0 hw, wx_g6_0 hw]; exact wx_a7 hw) (by rw [wx_g0_0 hw, wx_g6_0 hw, cl]; exact sq) (wx_s0_7 hw) (by rw [wx_g0_0 hw, wx_g6_0 hw, cl, rq]; exact kq), wx_g0_0 hw, wx_g6_0 hw, cl, rq, wx_g0_7 hw, show mm_cl (d + 7) 5 _ T = _ from g, hp_bd, hp_ts, b100_101]
  · rw [b100_84_k4 (wx_o0 hw) (wx_s0_0 hw) (by rw [wx_g0_0 hw]; exact wx_o6 hw) (by rw [wx_g0_0 hw]; exact wx_s6_0 hw) (by rw [wx_g0_0 hw, wx_g6_0 hw, wx_N7 hw]; exact hbi) (by rw [wx_g0_0 hw, wx_g6_0 hw]; exact wx_a7 hw) (by rw [wx_g0_0 hw, wx_g6_0 hw, cl]; exact sq) (wx_s0_7 hw) (by rw [wx_g0_0 hw, wx_g6_0 hw, cl, rq]; exact kq), wx_g0_0 hw, wx_g6_0 hw, cl, rq, wx_g0_7 hw, show mm_cl (d + 7) 5 _ T = _ from g, hp_bd, hp_ts, b100_101]
  · rw [b100_84_k10 (wx_o0 hw) (wx_s0_0 hw) (by rw [wx_g0_0 hw]; exact wx_o6 hw) (by rw [wx_g0_0 hw]; exact wx_s6_0 hw) (by rw [wx_g0_0 hw, wx_g6_0 hw, wx_N7 hw]; exact hbi) (by rw [wx_g0_0 hw, wx_g6_0 hw]; exact wx_a7 hw) (by rw [wx_g0_0 hw, wx_g6_0 hw, cl]; exact sq) (wx_s0_7 hw) (by rw [wx_g0_0 hw, wx_g6_0 hw, cl, rq]; exact kq), wx_g0_0 hw, wx_g6_0 hw, cl, rq, wx_g0_7 hw, show mm_cl (d + 7) 5 _ T = _ from g, hp_bd, hp_ts, b100_101]
  · rw [b100_84_k2 (wx_o0 hw) (wx_s0_0 hw) (by rw [wx_g0_0 hw]; exact wx_o6 hw) (by rw [wx_g0_0 hw]; exact wx_s6_0 hw) (by rw [wx_g0_0 hw, wx_g6_0 hw, wx_N7 hw]; exact hbi) (by rw [wx_g0_0 hw, wx_g6_0 hw]; exact wx_a7 hw) (by rw [wx_g0_0 hw, wx_g6_0 hw, cl]; exact sq) (wx_s0_7 hw) (by rw [wx_g0_0 hw, wx_g6_0 hw, cl, rq]; exact kq), wx_g0_0 hw, wx_g6_0 hw, cl, rq, wx_g0_7 hw, show mm_cl (d + 7) 27 _ T = _ from g, hp_bd, hp_ts, b100_101]
  · rw [b100_84_k7 (wx_o0 hw) (wx_s0_0 hw) (by rw [wx_g0_0 hw]; exact wx_o6 hw) (by rw [wx_g0_0 hw]; exact wx_s6_0 hw) (by rw [wx_g0_0 hw, wx_g6_0 hw, wx_N7 hw]; exact hbi) (by rw [wx_g0_0 hw, wx_g6_0 hw]; exact wx_a7 hw) (by rw [wx_g0_0 hw, wx_g6_0 hw, cl]; exact sq) (wx_s0_7 hw) (by rw [wx_g0_0 hw, wx_g6_0 hw, cl, rq]; exact kq), wx_g0_0 hw, wx_g6_0 hw, cl, rq, wx_g0_7 hw, show mm_cl (d + 7) 5 _ T = _ from g, hp_bd, hp_ts, b100_101]
  · rw [b100_84_k3 (wx_o0 hw) (wx_s0_0 hw) (by rw [wx_g0_0 hw]; exact wx_o6 hw) (by rw [wx_g0_0 hw]; exact wx_s6_0 hw) (by rw [wx_g0_0 hw, wx_g6_0 hw, wx_N7 hw]; exact hbi) (by rw [wx_g0_0 hw, wx_g6_0 hw]; exact wx_a7 hw) (by rw [wx_g0_0 hw, wx_g6_0 hw, cl]; exact sq) (wx_s0_7 hw) (by rw [wx_g0_0 hw, wx_g6_0 hw, cl, rq]; exact kq), wx_g0_0 hw, wx_g6_0 hw, cl, rq, wx_g0_7 hw, show mm_cl (d + 7) 30 _ T = _ from g, hp_bd, hp_ts, b100_101]
  · rw [b100_84_k9 (wx_o0 hw) (wx_s0_0 hw) (by rw [wx_g0_0 hw]; exact wx_o6 hw) (by rw [wx_g0_0 hw]; exact wx_s6_0 hw) (by rw [wx_g0_0 hw, wx_g6_0 hw, wx_N7 hw]; exact hbi) (by rw [wx_g0_0 hw, wx_g6_0 hw]; exact wx_a7 hw) (by rw [wx_g0_0 hw, wx_g6_0 hw, cl]; exact sq) (wx_s0_7 hw) (by rw [wx_g0_0 hw, wx_g6_0 hw, cl, rq]; exact kq), wx_g0_0 hw, wx_g6_0 hw, cl, rq, wx_g0_7 hw, show mm_cl (d + 7) 27 _ T = _ from g, hp_bd, hp_ts, b100_101]
theorem ab_lens (hk : k < 7) {i u : Int32} : (ab_bid k i u x).2.length ≤ 20 ∧ (ab_wait k i u x).2.length ≤ 20 ∧ (ab_tell k i u x).2.length ≤ 20 ∧ (∀ b ∈ (ab_bid k i u x).2, b < 100) ∧ (∀ b ∈ (ab_wait k i u x).2, b < 100) ∧ (∀ b ∈ (ab_tell k i u x).2, b < 100) := by
  rcases k7c hk with rfl | rfl | rfl | rfl | rfl | rfl | rfl <;> simp [ab_tell, ab_t0, ab_wait, ab_w0, ab_bid]
theorem c_27 (ok : gb_ok G) (hR : RC S G) : oC S (d + 8) 100 [.ref 0, .int x, .int a, .int y] (.int (op_27 G x a y).1) (op_27 G x a y).2 := by
  have hw := hR.1
  have hk : gK G ≤ 6 := ok.1.1.1
  have i0 : mm_inb (nI 0) 21 = true := by decide
  have c0 : (nI 0).toNatClampNeg = 0 := nI_clamp (by decide)
  have f0 : sf_f gc_rr S (mm_uM S 88 0 (nI 0)) := sf_uM rfl
  have w0 : mm_W (mm_uM S 88 0 (nI 0)) := hw
  have r0 : gc_r (mm_uM S 88 0 (nI 0)) [] := ⟨rds, fun i hi => absurd hi (Nat.not_lt_zero i)⟩
  have R0 := RC_r ok f0 w0 hR r0
  have ok0 : gb_ok (gS_r G []) := ok_r ok (by decide) (fun b hb => by cases hb)
  have st : mm_cl (d + 8) 100 [.ref 0, .int x, .int a, .int y] S = mm_bd (mm_cl (d + 7) 8 [.ref 6, .int x] (mm_uM S 88 0 (nI 0))) (fun v S2 => mm_ex (d + 8) 100 15 [.ref 0, .int x, .int a, .int y] (v.toList ++ []) S2) := by
    rw [e100, b100_0 (wx_o0 hw) (wx_s0_7 hw) (by rw [wx_g0_7 hw]; exact wx_a88 hw) (by rw [wx_g0_7 hw, wx_N88 hw]; exact i0) (wx_s0_0 hw) (by rw [wx_g0_0 hw]; exact wx_k6 hw), wx_g0_7 hw, c0, wx_g0_0 hw]
  rcases kw_c hk x with ⟨e, h⟩ | ⟨b, hb, e, rfl⟩
  · have k := s8n (G := gS_r G []) (d := d + 7) ok0 R0 e
    have eo : op_27 G x a y = (nI 0, gS_r G []) := by unfold op_27; simp only [e]
    rw [eo]
    refine ⟨_, ?_, R0, rr_0 f0, sz_s rfl rfl⟩
    rw [st, k, hp_bd, hp_ts, b100_15, if_pos rfl, b100_18]
  · have k := s8s (G := gS_r G []) (d := d + 7) ok0 R0 hb
    obtain ⟨q, hq, -, -, -, kq, hy⟩ := RC_by (G := gS_r G []) ok0 R0 hb
    have hk7 : ab_ki (gP G) b < 7 := (ok.1.1.2.2.2.1 b hb).1
    have hy : cd_by (mm_uM S 88 0 (nI 0)) q b (ab_ki (gP G) b) (ab_v (gP G) b) (ab_wo (gP G) b) := hy
    have kq : mm_rk (mm_uM S 88 0 (nI 0)) q = cd_kc (ab_ki (gP G) b) := kq
    have st2 : mm_cl (d + 8) 100 [.ref 0, .int (nI b), .int a, .int y] S = if a = nI 0 then mm_ex (d + 8) 100 48 [.ref 0, .int (nI b), .int a, .int y] [] (mm_uM S 88 0 (nI 0)) else if a = nI 1 then mm_ex (d + 8) 100 66 [.ref 0, .int (nI b), .int a, .int y] [] (mm_uM S 88 0 (nI 0)) else if a = nI 2 then mm_ex (d + 8) 100 84 [.ref 0, .int (nI b), .int a, .int y] [] (mm_uM S 88 0 (nI 0)) else mm_ex (d + 8) 100 102 [.ref 0, .int (nI b), .int a, .int y] [] (mm_uM S 88 0 (nI 0)) := by
      rw [st, k, hp_bd, hp_ts, b100_15, if_neg i01, b100_20, b100_21]
    have fin : ∀ {r : Int32 × List Nat} {U : mm_S}, mm_cl (d + 8) 100 [.ref 0, .int (nI b), .int a, .int y] S = some (some (.int r.1), U) → cLog (mm_uM S 88 0 (nI 0)) U ([] ++ r.2) → oC S (d + 8) 100 [.ref 0, .int (nI b), .int a, .int y] (.int r.1) (gS_r G r.2) := by
      intro r U h1 h2
      have f := sf_tr f0 h2.1
      exact ⟨U, h1, RC_r ok f h2.2.1 hR h2.2.2.1, rr_0 f, sz_s h2.2.2.2.1 h2.2.2.2.2⟩
    by_cases a0 : a = nI 0
    · have eo : op_27 G (nI b) a y = ((ab_bid (ab_ki (gP G) b) (nI b) (nI (ab_v (gP G) b)) y).1, gS_r G (ab_bid (ab_ki (gP G) b) (nI b) (nI (ab_v (gP G) b)) y).2) := by unfold op_27; simp only [e, a0, if_true]
      obtain ⟨U, g1, g2⟩ := bid_c (d := d + 5) (x := y) w0 r0 (by decide) hk7 hy
      rw [eo]
      refine fin ?_ g2
      rw [st2, if_pos a0]
      exact a100_48 w0 (by omega) hq hk7 kq g1
    by_cases a1 : a = nI 1
    · have eo : op_27 G (nI b) a y = ((ab_wait (ab_ki (gP G) b) (nI b) (nI (ab_v (gP G) b)) y).1, gS_r G (ab_wait (ab_ki (gP G) b) (nI b) (nI (ab_v (gP G) b)) y).2) := by unfold op_27; simp only [e]; rw [if_neg a0, if_pos a1]
      obtain ⟨U, g1, g2⟩ := wait_c (d := d + 2) (x := y) w0 r0 (by decide) hk7 hy
      rw [eo]
      refine fin ?_ g2
      rw [st2, if_neg a0, if_pos a1]
      exact a100_66 w0 (by omega) hq hk7 kq g1
    by_cases a2 : a = nI 2
    · have eo : op_27 G (nI b) a y = ((ab_tell (ab_ki (gP G) b) (nI b) (nI (ab_v (gP G) b)) y).1, gS_r G (ab_tell (ab_ki (gP G) b) (nI b) (nI (ab_v (gP G) b)) y).2) := by unfold op_27; simp only [e]; rw [if_neg a0, if_neg a1, if_pos a2]
      obtain ⟨U, g1, g2⟩ := tell_c (d := d) (x := y) w0 r0 (by decide) hk7 hy
      rw [eo]
      refine fin ?_ g2
      rw [st2, if_neg a0, if_neg a1, if_pos a2]
      exact a100_84 w0 (by omega) hq hk7 kq g1
    have eo : op_27 G (nI b) a y = (nI 0, gS_r G []) := by unfold op_27; simp only [e]; rw [if_neg a0, if_neg a1, if_neg a2]
    rw [eo]
    refine ⟨_, ?_, R0, rr_0 f0, sz_s rfl rfl⟩
    rw [st2, if_neg a0, if_neg a1, if_neg a2, b100_102]
end AD
/-! ===== a new BUYER, in the class ===== -/
def gX_new (X : gb_X) (k v w : Nat) : gb_X := ((ab_kn X.1 + 1, ab_up1 (ab_ki X.1) (ab_kn X.1) k, ab_up1 (ab_v X.1) (ab_kn X.1) v, ab_up1 (ab_wo X.1) (ab_kn X.1) w, ab_up1 (ab_fr X.1) (ab_kn X.1) none, ab_up1 (ab_up1 (ab_up1 (ab_te X.1) (3 * ab_kn X.1) 0) (3 * ab_kn X.1 + 1) 0) (3 * ab_kn X.1 + 2) 0, ab_sh X.1, ab_fe X.1), (ab_row X.2.1 ++ [ab_kn X.1], ab_up1 (ab_aw X.2.1) (ab_kn X.1) 0, ab_up1 (ab_ga X.2.1) (ab_kn X.1) (nI 0), X.2.1.2.2.2), X.2.2)
def op_0 (G : gb_G) (k v w : Int32) : Int32 × gb_G := match ab_kw 7 k with
  | none => (-1, G)
  | some k => match ab_kw 10 v, ab_kw 100 w with
    | some v, some w => if gK G = 6 then (-4, G) else (nI (gK G), gX_new G.1 k v w, G.2)
    | _, _ => (-2, G)
section NBY
variable {S T U : mm_S} {G : gb_G} {d b e k v w : Nat} {x y z : Int32}
theorem new_len (ok : gb_ok G) (h6 : ¬ gK G = 6) : (ab_row (gD G)).length < 6 := by
  have h := nd_le _ _ ok.1.2.1.1 ok.1.2.1.2.1
  have hk : gK G ≤ 6 := ok.1.1.1
  have e : ab_kn (gx_P (gb_x G)) = gK G := rfl
  have e2 : (ab_row (gx_D (gb_x G))).length = (ab_row (gD G)).length := rfl
  omega
theorem c_0 (ok : gb_ok G) (hR : RC S G) (hn : mm_n S < 1000000) : oC S (d + 5) 73 [.ref 0, .int x, .int y, .int z] (.int (op_0 G x y z).1) (op_0 G x y z).2 := by
  have hw := hR.1
  have hk : gK G ≤ 6 := ok.1.1.1
  have hkn : mm_M S 6 10 = nI (gK G) := hR.2.1.1.1
  rcases kw_d (n := 6) (m := 7) rfl (by decide) x with ⟨ex, a1, a2, a3, a4, a5, a6⟩ | ⟨ex, a1, a2, a3, a4, a5, a6⟩ | ⟨k, hk7, ex, rfl, a1, a2, a3, a4, a5, a6⟩
  · have eo : op_0 G x y z = (-1, G) := by unfold op_0; simp only [ex]
    rw [eo]
    refine oC_id hR ?_
    simp only [b73_0, b73_4, b73_10, b73_12, b73_16, b73_22, b73_26, b73_32, b73_35, b73_47, b73_50, b73_71, b73_74, e73, wx_o0 hw, wx_k0 hw, wx_q0 hw, wx_g0_0 hw, wx_s0_0 hw, wx_g0_1 hw, wx_s0_1 hw, wx_g0_2 hw, wx_s0_2 hw, wx_g0_3 hw, wx_s0_3 hw, wx_g0_4 hw, wx_s0_4 hw, wx_N42 hw, wx_a42 hw, wx_K42 hw, wx_g0_5 hw, wx_s0_5 hw, wx_g0_6 hw, wx_s0_6 hw, wx_N75 hw, wx_a75 hw, wx_K75 hw, wx_g0_7 hw, wx_s0_7 hw, wx_N88 hw, wx_a88 hw, wx_g0_8 hw, wx_s0_8 hw, wx_N89 hw, wx_a89 hw, wx_g0_9 hw, wx_s0_9 hw, wx_N90 hw, wx_a90 hw, wx_g0_10 hw, wx_s0_10 hw, wx_N91 hw, wx_a91 hw, wx_o6 hw, wx_k6 hw, wx_q6 hw, wx_g6_0 hw, wx_s6_0 hw, wx_N7 hw, wx_a7 hw, wx_K7 hw, wx_g6_1 hw, wx_s6_1 hw, wx_N8 hw, wx_a8 hw, wx_g6_2 hw, wx_s6_2 hw, wx_N9 hw, wx_a9 hw, wx_g6_3 hw, wx_s6_3 hw, wx_N10 hw, wx_a10 hw, wx_g6_4 hw, wx_s6_4 hw, wx_N11 hw, wx_a11 hw, wx_g6_5 hw, wx_s6_5 hw, wx_N12 hw, wx_a12 hw, wx_g6_6 hw, wx_s6_6 hw, wx_N13 hw, wx_a13 hw, wx_g6_7 hw, wx_s6_7 hw, wx_N14 hw, wx_a14 hw, List.not_mem_nil, false_implies, implies_true, nI_clamp, nI_add, Nat.reducePow, hp_bd, hp_bdi, hp_ts, hp_tn, hp_tsc, hp_tnc, Nat.reduceAdd, Nat.reduceSub, Nat.reduceMul, Nat.reduceLT, Nat.reduceLeDiff, Nat.reduceEqDiff, reduceIte, not_true_eq_false, not_false_eq_true, and_true, true_and, and_self, and_false, false_and, or_true, true_or, or_false, false_or, decide_true, decide_false, Bool.and_true, Bool.true_and, Bool.not_false, Bool.or_false, Bool.false_or, Bool.or_true, Bool.true_or, a1, a4]
  · have eo : op_0 G x y z = (-1, G) := by unfold op_0; simp only [ex]
    rw [eo]
    refine oC_id hR ?_
    simp only [b73_0, b73_4, b73_10, b73_12, b73_16, b73_22, b73_26, b73_32, b73_35, b73_47, b73_50, b73_71, b73_74, e73, wx_o0 hw, wx_k0 hw, wx_q0 hw, wx_g0_0 hw, wx_s0_0 hw, wx_g0_1 hw, wx_s0_1 hw, wx_g0_2 hw, wx_s0_2 hw, wx_g0_3 hw, wx_s0_3 hw, wx_g0_4 hw, wx_s0_4 hw, wx_N42 hw, wx_a42 hw, wx_K42 hw, wx_g0_5 hw, wx_s0_5 hw, wx_g0_6 hw, wx_s0_6 hw, wx_N75 hw, wx_a75 hw, wx_K75 hw, wx_g0_7 hw, wx_s0_7 hw, wx_N88 hw, wx_a88 hw, wx_g0_8 hw, wx_s0_8 hw, wx_N89 hw, wx_a89 hw, wx_g0_9 hw, wx_s0_9 hw, wx_N90 hw, wx_a90 hw, wx_g0_10 hw, wx_s0_10 hw, wx_N91 hw, wx_a91 hw, wx_o6 hw, wx_k6 hw, wx_q6 hw, wx_g6_0 hw, wx_s6_0 hw, wx_N7 hw, wx_a7 hw, wx_K7 hw, wx_g6_1 hw, wx_s6_1 hw, wx_N8 hw, wx_a8 hw, wx_g6_2 hw, wx_s6_2 hw, wx_N9 hw, wx_a9 hw, wx_g6_3 hw, wx_s6_3 hw, wx_N10 hw, wx_a10 hw, wx_g6_4 hw, wx_s6_4 hw, wx_N11 hw, wx_a11 hw, wx_g6_5 hw, wx_s6_5 hw, wx_N12 hw, wx_a12 hw, wx_g6_6 hw, wx_s6_6 hw, wx_N13 hw, wx_a13 hw, wx_g6_7 hw, wx_s6_7 hw, wx_N14 hw, wx_a14 hw, List.not_mem_nil, false_implies, implies_true, nI_clamp, nI_add, Nat.reducePow, hp_bd, hp_bdi, hp_ts, hp_tn, hp_tsc, hp_tnc, Nat.reduceAdd, Nat.reduceSub, Nat.reduceMul, Nat.reduceLT, Nat.reduceLeDiff, Nat.reduceEqDiff, reduceIte, not_true_eq_false, not_false_eq_true, and_true, true_and, and_self, and_false, false_and, or_true, true_or, or_false, false_or, decide_true, decide_false, Bool.and_true, Bool.true_and, Bool.not_false, Bool.or_false, Bool.false_or, Bool.or_true, Bool.true_or, a1, a4]
  rcases kw_d (n := 9) (m := 10) rfl (by decide) y with ⟨ey, c1, c2, c3, c4, c5, c6⟩ | ⟨ey, c1, c2, c3, c4, c5, c6⟩ | ⟨v, hv, ey, rfl, c1, c2, c3, c4, c5, c6⟩
  · have eo : op_0 G (nI k) y z = (-2, G) := by unfold op_0; simp only [ex, ey]
    rw [eo]
    refine oC_id hR ?_
    simp only [b73_0, b73_4, b73_10, b73_12, b73_16, b73_22, b73_26, b73_32, b73_35, b73_47, b73_50, b73_71, b73_74, e73, wx_o0 hw, wx_k0 hw, wx_q0 hw, wx_g0_0 hw, wx_s0_0 hw, wx_g0_1 hw, wx_s0_1 hw, wx_g0_2 hw, wx_s0_2 hw, wx_g0_3 hw, wx_s0_3 hw, wx_g0_4 hw, wx_s0_4 hw, wx_N42 hw, wx_a42 hw, wx_K42 hw, wx_g0_5 hw, wx_s0_5 hw, wx_g0_6 hw, wx_s0_6 hw, wx_N75 hw, wx_a75 hw, wx_K75 hw, wx_g0_7 hw, wx_s0_7 hw, wx_N88 hw, wx_a88 hw, wx_g0_8 hw, wx_s0_8 hw, wx_N89 hw, wx_a89 hw, wx_g0_9 hw, wx_s0_9 hw, wx_N90 hw, wx_a90 hw, wx_g0_10 hw, wx_s0_10 hw, wx_N91 hw, wx_a91 hw, wx_o6 hw, wx_k6 hw, wx_q6 hw, wx_g6_0 hw, wx_s6_0 hw, wx_N7 hw, wx_a7 hw, wx_K7 hw, wx_g6_1 hw, wx_s6_1 hw, wx_N8 hw, wx_a8 hw, wx_g6_2 hw, wx_s6_2 hw, wx_N9 hw, wx_a9 hw, wx_g6_3 hw, wx_s6_3 hw, wx_N10 hw, wx_a10 hw, wx_g6_4 hw, wx_s6_4 hw, wx_N11 hw, wx_a11 hw, wx_g6_5 hw, wx_s6_5 hw, wx_N12 hw, wx_a12 hw, wx_g6_6 hw, wx_s6_6 hw, wx_N13 hw, wx_a13 hw, wx_g6_7 hw, wx_s6_7 hw, wx_N14 hw, wx_a14 hw, List.not_mem_nil, false_implies, implies_true, nI_clamp, nI_add, Nat.reducePow, hp_bd, hp_bdi, hp_ts, hp_tn, hp_tsc, hp_tnc, Nat.reduceAdd, Nat.reduceSub, Nat.reduceMul, Nat.reduceLT, Nat.reduceLeDiff, Nat.reduceEqDiff, reduceIte, not_true_eq_false, not_false_eq_true, and_true, true_and, and_self, and_false, false_and, or_true, true_or, or_false, false_or, decide_true, decide_false, Bool.and_true, Bool.true_and, Bool.not_false, Bool.or_false, Bool.false_or, Bool.or_true, Bool.true_or, a1, a4, c1]
  · have eo : op_0 G (nI k) y z = (-2, G) := by unfold op_0; simp only [ex, ey]
    rw [eo]
    refine oC_id hR ?_
    simp only [b73_0, b73_4, b73_10, b73_12, b73_16, b73_22, b73_26, b73_32, b73_35, b73_47, b73_50, b73_71, b73_74, e73, wx_o0 hw, wx_k0 hw, wx_q0 hw, wx_g0_0 hw, wx_s0_0 hw, wx_g0_1 hw, wx_s0_1 hw, wx_g0_2 hw, wx_s0_2 hw, wx_g0_3 hw, wx_s0_3 hw, wx_g0_4 hw, wx_s0_4 hw, wx_N42 hw, wx_a42 hw, wx_K42 hw, wx_g0_5 hw, wx_s0_5 hw, wx_g0_6 hw, wx_s0_6 hw, wx_N75 hw, wx_a75 hw, wx_K75 hw, wx_g0_7 hw, wx_s0_7 hw, wx_N88 hw, wx_a88 hw, wx_g0_8 hw, wx_s0_8 hw, wx_N89 hw, wx_a89 hw, wx_g0_9 hw, wx_s0_9 hw, wx_N90 hw, wx_a90 hw, wx_g0_10 hw, wx_s0_10 hw, wx_N91 hw, wx_a91 hw, wx_o6 hw, wx_k6 hw, wx_q6 hw, wx_g6_0 hw, wx_s6_0 hw, wx_N7 hw, wx_a7 hw, wx_K7 hw, wx_g6_1 hw, wx_s6_1 hw, wx_N8 hw, wx_a8 hw, wx_g6_2 hw, wx_s6_2 hw, wx_N9 hw, wx_a9 hw, wx_g6_3 hw, wx_s6_3 hw, wx_N10 hw, wx_a10 hw, wx_g6_4 hw, wx_s6_4 hw, wx_N11 hw, wx_a11 hw, wx_g6_5 hw, wx_s6_5 hw, wx_N12 hw, wx_a12 hw, wx_g6_6 hw, wx_s6_6 hw, wx_N13 hw, wx_a13 hw, wx_g6_7 hw, wx_s6_7 hw, wx_N14 hw, wx_a14 hw, List.not_mem_nil, false_implies, implies_true, nI_clamp, nI_add, Nat.reducePow, hp_bd, hp_bdi, hp_ts, hp_tn, hp_tsc, hp_tnc, Nat.reduceAdd, Nat.reduceSub, Nat.reduceMul, Nat.reduceLT, Nat.reduceLeDiff, Nat.reduceEqDiff, reduceIte, not_true_eq_false, not_false_eq_true, and_true, true_and, and_self, and_false, false_and, or_true, true_or, or_false, false_or, decide_true, decide_false, Bool.and_true, Bool.true_and, Bool.not_false, Bool.or_false, Bool.false_or, Bool.or_true, Bool.true_or, a1, a4, c1, c3]
  rcases kw_d (n := 99) (m := 100) rfl (by decide) z with ⟨ez, g1, g2, g3, g4, g5, g6⟩ | ⟨ez, g1, g2, g3, g4, g5, g6⟩ | ⟨w, hw9, ez, rfl, g1, g2, g3, g4, g5, g6⟩
  · have eo : op_0 G (nI k) (nI v) z = (-2, G) := by unfold op_0; simp only [ex, ey, ez]
    rw [eo]
    refine oC_id hR ?_
    simp only [b73_0, b73_4, b73_10, b73_12, b73_16, b73_22, b73_26, b73_32, b73_35, b73_47, b73_50, b73_71, b73_74, e73, wx_o0 hw, wx_k0 hw, wx_q0 hw, wx_g0_0 hw, wx_s0_0 hw, wx_g0_1 hw, wx_s0_1 hw, wx_g0_2 hw, wx_s0_2 hw, wx_g0_3 hw, wx_s0_3 hw, wx_g0_4 hw, wx_s0_4 hw, wx_N42 hw, wx_a42 hw, wx_K42 hw, wx_g0_5 hw, wx_s0_5 hw, wx_g0_6 hw, wx_s0_6 hw, wx_N75 hw, wx_a75 hw, wx_K75 hw, wx_g0_7 hw, wx_s0_7 hw, wx_N88 hw, wx_a88 hw, wx_g0_8 hw, wx_s0_8 hw, wx_N89 hw, wx_a89 hw, wx_g0_9 hw, wx_s0_9 hw, wx_N90 hw, wx_a90 hw, wx_g0_10 hw, wx_s0_10 hw, wx_N91 hw, wx_a91 hw, wx_o6 hw, wx_k6 hw, wx_q6 hw, wx_g6_0 hw, wx_s6_0 hw, wx_N7 hw, wx_a7 hw, wx_K7 hw, wx_g6_1 hw, wx_s6_1 hw, wx_N8 hw, wx_a8 hw, wx_g6_2 hw, wx_s6_2 hw, wx_N9 hw, wx_a9 hw, wx_g6_3 hw, wx_s6_3 hw, wx_N10 hw, wx_a10 hw, wx_g6_4 hw, wx_s6_4 hw, wx_N11 hw, wx_a11 hw, wx_g6_5 hw, wx_s6_5 hw, wx_N12 hw, wx_a12 hw, wx_g6_6 hw, wx_s6_6 hw, wx_N13 hw, wx_a13 hw, wx_g6_7 hw, wx_s6_7 hw, wx_N14 hw, wx_a14 hw, List.not_mem_nil, false_implies, implies_true, nI_clamp, nI_add, Nat.reducePow, hp_bd, hp_bdi, hp_ts, hp_tn, hp_tsc, hp_tnc, Nat.reduceAdd, Nat.reduceSub, Nat.reduceMul, Nat.reduceLT, Nat.reduceLeDiff, Nat.reduceEqDiff, reduceIte, not_true_eq_false, not_false_eq_true, and_true, true_and, and_self, and_false, false_and, or_true, true_or, or_false, false_or, decide_true, decide_false, Bool.and_true, Bool.true_and, Bool.not_false, Bool.or_false, Bool.false_or, Bool.or_true, Bool.true_or, a1, a4, c1, c3, g1]
  · have eo : op_0 G (nI k) (nI v) z = (-2, G) := by unfold op_0; simp only [ex, ey, ez]
    rw [eo]
    refine oC_id hR ?_
    simp only [b73_0, b73_4, b73_10, b73_12, b73_16, b73_22, b73_26, b73_32, b73_35, b73_47, b73_50, b73_71, b73_74, e73, wx_o0 hw, wx_k0 hw, wx_q0 hw, wx_g0_0 hw, wx_s0_0 hw, wx_g0_1 hw, wx_s0_1 hw, wx_g0_2 hw, wx_s0_2 hw, wx_g0_3 hw, wx_s0_3 hw, wx_g0_4 hw, wx_s0_4 hw, wx_N42 hw, wx_a42 hw, wx_K42 hw, wx_g0_5 hw, wx_s0_5 hw, wx_g0_6 hw, wx_s0_6 hw, wx_N75 hw, wx_a75 hw, wx_K75 hw, wx_g0_7 hw, wx_s0_7 hw, wx_N88 hw, wx_a88 hw, wx_g0_8 hw, wx_s0_8 hw, wx_N89 hw, wx_a89 hw, wx_g0_9 hw, wx_s0_9 hw, wx_N90 hw, wx_a90 hw, wx_g0_10 hw, wx_s0_10 hw, wx_N91 hw, wx_a91 hw, wx_o6 hw, wx_k6 hw, wx_q6 hw, wx_g6_0 hw, wx_s6_0 hw, wx_N7 hw, wx_a7 hw, wx_K7 hw, wx_g6_1 hw, wx_s6_1 hw, wx_N8 hw, wx_a8 hw, wx_g6_2 hw, wx_s6_2 hw, wx_N9 hw, wx_a9 hw, wx_g6_3 hw, wx_s6_3 hw, wx_N10 hw, wx_a10 hw, wx_g6_4 hw, wx_s6_4 hw, wx_N11 hw, wx_a11 hw, wx_g6_5 hw, wx_s6_5 hw, wx_N12 hw, wx_a12 hw, wx_g6_6 hw, wx_s6_6 hw, wx_N13 hw, wx_a13 hw, wx_g6_7 hw, wx_s6_7 hw, wx_N14 hw, wx_a14 hw, List.not_mem_nil, false_implies, implies_true, nI_clamp, nI_add, Nat.reducePow, hp_bd, hp_bdi, hp_ts, hp_tn, hp_tsc, hp_tnc, Nat.reduceAdd, Nat.reduceSub, Nat.reduceMul, Nat.reduceLT, Nat.reduceLeDiff, Nat.reduceEqDiff, reduceIte, not_true_eq_false, not_false_eq_true, and_true, true_and, and_self, and_false, false_and, or_true, true_or, or_false, false_or, decide_true, decide_false, Bool.and_true, Bool.true_and, Bool.not_false, Bool.or_false, Bool.false_or, Bool.or_true, Bool.true_or, a1, a4, c1, c3, g1, g4]
  by_cases h6 : gK G = 6
  · have eo : op_0 G (nI k) (nI v) (nI w) = (-4, G) := by unfold op_0; simp only [ex, ey, ez, h6, if_true]
    rw [eo]
    refine oC_id hR ?_
    have q : (nI 6 < nI 6) = False := eq_false (nI_nlt (Nat.le_refl _) (by decide))
    rw [h6] at hkn
    simp only [b73_0, b73_4, b73_10, b73_12, b73_16, b73_22, b73_26, b73_32, b73_35, b73_47, b73_50, b73_71, b73_74, e73, wx_o0 hw, wx_k0 hw, wx_q0 hw, wx_g0_0 hw, wx_s0_0 hw, wx_g0_1 hw, wx_s0_1 hw, wx_g0_2 hw, wx_s0_2 hw, wx_g0_3 hw, wx_s0_3 hw, wx_g0_4 hw, wx_s0_4 hw, wx_N42 hw, wx_a42 hw, wx_K42 hw, wx_g0_5 hw, wx_s0_5 hw, wx_g0_6 hw, wx_s0_6 hw, wx_N75 hw, wx_a75 hw, wx_K75 hw, wx_g0_7 hw, wx_s0_7 hw, wx_N88 hw, wx_a88 hw, wx_g0_8 hw, wx_s0_8 hw, wx_N89 hw, wx_a89 hw, wx_g0_9 hw, wx_s0_9 hw, wx_N90 hw, wx_a90 hw, wx_g0_10 hw, wx_s0_10 hw, wx_N91 hw, wx_a91 hw, wx_o6 hw, wx_k6 hw, wx_q6 hw, wx_g6_0 hw, wx_s6_0 hw, wx_N7 hw, wx_a7 hw, wx_K7 hw, wx_g6_1 hw, wx_s6_1 hw, wx_N8 hw, wx_a8 hw, wx_g6_2 hw, wx_s6_2 hw, wx_N9 hw, wx_a9 hw, wx_g6_3 hw, wx_s6_3 hw, wx_N10 hw, wx_a10 hw, wx_g6_4 hw, wx_s6_4 hw, wx_N11 hw, wx_a11 hw, wx_g6_5 hw, wx_s6_5 hw, wx_N12 hw, wx_a12 hw, wx_g6_6 hw, wx_s6_6 hw, wx_N13 hw, wx_a13 hw, wx_g6_7 hw, wx_s6_7 hw, wx_N14 hw, wx_a14 hw, List.not_mem_nil, false_implies, implies_true, nI_clamp, nI_add, Nat.reducePow, hp_bd, hp_bdi, hp_ts, hp_tn, hp_tsc, hp_tnc, Nat.reduceAdd, Nat.reduceSub, Nat.reduceMul, Nat.reduceLT, Nat.reduceLeDiff, Nat.reduceEqDiff, reduceIte, not_true_eq_false, not_false_eq_true, and_true, true_and, and_self, and_false, false_and, or_true, true_or, or_false, false_or, decide_true, decide_false, Bool.and_true, Bool.true_and, Bool.not_false, Bool.or_false, Bool.false_or, Bool.or_true, Bool.true_or, a1, a4, c1, c3, g1, g4, hkn, q]
  have eo : op_0 G (nI k) (nI v) (nI w) = (nI (gK G), gX_new G.1 k v w, G.2) := by unfold op_0; simp only [ex, ey, ez, h6, if_false]
  have hl := new_len ok h6
  have k111 := s111 (d := d) (j := k) (x1 := nI (gK G)) (x2 := nI v) (x3 := nI w) hn (by omega)
  have hS : 137 ≤ mm_n S := hw.1
  -- the new one
  have ckk : mk_ck k = cd_kc k := rfl
  generalize hN : mk_nb S k (nI (gK G)) (nI v) (nI w) = N at k111
  have nM : ∀ c j, c ≠ mm_n S → mm_M N c j = mm_M S c j := by
    intro c j h
    rw [← hN]
    show mm_M (mm_uM (mm_uM (mm_uM (mm_uM (mm_nw S (mk_ck k) 4) (mm_n S) 0 _) (mm_n S) 1 _) (mm_n S) 2 _) (mm_n S) 3 _) c j = _
    rw [rdn (fun e => h e.1), rdn (fun e => h e.1), rdn (fun e => h e.1), rdn (fun e => h e.1), hn_M, if_neg h]
  have nR : ∀ c j, c ≠ mm_n S → mm_R N c j = mm_R S c j := by
    intro c j h
    rw [← hN]
    show mm_R (mm_nw S (mk_ck k) 4) c j = _
    rw [hn_R, if_neg h]
  have nL : ∀ c j, c ≠ mm_n S → mm_L N c j = mm_L S c j := by
    intro c j h
    rw [← hN]
    show mm_L (mm_nw S (mk_ck k) 4) c j = _
    rw [hn_L, if_neg h]
  have nK : ∀ c, mm_K N c = if c = mm_n S then mk_ck k else mm_K S c := by
    intro c
    rw [← hN]
    show mm_K (mm_nw S (mk_ck k) 4) c = _
    rw [hn_K]
  have nN : ∀ c, c ≠ mm_n S → mm_N N c = mm_N S c := by
    intro c h
    rw [← hN]
    show mm_N (mm_nw S (mk_ck k) 4) c = _
    rw [hn_N, if_neg h]
  have nn : mm_n N = mm_n S + 1 := by rw [← hN]; rfl
  have nz : mm_z N = mm_z S + 4 := by rw [← hN]; rfl
  have nb : mm_M N (mm_n S) 0 = nI k ∧ mm_M N (mm_n S) 1 = nI (gK G) ∧ mm_M N (mm_n S) 2 = nI v ∧ mm_M N (mm_n S) 3 = nI w := by
    rw [← hN]
    refine ⟨?_, ?_, ?_, ?_⟩
    · exact (rdn (by omega)).trans ((rdn (by omega)).trans ((rdn (by omega)).trans rds))
    · exact (rdn (by omega)).trans ((rdn (by omega)).trans rds)
    · exact (rdn (by omega)).trans rds
    · exact rds
  have fN : sf_f (gc_6n (mm_n S)) S N := by
    refine ⟨fun c j h => ?_, fun c h => ?_, by omega⟩
    · have h2 : c ≠ mm_n S := by unfold gc_6n at h; omega
      exact ⟨nM c j h2, nL c j h2, nR c j h2⟩
    · exact ⟨by rw [nK, if_neg (by omega)], nN c (by omega)⟩
  have wN : mm_W N := by
    obtain ⟨h1, h2, h3⟩ := hw
    refine ⟨by omega, fun a ha => ?_, fun a j b e => ?_⟩
    · exact ⟨by rw [nK, if_neg (by omega)]; exact (h2 a ha).1, by rw [nN a (by omega)]; exact (h2 a ha).2⟩
    · have := (tr_lt e).1
      rw [nR a j (by omega)]
      exact h3 a j b e
  have yN : cd_by N (mm_n S) (gK G) k v w := ⟨hS, by omega, by rw [nK, if_pos rfl, ckk], nb.1, nb.2.1, nb.2.2.1, nb.2.2.2⟩
  have oN := by_o hk7 yN
  have kN : mm_M N 6 10 = nI (gK G) := (nM _ _ (by omega)).trans hkn
  have tN : mm_M N 6 11 = nI (ab_row (gD G)).length := (nM _ _ (by omega)).trans hR.2.1.2.1.1
  have wU : mm_W (mm_uR N (6 + 1) (gK G) (some (mm_n S))) := by
    obtain ⟨h1, h2, h3⟩ := wN
    refine ⟨h1, h2, fun a j b e => ?_⟩
    rw [hp_RuR, if_neg]
    · exact h3 a j b e
    · rintro ⟨rfl, -⟩
      cases e
  have k9 := s9 (d := d + 3) wN dy6 kN (by omega) tN hl oN wU
  rw [eo]
  have key : mm_cl (d + 5) 73 [.ref 0, .int (nI k), .int (nI v), .int (nI w)] S = some (some (.int (nI (gK G))), mk_we N 6 (mm_n S) (gK G) (ab_row (gD G)).length) := by
    have q : (nI (gK G) < nI 6) = True := eq_true (nI_lt (by omega) (by decide))
    rw [e73, b73_0, if_neg (of_eq_false a1), b73_4, if_pos (of_eq_true a4), b73_12, if_neg (of_eq_false c1), b73_16, if_neg (of_eq_false c3), b73_22, if_neg (of_eq_false g1), b73_26, if_pos (of_eq_true g4), b73_35 (wx_o0 hw) (wx_s0_0 hw) (by rw [wx_g0_0 hw]; exact wx_o6 hw), wx_g0_0 hw, hkn, if_pos (of_eq_true q), b73_50 (wx_o0 hw) (wx_s0_0 hw) (by rw [wx_g0_0 hw]; exact wx_o6 hw), wx_g0_0 hw, hkn, k111, hp_bd, hp_tsc, b73_71 (wx_k6 wN), k9, hp_bd, hp_tn, b73_74]
  generalize hV : mk_we N 6 (mm_n S) (gK G) (ab_row (gD G)).length = V at key
  have vM : ∀ c j, mm_M V c j = if c = 6 ∧ j = 11 then nI ((ab_row (gD G)).length + 1) else if c = 12 ∧ j = (ab_row (gD G)).length then nI (gK G) else if c = 6 ∧ j = 10 then nI (gK G + 1) else if c = 11 ∧ j = gK G then nI 0 else if c = 10 ∧ j = gK G then nI 0 else if c = 9 ∧ j = gK G * 3 + 2 then nI 0 else if c = 9 ∧ j = gK G * 3 + 1 then nI 0 else if c = 9 ∧ j = gK G * 3 + 0 then nI 0 else if c = 8 ∧ j = gK G then -1 else mm_M N c j := by
    intro c j
    rw [← hV]
    unfold mk_we
    rw [hp_MuM, hp_MuM, hp_MuM, hp_MuM, hp_MuM, hp_MuM, hp_MuM, hp_MuM, hp_MuM]
    rfl
  have vR : ∀ c j, mm_R V c j = if c = 7 ∧ j = gK G then some (mm_n S) else mm_R N c j := by
    intro c j
    rw [← hV]
    show mm_R (mm_uR N (6 + 1) (gK G) (some (mm_n S))) c j = _
    rw [hp_RuR]
  have vL : mm_L V = mm_L N := by rw [← hV]; rfl
  have vK : mm_K V = mm_K N := by rw [← hV]; rfl
  have vN : mm_N V = mm_N N := by rw [← hV]; rfl
  have vn : mm_n V = mm_n N := by rw [← hV]; rfl
  have vz : mm_z V = mm_z N := by rw [← hV]; rfl
  have wV : mm_W V := by rw [← hV]; exact wU
  have fV : sf_f gc_6 N V := by
    refine ⟨fun c j h => ?_, fun c _ => ⟨by rw [vK], by rw [vN]⟩, by rw [vn]; exact Nat.le_refl _⟩
    unfold gc_6 at h
    refine ⟨?_, by rw [vL], ?_⟩
    · rw [vM]
      have h6 : ¬ c = 6 := by omega
      have h12 : ¬ c = 12 := by omega
      have h11 : ¬ c = 11 := by omega
      have h10 : ¬ c = 10 := by omega
      have h9 : ¬ c = 9 := by omega
      have h8 : ¬ c = 8 := by omega
      simp only [h6, h12, h11, h10, h9, h8, false_and, if_false]
    · rw [vR, if_neg (by omega)]
  have f : sf_f (gc_6n (mm_n S)) S V := sf_tr fN (sf_mo fV (fun c j h => Or.inl h))
  have yV : ∀ e b k v w, e ≠ mm_n S → cd_by S e b k v w → cd_by V e b k v w := by
    intro e b k v w he hy
    refine tr_by f (fun j _ h => ?_) hy
    have h1 := hy.1
    have h2 := hy.2.1
    unfold gc_6n at h
    omega
  have yV2 : cd_by V (mm_n S) (gK G) k v w := tr_by fV (fun j _ h => by unfold gc_6 at h; omega) yN
  have g6 : ∀ j, j ≠ 10 → j ≠ 11 → mm_M V 6 j = mm_M S 6 j := by
    intro j h1 h2
    rw [vM]
    simp +decide only [h1, h2, and_false, if_false, false_and]
    exact nM _ _ (by omega)
  refine ⟨V, key, RC_6n ok f wV hR ?_ ?_, sf_mo f (fun c j h => by unfold gc_6n at h; unfold gc_0; omega), ⟨by omega, by omega⟩⟩
  · obtain ⟨⟨p1, p2, p3, p4, p5, s, p6, p7, p8⟩, ⟨h1, h2, h3, h4, h5, h6, h7, h8⟩, q1, q2, q3, q4⟩ := hR.2.1
    have hs6 : ∀ m, m ≤ 4 → ∀ i, mm_M V (s + m) i = mm_M S (s + m) i := fun m hm i => (f.1 _ _ (fun h => by unfold gc_6n at h; unfold mm_sh at p7; omega)).1
    refine ⟨⟨?_, (g6 _ (by decide) (by decide)).trans p2, fun i hi => ?_, fun i hi => ?_, fun i hi => ?_, s, ?_, p7, fr_cs hs6 p8⟩, ⟨?_, fun i hi => ?_, fun i hi => ?_, fun i hi => ?_, (g6 _ (by decide) (by decide)).trans h5, (g6 _ (by decide) (by decide)).trans h6, (g6 _ (by decide) (by decide)).trans h7, (g6 _ (by decide) (by decide)).trans h8⟩, (g6 _ (by decide) (by decide)).trans q1, (g6 _ (by decide) (by decide)).trans q2, fun i hi => ?_, ?_⟩
    · rw [vM]; rfl
    · show mm_M V 8 i = cd_fo (ab_up1 (ab_fr (gP G)) (gK G) none i)
      rw [vM]
      unfold ab_up1
      by_cases h : i = gK G
      · simp +decide only [h, if_true, if_false, and_true, and_false, false_and]
      · simp +decide only [h, if_false, and_false, false_and]
        exact (nM _ _ (by omega)).trans (p3 i (by have hi : i < gK G + 1 := hi; have : i < gK G := (by omega); exact this))
    · show mm_M V 9 i = nI (ab_up1 (ab_up1 (ab_up1 (ab_te (gP G)) (3 * gK G) 0) (3 * gK G + 1) 0) (3 * gK G + 2) 0 i)
      have hi : i < 3 * (gK G + 1) := hi
      rw [vM]
      unfold ab_up1
      by_cases h2 : i = 3 * gK G + 2
      · have e2 : i = gK G * 3 + 2 := by omega
        rw [if_pos h2]
        simp +decide only [e2, if_true, if_false, and_true, and_false, false_and]
      rw [if_neg h2]
      by_cases h1 : i = 3 * gK G + 1
      · have e1 : i = gK G * 3 + 1 := by omega
        have n2 : ¬ gK G * 3 + 1 = gK G * 3 + 2 := by omega
        rw [if_pos h1]
        simp +decide only [e1, n2, if_true, if_false, and_true, and_false, false_and]
      rw [if_neg h1]
      by_cases h0 : i = 3 * gK G
      · have e0 : i = gK G * 3 + 0 := by omega
        have n2 : ¬ gK G * 3 + 0 = gK G * 3 + 2 := by omega
        have n1 : ¬ gK G * 3 + 0 = gK G * 3 + 1 := by omega
        rw [if_pos h0]
        simp +decide only [e0, n1, n2, if_true, if_false, and_true, and_false, false_and]
      rw [if_neg h0]
      have e2 : ¬ i = gK G * 3 + 2 := by omega
      have e1 : ¬ i = gK G * 3 + 1 := by omega
      have e0 : ¬ i = gK G * 3 + 0 := by omega
      simp +decide only [e0, e1, e2, if_false, and_false, false_and]
      exact (nM _ _ (by omega)).trans (p4 i (by have : i < 3 * gK G := (by omega); exact this))
    · show ∃ e, mm_R V 7 i = some e ∧ cd_by V e i (ab_up1 (ab_ki (gP G)) (gK G) k i) (ab_up1 (ab_v (gP G)) (gK G) v i) (ab_up1 (ab_wo (gP G)) (gK G) w i)
      have hi : i < gK G + 1 := hi
      unfold ab_up1
      by_cases h : i = gK G
      · subst h
        rw [if_pos rfl, if_pos rfl, if_pos rfl]
        exact ⟨mm_n S, by rw [vR, if_pos ⟨rfl, rfl⟩], yV2⟩
      · rw [if_neg h, if_neg h, if_neg h]
        obtain ⟨e, he, hy⟩ := p5 i (by have : i < gK G := (by omega); exact this)
        have := hy.2.1
        refine ⟨e, ?_, yV e _ _ _ _ (by omega) hy⟩
        rw [vR, if_neg (fun q => h q.2), nR _ _ (by omega)]
        exact he
    · rw [vR, if_neg (by omega), nR _ _ (by omega)]; exact p6
    · rw [vM, if_pos ⟨rfl, rfl⟩]
      show _ = nI (ab_row (gD G) ++ [gK G]).length
      rw [List.length_append]; rfl
    · have hi : i < (ab_row (gD G) ++ [gK G]).length := hi
      rw [List.length_append] at hi
      show mm_M V 12 i = nI ((ab_row (gD G) ++ [gK G]).getD i 0)
      rw [vM]
      by_cases e : i = (ab_row (gD G)).length
      · rw [e, List.getD_eq_getElem?_getD, List.getElem?_append_right (Nat.le_refl _), Nat.sub_self]
        simp +decide only [if_true, if_false, and_true, and_false, false_and]
        rfl
      · have hi2 : i < (ab_row (gD G)).length := by
          have : [gK G].length = 1 := rfl
          omega
        simp +decide only [e, if_false, and_false, false_and]
        rw [List.getD_eq_getElem?_getD, List.getElem?_append_left hi2, ← List.getD_eq_getElem?_getD]
        exact (nM _ _ (by omega)).trans (h2 i hi2)
    · show mm_M V 10 i = nI (ab_up1 (ab_aw (gD G)) (gK G) 0 i)
      have hi : i < gK G + 1 := hi
      rw [vM]
      unfold ab_up1
      by_cases h : i = gK G
      · simp +decide only [h, if_true, if_false, and_true, and_false, false_and]
      · simp +decide only [h, if_false, and_false, false_and]
        exact (nM _ _ (by omega)).trans (h3 i (by have : i < gK G := (by omega); exact this))
    · show mm_M V 11 i = ab_up1 (ab_ga (gD G)) (gK G) (nI 0) i
      have hi : i < gK G + 1 := hi
      rw [vM]
      unfold ab_up1
      by_cases h : i = gK G
      · simp +decide only [h, if_true, if_false, and_true, and_false, false_and]
      · simp +decide only [h, if_false, and_false, false_and]
        exact (nM _ _ (by omega)).trans (h4 i (by have : i < gK G := (by omega); exact this))
    · rw [show (6 + 7) = 13 from rfl, vM]
      simp +decide only [if_false, false_and]
      exact (nM _ _ (by omega)).trans (q3 i hi)
    · rw [vR, if_neg (by omega), nR _ _ (by omega)]; exact q4
  · obtain ⟨h1, s, h2, h3⟩ := hR.2.2.1
    refine ⟨fun i hi e he => ?_, s, h2, ?_⟩
    · rw [show (6 + 1) = 7 from rfl, vR] at he
      by_cases h : i = gK G
      · rw [if_pos ⟨rfl, h⟩] at he
        cases he
        exact tr_o fV oN
      · rw [if_neg (fun q => h q.2), nR _ _ (by omega)] at he
        exact tr_o f (h1 i hi e he)
    · rw [vR, if_neg (by omega), nR _ _ (by omega)]; exact h3
end NBY
