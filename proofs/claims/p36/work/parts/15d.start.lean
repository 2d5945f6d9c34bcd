theorem sm_uRo {S : mm_S} {a b j : Nat} {v : Option Nat} (hab : b ≠ a) : mm_sm S (mm_uR S a j v) b := ⟨rfl, rfl, fun _ => rfl, fun i => by rw [hp_RuR, if_neg (fun e => hab e.1)]⟩
theorem sm_nwo {S : mm_S} {t n b : Nat} (e : b ≠ mm_n S) : mm_sm S (mm_nw S t n) b := ⟨by rw [hn_K, if_neg e], by rw [hn_N, if_neg e], fun j => by rw [hn_M, if_neg e], fun j => by rw [hn_R, if_neg e]⟩
theorem sm_rfl {S : mm_S} {b : Nat} : mm_sm S S b := ⟨rfl, rfl, fun _ => rfl, fun _ => rfl⟩
theorem tb_uRo {S : mm_S} {a b j : Nat} {v : Option Nat} (h : mm_Tb S b) (hab : b ≠ a) : mm_Tb (mm_uR S a j v) b := mm_Tb_sm (S := S) ⟨rfl, rfl, fun _ => rfl, fun i => by rw [hp_RuR, if_neg (fun e => hab e.1)]⟩ h
theorem tb_C0 {S : mm_S} {a : Nat} {m : List (Nat × Int32)} {l : List (Nat × Option Nat)} (h : mm_C0 a (mm_tK a) (mm_tN a) m S l) (hm : ∀ q ∈ mm_tQ a, q ∈ m) (hl : ∀ q ∈ mm_tP a, q ∈ l) : mm_Tb S a := ⟨h.1, h.2.1, fun q hq => h.2.2.1 q (hm q hq), fun q hq => h.2.2.2 q (hl q hq)⟩
theorem c0_r {S : mm_S} {a t n : Nat} {m : List (Nat × Int32)} {l : List (Nat × Option Nat)} (h : mm_C0 a t n m S l) (q : Nat × Option Nat) (hq : q ∈ l) : mm_R S a q.1 = q.2 := h.2.2.2 q hq
set_option maxRecDepth 20000 in
set_option maxHeartbeats 4000000 in
theorem ct72 {S : mm_S} {d : Nat} (hn : mm_n S = 0) : ∃ S', mm_cl (d + 3) 72 [.ref 0] (mm_nw S 11 13) = some (none, S') ∧ mm_n S' = 92 ∧ mm_z S' = mm_z S + 1874 ∧ (∀ b, b < 92 → mm_Tb S' b) ∧ mm_sm (mm_nw S 11 13) S' mm_SC := by
  have U0 : mm_Up 1 (mm_nw S 11 13) := up_nw (k := 0) ⟨hn, fun b hb => absurd hb (Nat.not_lt_zero b)⟩ (Or.inl (Or.inl rfl))
  have C0 : mm_C0 0 11 13 [(11, nI 0), (12, nI 0)] (mm_nw S 11 13) [] := by
    have := c0_new (S := S) (t := 11) (n := 13) (m := [(11, nI 0), (12, nI 0)]) (by intro q hq; simp at hq; rcases hq with rfl | rfl <;> rfl)
    rwa [hn] at this
  have z0 : mm_z (mm_nw S 11 13) = mm_z S + 13 := rfl
  generalize mm_nw S 11 13 = T0 at U0 C0 z0 ⊢
  have s0 : mm_sm T0 T0 mm_SC := sm_rfl
  have o0 : mm_n T0 = 1 := U0.1
  have h1 : ∃ T', mm_ex (d + 3) 72 0 [.ref 0, .null, .null] [] T0 = mm_ex (d + 3) 72 11 [.ref 0, .null, .null] [.ref 1] T' ∧ mm_Up 6 T' ∧ mm_C0 0 11 13 [(11, nI 0), (12, nI 0)] T' [] ∧ mm_z T' = mm_z S + 153 ∧ mm_sm T0 T' mm_SC := by
    obtain ⟨S1, r, V, zr, f⟩ := up_shop_1 (d := d) U0
    have D1 := c0_sm C0 (f 0 (by decide))
    have ho := c0_o (f := 11) D1 (by rw [V.1]; decide) (by decide) rfl
    have hv := V.1
    have hq := nw_q (t := 6) (n := mm_NF 6) U0.1 (by decide)
    have hu := U0.1
    refine ⟨S1, ?_, V, D1, ?_, (mm_sm_trans s0 (f mm_SC (Or.inr (by decide))))⟩
    · simp +decide only [b72_0, b72_7, r, ho, hv, hq, hu, hp_MuM, hp_LuL, hp_RuR, hp_McpM, hp_LcpL, hp_LuM, hp_RuM, hp_KuM, hp_NuM, hp_nuM, hp_zuM, hp_ouM, hp_auM, hp_kuM, hp_guM, hp_MuL, hp_RuL, hp_KuL, hp_NuL, hp_nuL, hp_zuL, hp_ouL, hp_auL, hp_kuL, hp_guL, hp_MuR, hp_LuR, hp_KuR, hp_NuR, hp_nuR, hp_zuR, hp_ouR, hp_auR, hp_kuR, hp_LcpM, hp_RcpM, hp_KcpM, hp_NcpM, hp_ncpM, hp_zcpM, hp_ocpM, hp_acpM, hp_kcpM, hp_gcpM, hp_McpL, hp_RcpL, hp_KcpL, hp_NcpL, hp_ncpL, hp_zcpL, hp_ocpL, hp_acpL, hp_kcpL, hp_gcpL, hp_MwM, hp_LwM, hp_RwM, hp_KwM, hp_NwM, hp_nwM, hp_zwM, hp_owM, hp_awM, hp_kwM, hp_gwM, hp_MwR, hp_LwR, hp_RwR, hp_KwR, hp_NwR, hp_nwR, hp_zwR, hp_owR, hp_awR, hp_kwR, hp_MwL, hp_LwL, hp_RwL, hp_KwL, hp_NwL, hp_nwL, hp_zwL, hp_owL, hp_awL, hp_kwL, hp_gwL, hp_w2M, hp_w2R, hp_w2L, hn_n, hn_K, hn_z, hp_nuR, nI_add, List.not_mem_nil, false_implies, implies_true, nI_clamp, Nat.reducePow, hp_bd, hp_bdi, hp_ts, hp_tn, hp_tsc, hp_tnc, Nat.reduceAdd, Nat.reduceLT, Nat.reduceEqDiff, reduceIte, and_true, true_and, and_self, and_false, false_and, decide_true, decide_false, Bool.and_true, Bool.true_and, Bool.not_false, Bool.or_false, Bool.false_or, Bool.or_true, Bool.true_or]
    · rw [zr, z0]
  obtain ⟨T1, h1, U1, C1, z1, s1⟩ := h1
  have h2 : ∃ T', mm_ex (d + 3) 72 11 [.ref 0, .null, .null] [.ref 1] T1 = mm_ex (d + 3) 72 25 [.ref 0, .ref 1, .null] [.ref 0] T' ∧ mm_Up 15 T' ∧ mm_C0 0 11 13 [(11, nI 0), (12, nI 0)] T' [(0, some 6)] ∧ mm_z T' = mm_z S + 240 ∧ mm_sm T0 T' mm_SC := by
    obtain ⟨S1, r, V, zr, f⟩ := up_day_6 (d := d + 1) U1
    have D1 := c0_sm C1 (f 0 (by decide))
    have ho := c0_o (f := 11) D1 (by rw [V.1]; decide) (by decide) rfl
    have hv := V.1
    have hq := nw_q (t := 1) (n := mm_NF 1) U1.1 (by decide)
    have hu := U1.1
    refine ⟨mm_uR S1 0 0 (some 6), ?_, up_uR V (Or.inl rfl), c0_uR D1 (by decide), ?_, (mm_sm_trans s1 (mm_sm_trans (f mm_SC (Or.inr (by decide))) (sm_uRo (by decide))))⟩
    · simp +decide only [b72_11, b72_16, b72_21, r, ho, hv, hq, hu, hp_MuM, hp_LuL, hp_RuR, hp_McpM, hp_LcpL, hp_LuM, hp_RuM, hp_KuM, hp_NuM, hp_nuM, hp_zuM, hp_ouM, hp_auM, hp_kuM, hp_guM, hp_MuL, hp_RuL, hp_KuL, hp_NuL, hp_nuL, hp_zuL, hp_ouL, hp_auL, hp_kuL, hp_guL, hp_MuR, hp_LuR, hp_KuR, hp_NuR, hp_nuR, hp_zuR, hp_ouR, hp_auR, hp_kuR, hp_LcpM, hp_RcpM, hp_KcpM, hp_NcpM, hp_ncpM, hp_zcpM, hp_ocpM, hp_acpM, hp_kcpM, hp_gcpM, hp_McpL, hp_RcpL, hp_KcpL, hp_NcpL, hp_ncpL, hp_zcpL, hp_ocpL, hp_acpL, hp_kcpL, hp_gcpL, hp_MwM, hp_LwM, hp_RwM, hp_KwM, hp_NwM, hp_nwM, hp_zwM, hp_owM, hp_awM, hp_kwM, hp_gwM, hp_MwR, hp_LwR, hp_RwR, hp_KwR, hp_NwR, hp_nwR, hp_zwR, hp_owR, hp_awR, hp_kwR, hp_MwL, hp_LwL, hp_RwL, hp_KwL, hp_NwL, hp_nwL, hp_zwL, hp_owL, hp_awL, hp_kwL, hp_gwL, hp_w2M, hp_w2R, hp_w2L, hn_n, hn_K, hn_z, hp_nuR, nI_add, List.not_mem_nil, false_implies, implies_true, nI_clamp, Nat.reducePow, hp_bd, hp_bdi, hp_ts, hp_tn, hp_tsc, hp_tnc, Nat.reduceAdd, Nat.reduceLT, Nat.reduceEqDiff, reduceIte, and_true, true_and, and_self, and_false, false_and, decide_true, decide_false, Bool.and_true, Bool.true_and, Bool.not_false, Bool.or_false, Bool.false_or, Bool.or_true, Bool.true_or]
    · rw [hp_zuR, zr, z1]
  obtain ⟨T2, h2, U2, C2, z2, s2⟩ := h2
  have h3 : ∃ T', mm_ex (d + 3) 72 25 [.ref 0, .ref 1, .null] [.ref 0] T2 = mm_ex (d + 3) 72 37 [.ref 0, .ref 1, .null] [.ref 0] T' ∧ mm_Up 24 T' ∧ mm_C0 0 11 13 [(11, nI 0), (12, nI 0)] T' [(1, some 15), (0, some 6)] ∧ mm_z T' = mm_z S + 327 ∧ mm_sm T0 T' mm_SC := by
    obtain ⟨S1, r, V, zr, f⟩ := up_day_15 (d := d + 1) U2
    have D1 := c0_sm C2 (f 0 (by decide))
    have ho := c0_o (f := 11) D1 (by rw [V.1]; decide) (by decide) rfl
    have hv := V.1
    have hq := nw_q (t := 1) (n := mm_NF 1) U2.1 (by decide)
    have hu := U2.1
    refine ⟨mm_uR S1 0 1 (some 15), ?_, up_uR V (Or.inl rfl), c0_uR D1 (by decide), ?_, (mm_sm_trans s2 (mm_sm_trans (f mm_SC (Or.inr (by decide))) (sm_uRo (by decide))))⟩
    · simp +decide only [b72_25, b72_28, b72_33, r, ho, hv, hq, hu, hp_MuM, hp_LuL, hp_RuR, hp_McpM, hp_LcpL, hp_LuM, hp_RuM, hp_KuM, hp_NuM, hp_nuM, hp_zuM, hp_ouM, hp_auM, hp_kuM, hp_guM, hp_MuL, hp_RuL, hp_KuL, hp_NuL, hp_nuL, hp_zuL, hp_ouL, hp_auL, hp_kuL, hp_guL, hp_MuR, hp_LuR, hp_KuR, hp_NuR, hp_nuR, hp_zuR, hp_ouR, hp_auR, hp_kuR, hp_LcpM, hp_RcpM, hp_KcpM, hp_NcpM, hp_ncpM, hp_zcpM, hp_ocpM, hp_acpM, hp_kcpM, hp_gcpM, hp_McpL, hp_RcpL, hp_KcpL, hp_NcpL, hp_ncpL, hp_zcpL, hp_ocpL, hp_acpL, hp_kcpL, hp_gcpL, hp_MwM, hp_LwM, hp_RwM, hp_KwM, hp_NwM, hp_nwM, hp_zwM, hp_owM, hp_awM, hp_kwM, hp_gwM, hp_MwR, hp_LwR, hp_RwR, hp_KwR, hp_NwR, hp_nwR, hp_zwR, hp_owR, hp_awR, hp_kwR, hp_MwL, hp_LwL, hp_RwL, hp_KwL, hp_NwL, hp_nwL, hp_zwL, hp_owL, hp_awL, hp_kwL, hp_gwL, hp_w2M, hp_w2R, hp_w2L, hn_n, hn_K, hn_z, hp_nuR, nI_add, List.not_mem_nil, false_implies, implies_true, nI_clamp, Nat.reducePow, hp_bd, hp_bdi, hp_ts, hp_tn, hp_tsc, hp_tnc, Nat.reduceAdd, Nat.reduceLT, Nat.reduceEqDiff, reduceIte, and_true, true_and, and_self, and_false, false_and, decide_true, decide_false, Bool.and_true, Bool.true_and, Bool.not_false, Bool.or_false, Bool.false_or, Bool.or_true, Bool.true_or]
    · rw [hp_zuR, zr, z2]
  obtain ⟨T3, h3, U3, C3, z3, s3⟩ := h3
  have h4 : ∃ T', mm_ex (d + 3) 72 37 [.ref 0, .ref 1, .null] [.ref 0] T3 = mm_ex (d + 3) 72 49 [.ref 0, .ref 1, .null] [.ref 0] T' ∧ mm_Up 33 T' ∧ mm_C0 0 11 13 [(11, nI 0), (12, nI 0)] T' [(2, some 24), (1, some 15), (0, some 6)] ∧ mm_z T' = mm_z S + 414 ∧ mm_sm T0 T' mm_SC := by
    obtain ⟨S1, r, V, zr, f⟩ := up_day_24 (d := d + 1) U3
    have D1 := c0_sm C3 (f 0 (by decide))
    have ho := c0_o (f := 11) D1 (by rw [V.1]; decide) (by decide) rfl
    have hv := V.1
    have hq := nw_q (t := 1) (n := mm_NF 1) U3.1 (by decide)
    have hu := U3.1
    refine ⟨mm_uR S1 0 2 (some 24), ?_, up_uR V (Or.inl rfl), c0_uR D1 (by decide), ?_, (mm_sm_trans s3 (mm_sm_trans (f mm_SC (Or.inr (by decide))) (sm_uRo (by decide))))⟩
    · simp +decide only [b72_37, b72_40, b72_45, r, ho, hv, hq, hu, hp_MuM, hp_LuL, hp_RuR, hp_McpM, hp_LcpL, hp_LuM, hp_RuM, hp_KuM, hp_NuM, hp_nuM, hp_zuM, hp_ouM, hp_auM, hp_kuM, hp_guM, hp_MuL, hp_RuL, hp_KuL, hp_NuL, hp_nuL, hp_zuL, hp_ouL, hp_auL, hp_kuL, hp_guL, hp_MuR, hp_LuR, hp_KuR, hp_NuR, hp_nuR, hp_zuR, hp_ouR, hp_auR, hp_kuR, hp_LcpM, hp_RcpM, hp_KcpM, hp_NcpM, hp_ncpM, hp_zcpM, hp_ocpM, hp_acpM, hp_kcpM, hp_gcpM, hp_McpL, hp_RcpL, hp_KcpL, hp_NcpL, hp_ncpL, hp_zcpL, hp_ocpL, hp_acpL, hp_kcpL, hp_gcpL, hp_MwM, hp_LwM, hp_RwM, hp_KwM, hp_NwM, hp_nwM, hp_zwM, hp_owM, hp_awM, hp_kwM, hp_gwM, hp_MwR, hp_LwR, hp_RwR, hp_KwR, hp_NwR, hp_nwR, hp_zwR, hp_owR, hp_awR, hp_kwR, hp_MwL, hp_LwL, hp_RwL, hp_KwL, hp_NwL, hp_nwL, hp_zwL, hp_owL, hp_awL, hp_kwL, hp_gwL, hp_w2M, hp_w2R, hp_w2L, hn_n, hn_K, hn_z, hp_nuR, nI_add, List.not_mem_nil, false_implies, implies_true, nI_clamp, Nat.reducePow, hp_bd, hp_bdi, hp_ts, hp_tn, hp_tsc, hp_tnc, Nat.reduceAdd, Nat.reduceLT, Nat.reduceEqDiff, reduceIte, and_true, true_and, and_self, and_false, false_and, decide_true, decide_false, Bool.and_true, Bool.true_and, Bool.not_false, Bool.or_false, Bool.false_or, Bool.or_true, Bool.true_or]
    · rw [hp_zuR, zr, z3]
  obtain ⟨T4, h4, U4, C4, z4, s4⟩ := h4
  have h5 : ∃ T', mm_ex (d + 3) 72 49 [.ref 0, .ref 1, .null] [.ref 0] T4 = mm_ex (d + 3) 72 63 [.ref 0, .ref 1, .null] [.int (nI 6), .ref 0] T' ∧ mm_Up 42 T' ∧ mm_C0 0 11 13 [(11, nI 0), (12, nI 0)] T' [(3, some 33), (2, some 24), (1, some 15), (0, some 6)] ∧ mm_z T' = mm_z S + 501 ∧ mm_sm T0 T' mm_SC := by
    obtain ⟨S1, r, V, zr, f⟩ := up_day_33 (d := d + 1) U4
    have D1 := c0_sm C4 (f 0 (by decide))
    have ho := c0_o (f := 11) D1 (by rw [V.1]; decide) (by decide) rfl
    have hv := V.1
    have hq := nw_q (t := 1) (n := mm_NF 1) U4.1 (by decide)
    have hu := U4.1
    refine ⟨mm_uR S1 0 3 (some 33), ?_, up_uR V (Or.inl rfl), c0_uR D1 (by decide), ?_, (mm_sm_trans s4 (mm_sm_trans (f mm_SC (Or.inr (by decide))) (sm_uRo (by decide))))⟩
    · simp +decide only [b72_49, b72_52, b72_57, r, ho, hv, hq, hu, hp_MuM, hp_LuL, hp_RuR, hp_McpM, hp_LcpL, hp_LuM, hp_RuM, hp_KuM, hp_NuM, hp_nuM, hp_zuM, hp_ouM, hp_auM, hp_kuM, hp_guM, hp_MuL, hp_RuL, hp_KuL, hp_NuL, hp_nuL, hp_zuL, hp_ouL, hp_auL, hp_kuL, hp_guL, hp_MuR, hp_LuR, hp_KuR, hp_NuR, hp_nuR, hp_zuR, hp_ouR, hp_auR, hp_kuR, hp_LcpM, hp_RcpM, hp_KcpM, hp_NcpM, hp_ncpM, hp_zcpM, hp_ocpM, hp_acpM, hp_kcpM, hp_gcpM, hp_McpL, hp_RcpL, hp_KcpL, hp_NcpL, hp_ncpL, hp_zcpL, hp_ocpL, hp_acpL, hp_kcpL, hp_gcpL, hp_MwM, hp_LwM, hp_RwM, hp_KwM, hp_NwM, hp_nwM, hp_zwM, hp_owM, hp_awM, hp_kwM, hp_gwM, hp_MwR, hp_LwR, hp_RwR, hp_KwR, hp_NwR, hp_nwR, hp_zwR, hp_owR, hp_awR, hp_kwR, hp_MwL, hp_LwL, hp_RwL, hp_KwL, hp_NwL, hp_nwL, hp_zwL, hp_owL, hp_awL, hp_kwL, hp_gwL, hp_w2M, hp_w2R, hp_w2L, hn_n, hn_K, hn_z, hp_nuR, nI_add, List.not_mem_nil, false_implies, implies_true, nI_clamp, Nat.reducePow, hp_bd, hp_bdi, hp_ts, hp_tn, hp_tsc, hp_tnc, Nat.reduceAdd, Nat.reduceLT, Nat.reduceEqDiff, reduceIte, and_true, true_and, and_self, and_false, false_and, decide_true, decide_false, Bool.and_true, Bool.true_and, Bool.not_false, Bool.or_false, Bool.false_or, Bool.or_true, Bool.true_or]
    · rw [hp_zuR, zr, z4]
  obtain ⟨T5, h5, U5, C5, z5, s5⟩ := h5
  have h6 : ∃ T', mm_ex (d + 3) 72 63 [.ref 0, .ref 1, .null] [.int (nI 6), .ref 0] T5 = mm_ex (d + 3) 72 71 [.ref 0, .ref 1, .int (nI 0)] [] T' ∧ mm_Up 43 T' ∧ mm_C0 0 11 13 [(11, nI 0), (12, nI 0)] T' [(4, some 42), (3, some 33), (2, some 24), (1, some 15), (0, some 6)] ∧ mm_z T' = mm_z S + 507 ∧ mm_C0 42 17 6 [] T' [] ∧ mm_sm T0 T' mm_SC := by
    have hu := U5.1
    have D1 := c0_nw (t' := 17) (n' := 6) C5 (by rw [hu]; decide)
    have ho := c0_o (f := 11) D1 (by rw [hn_n, hu]; decide) (by decide) rfl
    refine ⟨mm_uR (mm_nw T5 17 6) 0 4 (some 42), ?_, up_uR (up_nw U5 (Or.inl (by decide))) (Or.inl rfl), c0_uR D1 (by decide), ?_, ?_, (mm_sm_trans s5 (mm_sm_trans (sm_nwo (by rw [hu]; decide)) (sm_uRo (by decide))))⟩
    · simp +decide only [b72_63, b72_66, ho, hu, hp_MuM, hp_LuL, hp_RuR, hp_McpM, hp_LcpL, hp_LuM, hp_RuM, hp_KuM, hp_NuM, hp_nuM, hp_zuM, hp_ouM, hp_auM, hp_kuM, hp_guM, hp_MuL, hp_RuL, hp_KuL, hp_NuL, hp_nuL, hp_zuL, hp_ouL, hp_auL, hp_kuL, hp_guL, hp_MuR, hp_LuR, hp_KuR, hp_NuR, hp_nuR, hp_zuR, hp_ouR, hp_auR, hp_kuR, hp_LcpM, hp_RcpM, hp_KcpM, hp_NcpM, hp_ncpM, hp_zcpM, hp_ocpM, hp_acpM, hp_kcpM, hp_gcpM, hp_McpL, hp_RcpL, hp_KcpL, hp_NcpL, hp_ncpL, hp_zcpL, hp_ocpL, hp_acpL, hp_kcpL, hp_gcpL, hp_MwM, hp_LwM, hp_RwM, hp_KwM, hp_NwM, hp_nwM, hp_zwM, hp_owM, hp_awM, hp_kwM, hp_gwM, hp_MwR, hp_LwR, hp_RwR, hp_KwR, hp_NwR, hp_nwR, hp_zwR, hp_owR, hp_awR, hp_kwR, hp_MwL, hp_LwL, hp_RwL, hp_KwL, hp_NwL, hp_nwL, hp_zwL, hp_owL, hp_awL, hp_kwL, hp_gwL, hp_w2M, hp_w2R, hp_w2L, hn_n, hn_K, hn_z, hp_nuR, nI_add, List.not_mem_nil, false_implies, implies_true, nI_clamp, Nat.reducePow, hp_bd, hp_bdi, hp_ts, hp_tn, hp_tsc, hp_tnc, Nat.reduceAdd, Nat.reduceLT, Nat.reduceEqDiff, reduceIte, and_true, true_and, and_self, and_false, false_and, decide_true, decide_false, Bool.and_true, Bool.true_and, Bool.not_false, Bool.or_false, Bool.false_or, Bool.or_true, Bool.true_or]
    · rw [hp_zuR, hn_z, z5]
    · exact c0_uRo (by have := c0_new (S := T5) (t := 17) (n := 6) (m := []) (by intro q hq; cases hq); rwa [hu] at this) (by decide)
  obtain ⟨T6, h6, U6, C6, z6, E6, s6⟩ := h6
  have h7 : ∃ T', mm_ex (d + 3) 72 71 [.ref 0, .ref 1, .int (nI 0)] [] T6 = mm_ex (d + 3) 72 71 [.ref 0, .ref 1, .int (nI 1)] [] T' ∧ mm_Up 48 T' ∧ mm_C0 0 11 13 [(11, nI 0), (12, nI 0)] T' [(4, some 42), (3, some 33), (2, some 24), (1, some 15), (0, some 6)] ∧ mm_z T' = mm_z S + 647 ∧ mm_C0 42 17 6 [] T' [(0, some 43)] ∧ mm_sm T0 T' mm_SC := by
    obtain ⟨S1, r, V, zr, f⟩ := up_shop_43 (d := d) U6
    have D1 := c0_sm C6 (f 0 (by decide))
    have F1 := c0_sm E6 (f 42 (by decide))
    have ho := c0_o (f := 11) C6 (by rw [U6.1]; decide) (by decide) rfl
    have hR := c0_r C6 (4, some 42) (by decide)
    have hS := hp_rs hR
    have hG := hp_rg hR
    simp only at hS hG
    have hqq := c0_q F1 (by rw [V.1]; decide) (by decide)
    have hN := F1.2.1
    have hK := F1.1
    have hos : mm_obj S1 43 6 = true := by rw [hn_o, V.1, (up_t V (b := 43) (by decide) (by decide)).1]; rfl
    have hib : mm_inb (nI 0) 6 = true := by decide
    have hv := V.1
    have hq := nw_q (t := 6) (n := mm_NF 6) U6.1 (by decide)
    have hu := U6.1
    refine ⟨mm_uR S1 42 0 (some 43), ?_, up_uR V (by decide), c0_uRo D1 (by decide), ?_, c0_uR F1 (by decide), (mm_sm_trans s6 (mm_sm_trans (f mm_SC (Or.inr (by decide))) (sm_uRo (by decide))))⟩
    · simp +decide only [b72_71, b72_77, b72_85, b72_89, (by decide : ¬ nI 6 ≤ nI 0), r, ho, hv, hq, hu, hS, hG, hqq, hN, hK, hos, hib, hp_MuM, hp_LuL, hp_RuR, hp_McpM, hp_LcpL, hp_LuM, hp_RuM, hp_KuM, hp_NuM, hp_nuM, hp_zuM, hp_ouM, hp_auM, hp_kuM, hp_guM, hp_MuL, hp_RuL, hp_KuL, hp_NuL, hp_nuL, hp_zuL, hp_ouL, hp_auL, hp_kuL, hp_guL, hp_MuR, hp_LuR, hp_KuR, hp_NuR, hp_nuR, hp_zuR, hp_ouR, hp_auR, hp_kuR, hp_LcpM, hp_RcpM, hp_KcpM, hp_NcpM, hp_ncpM, hp_zcpM, hp_ocpM, hp_acpM, hp_kcpM, hp_gcpM, hp_McpL, hp_RcpL, hp_KcpL, hp_NcpL, hp_ncpL, hp_zcpL, hp_ocpL, hp_acpL, hp_kcpL, hp_gcpL, hp_MwM, hp_LwM, hp_RwM, hp_KwM, hp_NwM, hp_nwM, hp_zwM, hp_owM, hp_awM, hp_kwM, hp_gwM, hp_MwR, hp_LwR, hp_RwR, hp_KwR, hp_NwR, hp_nwR, hp_zwR, hp_owR, hp_awR, hp_kwR, hp_MwL, hp_LwL, hp_RwL, hp_KwL, hp_NwL, hp_nwL, hp_zwL, hp_owL, hp_awL, hp_kwL, hp_gwL, hp_w2M, hp_w2R, hp_w2L, hn_n, hn_K, hn_z, hp_nuR, nI_add, List.not_mem_nil, false_implies, implies_true, nI_clamp, Nat.reducePow, hp_bd, hp_bdi, hp_ts, hp_tn, hp_tsc, hp_tnc, Nat.reduceAdd, Nat.reduceLT, Nat.reduceEqDiff, reduceIte, and_true, true_and, and_self, and_false, false_and, decide_true, decide_false, Bool.and_true, Bool.true_and, Bool.not_false, Bool.or_false, Bool.false_or, Bool.or_true, Bool.true_or]
    · rw [hp_zuR, zr, z6]
  obtain ⟨T7, h7, U7, C7, z7, E7, s7⟩ := h7
  have h8 : ∃ T', mm_ex (d + 3) 72 71 [.ref 0, .ref 1, .int (nI 1)] [] T7 = mm_ex (d + 3) 72 71 [.ref 0, .ref 1, .int (nI 2)] [] T' ∧ mm_Up 53 T' ∧ mm_C0 0 11 13 [(11, nI 0), (12, nI 0)] T' [(4, some 42), (3, some 33), (2, some 24), (1, some 15), (0, some 6)] ∧ mm_z T' = mm_z S + 787 ∧ mm_C0 42 17 6 [] T' [(1, some 48), (0, some 43)] ∧ mm_sm T0 T' mm_SC := by
    obtain ⟨S1, r, V, zr, f⟩ := up_shop_48 (d := d) U7
    have D1 := c0_sm C7 (f 0 (by decide))
    have F1 := c0_sm E7 (f 42 (by decide))
    have ho := c0_o (f := 11) C7 (by rw [U7.1]; decide) (by decide) rfl
    have hR := c0_r C7 (4, some 42) (by decide)
    have hS := hp_rs hR
    have hG := hp_rg hR
    simp only at hS hG
    have hqq := c0_q F1 (by rw [V.1]; decide) (by decide)
    have hN := F1.2.1
    have hK := F1.1
    have hos : mm_obj S1 48 6 = true := by rw [hn_o, V.1, (up_t V (b := 48) (by decide) (by decide)).1]; rfl
    have hib : mm_inb (nI 1) 6 = true := by decide
    have hv := V.1
    have hq := nw_q (t := 6) (n := mm_NF 6) U7.1 (by decide)
    have hu := U7.1
    refine ⟨mm_uR S1 42 1 (some 48), ?_, up_uR V (by decide), c0_uRo D1 (by decide), ?_, c0_uR F1 (by decide), (mm_sm_trans s7 (mm_sm_trans (f mm_SC (Or.inr (by decide))) (sm_uRo (by decide))))⟩
    · simp +decide only [b72_71, b72_77, b72_85, b72_89, (by decide : ¬ nI 6 ≤ nI 1), r, ho, hv, hq, hu, hS, hG, hqq, hN, hK, hos, hib, hp_MuM, hp_LuL, hp_RuR, hp_McpM, hp_LcpL, hp_LuM, hp_RuM, hp_KuM, hp_NuM, hp_nuM, hp_zuM, hp_ouM, hp_auM, hp_kuM, hp_guM, hp_MuL, hp_RuL, hp_KuL, hp_NuL, hp_nuL, hp_zuL, hp_ouL, hp_auL, hp_kuL, hp_guL, hp_MuR, hp_LuR, hp_KuR, hp_NuR, hp_nuR, hp_zuR, hp_ouR, hp_auR, hp_kuR, hp_LcpM, hp_RcpM, hp_KcpM, hp_NcpM, hp_ncpM, hp_zcpM, hp_ocpM, hp_acpM, hp_kcpM, hp_gcpM, hp_McpL, hp_RcpL, hp_KcpL, hp_NcpL, hp_ncpL, hp_zcpL, hp_ocpL, hp_acpL, hp_kcpL, hp_gcpL, hp_MwM, hp_LwM, hp_RwM, hp_KwM, hp_NwM, hp_nwM, hp_zwM, hp_owM, hp_awM, hp_kwM, hp_gwM, hp_MwR, hp_LwR, hp_RwR, hp_KwR, hp_NwR, hp_nwR, hp_zwR, hp_owR, hp_awR, hp_kwR, hp_MwL, hp_LwL, hp_RwL, hp_KwL, hp_NwL, hp_nwL, hp_zwL, hp_owL, hp_awL, hp_kwL, hp_gwL, hp_w2M, hp_w2R, hp_w2L, hn_n, hn_K, hn_z, hp_nuR, nI_add, List.not_mem_nil, false_implies, implies_true, nI_clamp, Nat.reducePow, hp_bd, hp_bdi, hp_ts, hp_tn, hp_tsc, hp_tnc, Nat.reduceAdd, Nat.reduceLT, Nat.reduceEqDiff, reduceIte, and_true, true_and, and_self, and_false, false_and, decide_true, decide_false, Bool.and_true, Bool.true_and, Bool.not_false, Bool.or_false, Bool.false_or, Bool.or_true, Bool.true_or]
    · rw [hp_zuR, zr, z7]
  obtain ⟨T8, h8, U8, C8, z8, E8, s8⟩ := h8
  have h9 : ∃ T', mm_ex (d + 3) 72 71 [.ref 0, .ref 1, .int (nI 2)] [] T8 = mm_ex (d + 3) 72 71 [.ref 0, .ref 1, .int (nI 3)] [] T' ∧ mm_Up 58 T' ∧ mm_C0 0 11 13 [(11, nI 0), (12, nI 0)] T' [(4, some 42), (3, some 33), (2, some 24), (1, some 15), (0, some 6)] ∧ mm_z T' = mm_z S + 927 ∧ mm_C0 42 17 6 [] T' [(2, some 53), (1, some 48), (0, some 43)] ∧ mm_sm T0 T' mm_SC := by
    obtain ⟨S1, r, V, zr, f⟩ := up_shop_53 (d := d) U8
    have D1 := c0_sm C8 (f 0 (by decide))
    have F1 := c0_sm E8 (f 42 (by decide))
    have ho := c0_o (f := 11) C8 (by rw [U8.1]; decide) (by decide) rfl
    have hR := c0_r C8 (4, some 42) (by decide)
    have hS := hp_rs hR
    have hG := hp_rg hR
    simp only at hS hG
    have hqq := c0_q F1 (by rw [V.1]; decide) (by decide)
    have hN := F1.2.1
    have hK := F1.1
    have hos : mm_obj S1 53 6 = true := by rw [hn_o, V.1, (up_t V (b := 53) (by decide) (by decide)).1]; rfl
    have hib : mm_inb (nI 2) 6 = true := by decide
    have hv := V.1
    have hq := nw_q (t := 6) (n := mm_NF 6) U8.1 (by decide)
    have hu := U8.1
    refine ⟨mm_uR S1 42 2 (some 53), ?_, up_uR V (by decide), c0_uRo D1 (by decide), ?_, c0_uR F1 (by decide), (mm_sm_trans s8 (mm_sm_trans (f mm_SC (Or.inr (by decide))) (sm_uRo (by decide))))⟩
    · simp +decide only [b72_71, b72_77, b72_85, b72_89, (by decide : ¬ nI 6 ≤ nI 2), r, ho, hv, hq, hu, hS, hG, hqq, hN, hK, hos, hib, hp_MuM, hp_LuL, hp_RuR, hp_McpM, hp_LcpL, hp_LuM, hp_RuM, hp_KuM, hp_NuM, hp_nuM, hp_zuM, hp_ouM, hp_auM, hp_kuM, hp_guM, hp_MuL, hp_RuL, hp_KuL, hp_NuL, hp_nuL, hp_zuL, hp_ouL, hp_auL, hp_kuL, hp_guL, hp_MuR, hp_LuR, hp_KuR, hp_NuR, hp_nuR, hp_zuR, hp_ouR, hp_auR, hp_kuR, hp_LcpM, hp_RcpM, hp_KcpM, hp_NcpM, hp_ncpM, hp_zcpM, hp_ocpM, hp_acpM, hp_kcpM, hp_gcpM, hp_McpL, hp_RcpL, hp_KcpL, hp_NcpL, hp_ncpL, hp_zcpL, hp_ocpL, hp_acpL, hp_kcpL, hp_gcpL, hp_MwM, hp_LwM, hp_RwM, hp_KwM, hp_NwM, hp_nwM, hp_zwM, hp_owM, hp_awM, hp_kwM, hp_gwM, hp_MwR, hp_LwR, hp_RwR, hp_KwR, hp_NwR, hp_nwR, hp_zwR, hp_owR, hp_awR, hp_kwR, hp_MwL, hp_LwL, hp_RwL, hp_KwL, hp_NwL, hp_nwL, hp_zwL, hp_owL, hp_awL, hp_kwL, hp_gwL, hp_w2M, hp_w2R, hp_w2L, hn_n, hn_K, hn_z, hp_nuR, nI_add, List.not_mem_nil, false_implies, implies_true, nI_clamp, Nat.reducePow, hp_bd, hp_bdi, hp_ts, hp_tn, hp_tsc, hp_tnc, Nat.reduceAdd, Nat.reduceLT, Nat.reduceEqDiff, reduceIte, and_true, true_and, and_self, and_false, false_and, decide_true, decide_false, Bool.and_true, Bool.true_and, Bool.not_false, Bool.or_false, Bool.false_or, Bool.or_true, Bool.true_or]
    · rw [hp_zuR, zr, z8]
  obtain ⟨T9, h9, U9, C9, z9, E9, s9⟩ := h9
  have h10 : ∃ T', mm_ex (d + 3) 72 71 [.ref 0, .ref 1, .int (nI 3)] [] T9 = mm_ex (d + 3) 72 71 [.ref 0, .ref 1, .int (nI 4)] [] T' ∧ mm_Up 63 T' ∧ mm_C0 0 11 13 [(11, nI 0), (12, nI 0)] T' [(4, some 42), (3, some 33), (2, some 24), (1, some 15), (0, some 6)] ∧ mm_z T' = mm_z S + 1067 ∧ mm_C0 42 17 6 [] T' [(3, some 58), (2, some 53), (1, some 48), (0, some 43)] ∧ mm_sm T0 T' mm_SC := by
    obtain ⟨S1, r, V, zr, f⟩ := up_shop_58 (d := d) U9
    have D1 := c0_sm C9 (f 0 (by decide))
    have F1 := c0_sm E9 (f 42 (by decide))
    have ho := c0_o (f := 11) C9 (by rw [U9.1]; decide) (by decide) rfl
    have hR := c0_r C9 (4, some 42) (by decide)
    have hS := hp_rs hR
    have hG := hp_rg hR
    simp only at hS hG
    have hqq := c0_q F1 (by rw [V.1]; decide) (by decide)
    have hN := F1.2.1
    have hK := F1.1
    have hos : mm_obj S1 58 6 = true := by rw [hn_o, V.1, (up_t V (b := 58) (by decide) (by decide)).1]; rfl
    have hib : mm_inb (nI 3) 6 = true := by decide
    have hv := V.1
    have hq := nw_q (t := 6) (n := mm_NF 6) U9.1 (by decide)
    have hu := U9.1
    refine ⟨mm_uR S1 42 3 (some 58), ?_, up_uR V (by decide), c0_uRo D1 (by decide), ?_, c0_uR F1 (by decide), (mm_sm_trans s9 (mm_sm_trans (f mm_SC (Or.inr (by decide))) (sm_uRo (by decide))))⟩
    · simp +decide only [b72_71, b72_77, b72_85, b72_89, (by decide : ¬ nI 6 ≤ nI 3), r, ho, hv, hq, hu, hS, hG, hqq, hN, hK, hos, hib, hp_MuM, hp_LuL, hp_RuR, hp_McpM, hp_LcpL, hp_LuM, hp_RuM, hp_KuM, hp_NuM, hp_nuM, hp_zuM, hp_ouM, hp_auM, hp_kuM, hp_guM, hp_MuL, hp_RuL, hp_KuL, hp_NuL, hp_nuL, hp_zuL, hp_ouL, hp_auL, hp_kuL, hp_guL, hp_MuR, hp_LuR, hp_KuR, hp_NuR, hp_nuR, hp_zuR, hp_ouR, hp_auR, hp_kuR, hp_LcpM, hp_RcpM, hp_KcpM, hp_NcpM, hp_ncpM, hp_zcpM, hp_ocpM, hp_acpM, hp_kcpM, hp_gcpM, hp_McpL, hp_RcpL, hp_KcpL, hp_NcpL, hp_ncpL, hp_zcpL, hp_ocpL, hp_acpL, hp_kcpL, hp_gcpL, hp_MwM, hp_LwM, hp_RwM, hp_KwM, hp_NwM, hp_nwM, hp_zwM, hp_owM, hp_awM, hp_kwM, hp_gwM, hp_MwR, hp_LwR, hp_RwR, hp_KwR, hp_NwR, hp_nwR, hp_zwR, hp_owR, hp_awR, hp_kwR, hp_MwL, hp_LwL, hp_RwL, hp_KwL, hp_NwL, hp_nwL, hp_zwL, hp_owL, hp_awL, hp_kwL, hp_gwL, hp_w2M, hp_w2R, hp_w2L, hn_n, hn_K, hn_z, hp_nuR, nI_add, List.not_mem_nil, false_implies, implies_true, nI_clamp, Nat.reducePow, hp_bd, hp_bdi, hp_ts, hp_tn, hp_tsc, hp_tnc, Nat.reduceAdd, Nat.reduceLT, Nat.reduceEqDiff, reduceIte, and_true, true_and, and_self, and_false, false_and, decide_true, decide_false, Bool.and_true, Bool.true_and, Bool.not_false, Bool.or_false, Bool.false_or, Bool.or_true, Bool.true_or]
    · rw [hp_zuR, zr, z9]
  obtain ⟨T10, h10, U10, C10, z10, E10, s10⟩ := h10
  have h11 : ∃ T', mm_ex (d + 3) 72 71 [.ref 0, .ref 1, .int (nI 4)] [] T10 = mm_ex (d + 3) 72 71 [.ref 0, .ref 1, .int (nI 5)] [] T' ∧ mm_Up 68 T' ∧ mm_C0 0 11 13 [(11, nI 0), (12, nI 0)] T' [(4, some 42), (3, some 33), (2, some 24), (1, some 15), (0, some 6)] ∧ mm_z T' = mm_z S + 1207 ∧ mm_C0 42 17 6 [] T' [(4, some 63), (3, some 58), (2, some 53), (1, some 48), (0, some 43)] ∧ mm_sm T0 T' mm_SC := by
    obtain ⟨S1, r, V, zr, f⟩ := up_shop_63 (d := d) U10
    have D1 := c0_sm C10 (f 0 (by decide))
    have F1 := c0_sm E10 (f 42 (by decide))
    have ho := c0_o (f := 11) C10 (by rw [U10.1]; decide) (by decide) rfl
    have hR := c0_r C10 (4, some 42) (by decide)
    have hS := hp_rs hR
    have hG := hp_rg hR
    simp only at hS hG
    have hqq := c0_q F1 (by rw [V.1]; decide) (by decide)
    have hN := F1.2.1
    have hK := F1.1
    have hos : mm_obj S1 63 6 = true := by rw [hn_o, V.1, (up_t V (b := 63) (by decide) (by decide)).1]; rfl
    have hib : mm_inb (nI 4) 6 = true := by decide
    have hv := V.1
    have hq := nw_q (t := 6) (n := mm_NF 6) U10.1 (by decide)
    have hu := U10.1
    refine ⟨mm_uR S1 42 4 (some 63), ?_, up_uR V (by decide), c0_uRo D1 (by decide), ?_, c0_uR F1 (by decide), (mm_sm_trans s10 (mm_sm_trans (f mm_SC (Or.inr (by decide))) (sm_uRo (by decide))))⟩
    · simp +decide only [b72_71, b72_77, b72_85, b72_89, (by decide : ¬ nI 6 ≤ nI 4), r, ho, hv, hq, hu, hS, hG, hqq, hN, hK, hos, hib, hp_MuM, hp_LuL, hp_RuR, hp_McpM, hp_LcpL, hp_LuM, hp_RuM, hp_KuM, hp_NuM, hp_nuM, hp_zuM, hp_ouM, hp_auM, hp_kuM, hp_guM, hp_MuL, hp_RuL, hp_KuL, hp_NuL, hp_nuL, hp_zuL, hp_ouL, hp_auL, hp_kuL, hp_guL, hp_MuR, hp_LuR, hp_KuR, hp_NuR, hp_nuR, hp_zuR, hp_ouR, hp_auR, hp_kuR, hp_LcpM, hp_RcpM, hp_KcpM, hp_NcpM, hp_ncpM, hp_zcpM, hp_ocpM, hp_acpM, hp_kcpM, hp_gcpM, hp_McpL, hp_RcpL, hp_KcpL, hp_NcpL, hp_ncpL, hp_zcpL, hp_ocpL, hp_acpL, hp_kcpL, hp_gcpL, hp_MwM, hp_LwM, hp_RwM, hp_KwM, hp_NwM, hp_nwM, hp_zwM, hp_owM, hp_awM, hp_kwM, hp_gwM, hp_MwR, hp_LwR, hp_RwR, hp_KwR, hp_NwR, hp_nwR, hp_zwR, hp_owR, hp_awR, hp_kwR, hp_MwL, hp_LwL, hp_RwL, hp_KwL, hp_NwL, hp_nwL, hp_zwL, hp_owL, hp_awL, hp_kwL, hp_gwL, hp_w2M, hp_w2R, hp_w2L, hn_n, hn_K, hn_z, hp_nuR, nI_add, List.not_mem_nil, false_implies, implies_true, nI_clamp, Nat.reducePow, hp_bd, hp_bdi, hp_ts, hp_tn, hp_tsc, hp_tnc, Nat.reduceAdd, Nat.reduceLT, Nat.reduceEqDiff, reduceIte, and_true, true_and, and_self, and_false, false_and, decide_true, decide_false, Bool.and_true, Bool.true_and, Bool.not_false, Bool.or_false, Bool.false_or, Bool.or_true, Bool.true_or]
    · rw [hp_zuR, zr, z10]
  obtain ⟨T11, h11, U11, C11, z11, E11, s11⟩ := h11
  have h12 : ∃ T', mm_ex (d + 3) 72 71 [.ref 0, .ref 1, .int (nI 5)] [] T11 = mm_ex (d + 3) 72 71 [.ref 0, .ref 1, .int (nI 6)] [] T' ∧ mm_Up 73 T' ∧ mm_C0 0 11 13 [(11, nI 0), (12, nI 0)] T' [(4, some 42), (3, some 33), (2, some 24), (1, some 15), (0, some 6)] ∧ mm_z T' = mm_z S + 1347 ∧ mm_C0 42 17 6 [] T' [(5, some 68), (4, some 63), (3, some 58), (2, some 53), (1, some 48), (0, some 43)] ∧ mm_sm T0 T' mm_SC := by
    obtain ⟨S1, r, V, zr, f⟩ := up_shop_68 (d := d) U11
    have D1 := c0_sm C11 (f 0 (by decide))
    have F1 := c0_sm E11 (f 42 (by decide))
    have ho := c0_o (f := 11) C11 (by rw [U11.1]; decide) (by decide) rfl
    have hR := c0_r C11 (4, some 42) (by decide)
    have hS := hp_rs hR
    have hG := hp_rg hR
    simp only at hS hG
    have hqq := c0_q F1 (by rw [V.1]; decide) (by decide)
    have hN := F1.2.1
    have hK := F1.1
    have hos : mm_obj S1 68 6 = true := by rw [hn_o, V.1, (up_t V (b := 68) (by decide) (by decide)).1]; rfl
    have hib : mm_inb (nI 5) 6 = true := by decide
    have hv := V.1
    have hq := nw_q (t := 6) (n := mm_NF 6) U11.1 (by decide)
    have hu := U11.1
    refine ⟨mm_uR S1 42 5 (some 68), ?_, up_uR V (by decide), c0_uRo D1 (by decide), ?_, c0_uR F1 (by decide), (mm_sm_trans s11 (mm_sm_trans (f mm_SC (Or.inr (by decide))) (sm_uRo (by decide))))⟩
    · simp +decide only [b72_71, b72_77, b72_85, b72_89, (by decide : ¬ nI 6 ≤ nI 5), r, ho, hv, hq, hu, hS, hG, hqq, hN, hK, hos, hib, hp_MuM, hp_LuL, hp_RuR, hp_McpM, hp_LcpL, hp_LuM, hp_RuM, hp_KuM, hp_NuM, hp_nuM, hp_zuM, hp_ouM, hp_auM, hp_kuM, hp_guM, hp_MuL, hp_RuL, hp_KuL, hp_NuL, hp_nuL, hp_zuL, hp_ouL, hp_auL, hp_kuL, hp_guL, hp_MuR, hp_LuR, hp_KuR, hp_NuR, hp_nuR, hp_zuR, hp_ouR, hp_auR, hp_kuR, hp_LcpM, hp_RcpM, hp_KcpM, hp_NcpM, hp_ncpM, hp_zcpM, hp_ocpM, hp_acpM, hp_kcpM, hp_gcpM, hp_McpL, hp_RcpL, hp_KcpL, hp_NcpL, hp_ncpL, hp_zcpL, hp_ocpL, hp_acpL, hp_kcpL, hp_gcpL, hp_MwM, hp_LwM, hp_RwM, hp_KwM, hp_NwM, hp_nwM, hp_zwM, hp_owM, hp_awM, hp_kwM, hp_gwM, hp_MwR, hp_LwR, hp_RwR, hp_KwR, hp_NwR, hp_nwR, hp_zwR, hp_owR, hp_awR, hp_kwR, hp_MwL, hp_LwL, hp_RwL, hp_KwL, hp_NwL, hp_nwL, hp_zwL, hp_owL, hp_awL, hp_kwL, hp_gwL, hp_w2M, hp_w2R, hp_w2L, hn_n, hn_K, hn_z, hp_nuR, nI_add, List.not_mem_nil, false_implies, implies_true, nI_clamp, Nat.reducePow, hp_bd, hp_bdi, hp_ts, hp_tn, hp_tsc, hp_tnc, Nat.reduceAdd, Nat.reduceLT, Nat.reduceEqDiff, reduceIte, and_true, true_and, and_self, and_false, false_and, decide_true, decide_false, Bool.and_true, Bool.true_and, Bool.not_false, Bool.or_false, Bool.false_or, Bool.or_true, Bool.true_or]
    · rw [hp_zuR, zr, z11]
  obtain ⟨T12, h12, U12, C12, z12, E12, s12⟩ := h12
  have e42 : mm_Tb T12 42 := tb_C0 E12 (by decide) (by decide)
  have h13 : ∃ T', mm_ex (d + 3) 72 71 [.ref 0, .ref 1, .int (nI 6)] [] T12 = mm_ex (d + 3) 72 110 [.ref 0, .ref 1, .int (nI 6)] [.int (nI 6), .ref 0] T' ∧ mm_Up 75 T' ∧ mm_C0 0 11 13 [(11, nI 0), (12, nI 0)] T' [(5, some 73), (4, some 42), (3, some 33), (2, some 24), (1, some 15), (0, some 6)] ∧ mm_z T' = mm_z S + 1451 ∧ mm_Tb T' 42 ∧ mm_sm T0 T' mm_SC := by
    obtain ⟨S1, r, V, zr, f⟩ := up_reader_73 (d := d + 1) U12
    have D1 := c0_sm C12 (f 0 (by decide))
    have ho := c0_o (f := 11) D1 (by rw [V.1]; decide) (by decide) rfl
    have hv := V.1
    have hq := nw_q (t := 5) (n := mm_NF 5) U12.1 (by decide)
    have hu := U12.1
    refine ⟨mm_uR S1 0 5 (some 73), ?_, up_uR V (Or.inl rfl), c0_uR D1 (by decide), ?_, tb_uRo (mm_Tb_sm (f 42 (by decide)) e42) (by decide), (mm_sm_trans s12 (mm_sm_trans (f mm_SC (Or.inr (by decide))) (sm_uRo (by decide))))⟩
    · simp +decide only [b72_71, b72_96, b72_100, b72_104, r, ho, hv, hq, hu, (by decide : nI 6 ≤ nI 6), hp_MuM, hp_LuL, hp_RuR, hp_McpM, hp_LcpL, hp_LuM, hp_RuM, hp_KuM, hp_NuM, hp_nuM, hp_zuM, hp_ouM, hp_auM, hp_kuM, hp_guM, hp_MuL, hp_RuL, hp_KuL, hp_NuL, hp_nuL, hp_zuL, hp_ouL, hp_auL, hp_kuL, hp_guL, hp_MuR, hp_LuR, hp_KuR, hp_NuR, hp_nuR, hp_zuR, hp_ouR, hp_auR, hp_kuR, hp_LcpM, hp_RcpM, hp_KcpM, hp_NcpM, hp_ncpM, hp_zcpM, hp_ocpM, hp_acpM, hp_kcpM, hp_gcpM, hp_McpL, hp_RcpL, hp_KcpL, hp_NcpL, hp_ncpL, hp_zcpL, hp_ocpL, hp_acpL, hp_kcpL, hp_gcpL, hp_MwM, hp_LwM, hp_RwM, hp_KwM, hp_NwM, hp_nwM, hp_zwM, hp_owM, hp_awM, hp_kwM, hp_gwM, hp_MwR, hp_LwR, hp_RwR, hp_KwR, hp_NwR, hp_nwR, hp_zwR, hp_owR, hp_awR, hp_kwR, hp_MwL, hp_LwL, hp_RwL, hp_KwL, hp_NwL, hp_nwL, hp_zwL, hp_owL, hp_awL, hp_kwL, hp_gwL, hp_w2M, hp_w2R, hp_w2L, hn_n, hn_K, hn_z, hp_nuR, nI_add, List.not_mem_nil, false_implies, implies_true, nI_clamp, Nat.reducePow, hp_bd, hp_bdi, hp_ts, hp_tn, hp_tsc, hp_tnc, Nat.reduceAdd, Nat.reduceLT, Nat.reduceEqDiff, reduceIte, and_true, true_and, and_self, and_false, false_and, decide_true, decide_false, Bool.and_true, Bool.true_and, Bool.not_false, Bool.or_false, Bool.false_or, Bool.or_true, Bool.true_or]
    · rw [hp_zuR, zr, z12]
  obtain ⟨T13, h13, U13, C13, z13, e42, s13⟩ := h13
  have h14 : ∃ T', mm_ex (d + 3) 72 110 [.ref 0, .ref 1, .int (nI 6)] [.int (nI 6), .ref 0] T13 = mm_ex (d + 3) 72 118 [.ref 0, .ref 1, .int (nI 0)] [] T' ∧ mm_Up 76 T' ∧ mm_C0 0 11 13 [(11, nI 0), (12, nI 0)] T' [(6, some 75), (5, some 73), (4, some 42), (3, some 33), (2, some 24), (1, some 15), (0, some 6)] ∧ mm_z T' = mm_z S + 1457 ∧ mm_C0 75 18 6 [] T' [] ∧ mm_Tb T' 42 ∧ mm_sm T0 T' mm_SC := by
    have hu := U13.1
    have D1 := c0_nw (t' := 18) (n' := 6) C13 (by rw [hu]; decide)
    have ho := c0_o (f := 11) D1 (by rw [hn_n, hu]; decide) (by decide) rfl
    refine ⟨mm_uR (mm_nw T13 18 6) 0 6 (some 75), ?_, up_uR (up_nw U13 (Or.inl (by decide))) (Or.inl rfl), c0_uR D1 (by decide), ?_, ?_, tb_uRo (mm_Tb_sm (sm_nw (by rw [hu]; decide)) e42) (by decide), (mm_sm_trans s13 (mm_sm_trans (sm_nwo (by rw [hu]; decide)) (sm_uRo (by decide))))⟩
    · simp +decide only [b72_110, b72_113, ho, hu, (by decide : nI 6 ≤ nI 6), hp_MuM, hp_LuL, hp_RuR, hp_McpM, hp_LcpL, hp_LuM, hp_RuM, hp_KuM, hp_NuM, hp_nuM, hp_zuM, hp_ouM, hp_auM, hp_kuM, hp_guM, hp_MuL, hp_RuL, hp_KuL, hp_NuL, hp_nuL, hp_zuL, hp_ouL, hp_auL, hp_kuL, hp_guL, hp_MuR, hp_LuR, hp_KuR, hp_NuR, hp_nuR, hp_zuR, hp_ouR, hp_auR, hp_kuR, hp_LcpM, hp_RcpM, hp_KcpM, hp_NcpM, hp_ncpM, hp_zcpM, hp_ocpM, hp_acpM, hp_kcpM, hp_gcpM, hp_McpL, hp_RcpL, hp_KcpL, hp_NcpL, hp_ncpL, hp_zcpL, hp_ocpL, hp_acpL, hp_kcpL, hp_gcpL, hp_MwM, hp_LwM, hp_RwM, hp_KwM, hp_NwM, hp_nwM, hp_zwM, hp_owM, hp_awM, hp_kwM, hp_gwM, hp_MwR, hp_LwR, hp_RwR, hp_KwR, hp_NwR, hp_nwR, hp_zwR, hp_owR, hp_awR, hp_kwR, hp_MwL, hp_LwL, hp_RwL, hp_KwL, hp_NwL, hp_nwL, hp_zwL, hp_owL, hp_awL, hp_kwL, hp_gwL, hp_w2M, hp_w2R, hp_w2L, hn_n, hn_K, hn_z, hp_nuR, nI_add, List.not_mem_nil, false_implies, implies_true, nI_clamp, Nat.reducePow, hp_bd, hp_bdi, hp_ts, hp_tn, hp_tsc, hp_tnc, Nat.reduceAdd, Nat.reduceLT, Nat.reduceEqDiff, reduceIte, and_true, true_and, and_self, and_false, false_and, decide_true, decide_false, Bool.and_true, Bool.true_and, Bool.not_false, Bool.or_false, Bool.false_or, Bool.or_true, Bool.true_or]
    · rw [hp_zuR, hn_z, z13]
    · exact c0_uRo (by have := c0_new (S := T13) (t := 18) (n := 6) (m := []) (by intro q hq; cases hq); rwa [hu] at this) (by decide)
  obtain ⟨T14, h14, U14, C14, z14, E14, e42, s14⟩ := h14
  have h15 : ∃ T', mm_ex (d + 3) 72 118 [.ref 0, .ref 1, .int (nI 0)] [] T14 = mm_ex (d + 3) 72 118 [.ref 0, .ref 1, .int (nI 1)] [] T' ∧ mm_Up 78 T' ∧ mm_C0 0 11 13 [(11, nI 0), (12, nI 0)] T' [(6, some 75), (5, some 73), (4, some 42), (3, some 33), (2, some 24), (1, some 15), (0, some 6)] ∧ mm_z T' = mm_z S + 1520 ∧ mm_C0 75 18 6 [] T' [(0, some 76)] ∧ mm_Tb T' 42 ∧ mm_sm T0 T' mm_SC := by
    obtain ⟨S1, r, V, zr, f⟩ := up_tape_76 (d := d + 1) U14
    have D1 := c0_sm C14 (f 0 (by decide))
    have F1 := c0_sm E14 (f 75 (by decide))
    have ho := c0_o (f := 11) C14 (by rw [U14.1]; decide) (by decide) rfl
    have hR := c0_r C14 (6, some 75) (by decide)
    have hS := hp_rs hR
    have hG := hp_rg hR
    simp only at hS hG
    have hqq := c0_q F1 (by rw [V.1]; decide) (by decide)
    have hN := F1.2.1
    have hK := F1.1
    have hos : mm_obj S1 76 8 = true := by rw [hn_o, V.1, (up_t V (b := 76) (by decide) (by decide)).1]; rfl
    have hib : mm_inb (nI 0) 6 = true := by decide
    have hv := V.1
    have hq := nw_q (t := 8) (n := mm_NF 8) U14.1 (by decide)
    have hu := U14.1
    refine ⟨mm_uR S1 75 0 (some 76), ?_, up_uR V (by decide), c0_uRo D1 (by decide), ?_, c0_uR F1 (by decide), tb_uRo (mm_Tb_sm (f 42 (by decide)) e42) (by decide), (mm_sm_trans s14 (mm_sm_trans (f mm_SC (Or.inr (by decide))) (sm_uRo (by decide))))⟩
    · simp +decide only [b72_118, b72_124, b72_132, b72_136, (by decide : ¬ nI 6 ≤ nI 0), r, ho, hv, hq, hu, hS, hG, hqq, hN, hK, hos, hib, hp_MuM, hp_LuL, hp_RuR, hp_McpM, hp_LcpL, hp_LuM, hp_RuM, hp_KuM, hp_NuM, hp_nuM, hp_zuM, hp_ouM, hp_auM, hp_kuM, hp_guM, hp_MuL, hp_RuL, hp_KuL, hp_NuL, hp_nuL, hp_zuL, hp_ouL, hp_auL, hp_kuL, hp_guL, hp_MuR, hp_LuR, hp_KuR, hp_NuR, hp_nuR, hp_zuR, hp_ouR, hp_auR, hp_kuR, hp_LcpM, hp_RcpM, hp_KcpM, hp_NcpM, hp_ncpM, hp_zcpM, hp_ocpM, hp_acpM, hp_kcpM, hp_gcpM, hp_McpL, hp_RcpL, hp_KcpL, hp_NcpL, hp_ncpL, hp_zcpL, hp_ocpL, hp_acpL, hp_kcpL, hp_gcpL, hp_MwM, hp_LwM, hp_RwM, hp_KwM, hp_NwM, hp_nwM, hp_zwM, hp_owM, hp_awM, hp_kwM, hp_gwM, hp_MwR, hp_LwR, hp_RwR, hp_KwR, hp_NwR, hp_nwR, hp_zwR, hp_owR, hp_awR, hp_kwR, hp_MwL, hp_LwL, hp_RwL, hp_KwL, hp_NwL, hp_nwL, hp_zwL, hp_owL, hp_awL, hp_kwL, hp_gwL, hp_w2M, hp_w2R, hp_w2L, hn_n, hn_K, hn_z, hp_nuR, nI_add, List.not_mem_nil, false_implies, implies_true, nI_clamp, Nat.reducePow, hp_bd, hp_bdi, hp_ts, hp_tn, hp_tsc, hp_tnc, Nat.reduceAdd, Nat.reduceLT, Nat.reduceEqDiff, reduceIte, and_true, true_and, and_self, and_false, false_and, decide_true, decide_false, Bool.and_true, Bool.true_and, Bool.not_false, Bool.or_false, Bool.false_or, Bool.or_true, Bool.true_or]
    · rw [hp_zuR, zr, z14]
  obtain ⟨T15, h15, U15, C15, z15, E15, e42, s15⟩ := h15
  have h16 : ∃ T', mm_ex (d + 3) 72 118 [.ref 0, .ref 1, .int (nI 1)] [] T15 = mm_ex (d + 3) 72 118 [.ref 0, .ref 1, .int (nI 2)] [] T' ∧ mm_Up 80 T' ∧ mm_C0 0 11 13 [(11, nI 0), (12, nI 0)] T' [(6, some 75), (5, some 73), (4, some 42), (3, some 33), (2, some 24), (1, some 15), (0, some 6)] ∧ mm_z T' = mm_z S + 1583 ∧ mm_C0 75 18 6 [] T' [(1, some 78), (0, some 76)] ∧ mm_Tb T' 42 ∧ mm_sm T0 T' mm_SC := by
    obtain ⟨S1, r, V, zr, f⟩ := up_tape_78 (d := d + 1) U15
    have D1 := c0_sm C15 (f 0 (by decide))
    have F1 := c0_sm E15 (f 75 (by decide))
    have ho := c0_o (f := 11) C15 (by rw [U15.1]; decide) (by decide) rfl
    have hR := c0_r C15 (6, some 75) (by decide)
    have hS := hp_rs hR
    have hG := hp_rg hR
    simp only at hS hG
    have hqq := c0_q F1 (by rw [V.1]; decide) (by decide)
    have hN := F1.2.1
    have hK := F1.1
    have hos : mm_obj S1 78 8 = true := by rw [hn_o, V.1, (up_t V (b := 78) (by decide) (by decide)).1]; rfl
    have hib : mm_inb (nI 1) 6 = true := by decide
    have hv := V.1
    have hq := nw_q (t := 8) (n := mm_NF 8) U15.1 (by decide)
    have hu := U15.1
    refine ⟨mm_uR S1 75 1 (some 78), ?_, up_uR V (by decide), c0_uRo D1 (by decide), ?_, c0_uR F1 (by decide), tb_uRo (mm_Tb_sm (f 42 (by decide)) e42) (by decide), (mm_sm_trans s15 (mm_sm_trans (f mm_SC (Or.inr (by decide))) (sm_uRo (by decide))))⟩
    · simp +decide only [b72_118, b72_124, b72_132, b72_136, (by decide : ¬ nI 6 ≤ nI 1), r, ho, hv, hq, hu, hS, hG, hqq, hN, hK, hos, hib, hp_MuM, hp_LuL, hp_RuR, hp_McpM, hp_LcpL, hp_LuM, hp_RuM, hp_KuM, hp_NuM, hp_nuM, hp_zuM, hp_ouM, hp_auM, hp_kuM, hp_guM, hp_MuL, hp_RuL, hp_KuL, hp_NuL, hp_nuL, hp_zuL, hp_ouL, hp_auL, hp_kuL, hp_guL, hp_MuR, hp_LuR, hp_KuR, hp_NuR, hp_nuR, hp_zuR, hp_ouR, hp_auR, hp_kuR, hp_LcpM, hp_RcpM, hp_KcpM, hp_NcpM, hp_ncpM, hp_zcpM, hp_ocpM, hp_acpM, hp_kcpM, hp_gcpM, hp_McpL, hp_RcpL, hp_KcpL, hp_NcpL, hp_ncpL, hp_zcpL, hp_ocpL, hp_acpL, hp_kcpL, hp_gcpL, hp_MwM, hp_LwM, hp_RwM, hp_KwM, hp_NwM, hp_nwM, hp_zwM, hp_owM, hp_awM, hp_kwM, hp_gwM, hp_MwR, hp_LwR, hp_RwR, hp_KwR, hp_NwR, hp_nwR, hp_zwR, hp_owR, hp_awR, hp_kwR, hp_MwL, hp_LwL, hp_RwL, hp_KwL, hp_NwL, hp_nwL, hp_zwL, hp_owL, hp_awL, hp_kwL, hp_gwL, hp_w2M, hp_w2R, hp_w2L, hn_n, hn_K, hn_z, hp_nuR, nI_add, List.not_mem_nil, false_implies, implies_true, nI_clamp, Nat.reducePow, hp_bd, hp_bdi, hp_ts, hp_tn, hp_tsc, hp_tnc, Nat.reduceAdd, Nat.reduceLT, Nat.reduceEqDiff, reduceIte, and_true, true_and, and_self, and_false, false_and, decide_true, decide_false, Bool.and_true, Bool.true_and, Bool.not_false, Bool.or_false, Bool.false_or, Bool.or_true, Bool.true_or]
    · rw [hp_zuR, zr, z15]
  obtain ⟨T16, h16, U16, C16, z16, E16, e42, s16⟩ := h16
  have h17 : ∃ T', mm_ex (d + 3) 72 118 [.ref 0, .ref 1, .int (nI 2)] [] T16 = mm_ex (d + 3) 72 118 [.ref 0, .ref 1, .int (nI 3)] [] T' ∧ mm_Up 82 T' ∧ mm_C0 0 11 13 [(11, nI 0), (12, nI 0)] T' [(6, some 75), (5, some 73), (4, some 42), (3, some 33), (2, some 24), (1, some 15), (0, some 6)] ∧ mm_z T' = mm_z S + 1646 ∧ mm_C0 75 18 6 [] T' [(2, some 80), (1, some 78), (0, some 76)] ∧ mm_Tb T' 42 ∧ mm_sm T0 T' mm_SC := by
    obtain ⟨S1, r, V, zr, f⟩ := up_tape_80 (d := d + 1) U16
    have D1 := c0_sm C16 (f 0 (by decide))
    have F1 := c0_sm E16 (f 75 (by decide))
    have ho := c0_o (f := 11) C16 (by rw [U16.1]; decide) (by decide) rfl
    have hR := c0_r C16 (6, some 75) (by decide)
    have hS := hp_rs hR
    have hG := hp_rg hR
    simp only at hS hG
    have hqq := c0_q F1 (by rw [V.1]; decide) (by decide)
    have hN := F1.2.1
    have hK := F1.1
    have hos : mm_obj S1 80 8 = true := by rw [hn_o, V.1, (up_t V (b := 80) (by decide) (by decide)).1]; rfl
    have hib : mm_inb (nI 2) 6 = true := by decide
    have hv := V.1
    have hq := nw_q (t := 8) (n := mm_NF 8) U16.1 (by decide)
    have hu := U16.1
    refine ⟨mm_uR S1 75 2 (some 80), ?_, up_uR V (by decide), c0_uRo D1 (by decide), ?_, c0_uR F1 (by decide), tb_uRo (mm_Tb_sm (f 42 (by decide)) e42) (by decide), (mm_sm_trans s16 (mm_sm_trans (f mm_SC (Or.inr (by decide))) (sm_uRo (by decide))))⟩
    · simp +decide only [b72_118, b72_124, b72_132, b72_136, (by decide : ¬ nI 6 ≤ nI 2), r, ho, hv, hq, hu, hS, hG, hqq, hN, hK, hos, hib, hp_MuM, hp_LuL, hp_RuR, hp_McpM, hp_LcpL, hp_LuM, hp_RuM, hp_KuM, hp_NuM, hp_nuM, hp_zuM, hp_ouM, hp_auM, hp_kuM, hp_guM, hp_MuL, hp_RuL, hp_KuL, hp_NuL, hp_nuL, hp_zuL, hp_ouL, hp_auL, hp_kuL, hp_guL, hp_MuR, hp_LuR, hp_KuR, hp_NuR, hp_nuR, hp_zuR, hp_ouR, hp_auR, hp_kuR, hp_LcpM, hp_RcpM, hp_KcpM, hp_NcpM, hp_ncpM, hp_zcpM, hp_ocpM, hp_acpM, hp_kcpM, hp_gcpM, hp_McpL, hp_RcpL, hp_KcpL, hp_NcpL, hp_ncpL, hp_zcpL, hp_ocpL, hp_acpL, hp_kcpL, hp_gcpL, hp_MwM, hp_LwM, hp_RwM, hp_KwM, hp_NwM, hp_nwM, hp_zwM, hp_owM, hp_awM, hp_kwM, hp_gwM, hp_MwR, hp_LwR, hp_RwR, hp_KwR, hp_NwR, hp_nwR, hp_zwR, hp_owR, hp_awR, hp_kwR, hp_MwL, hp_LwL, hp_RwL, hp_KwL, hp_NwL, hp_nwL, hp_zwL, hp_owL, hp_awL, hp_kwL, hp_gwL, hp_w2M, hp_w2R, hp_w2L, hn_n, hn_K, hn_z, hp_nuR, nI_add, List.not_mem_nil, false_implies, implies_true, nI_clamp, Nat.reducePow, hp_bd, hp_bdi, hp_ts, hp_tn, hp_tsc, hp_tnc, Nat.reduceAdd, Nat.reduceLT, Nat.reduceEqDiff, reduceIte, and_true, true_and, and_self, and_false, false_and, decide_true, decide_false, Bool.and_true, Bool.true_and, Bool.not_false, Bool.or_false, Bool.false_or, Bool.or_true, Bool.true_or]
    · rw [hp_zuR, zr, z16]
  obtain ⟨T17, h17, U17, C17, z17, E17, e42, s17⟩ := h17
  have h18 : ∃ T', mm_ex (d + 3) 72 118 [.ref 0, .ref 1, .int (nI 3)] [] T17 = mm_ex (d + 3) 72 118 [.ref 0, .ref 1, .int (nI 4)] [] T' ∧ mm_Up 84 T' ∧ mm_C0 0 11 13 [(11, nI 0), (12, nI 0)] T' [(6, some 75), (5, some 73), (4, some 42), (3, some 33), (2, some 24), (1, some 15), (0, some 6)] ∧ mm_z T' = mm_z S + 1709 ∧ mm_C0 75 18 6 [] T' [(3, some 82), (2, some 80), (1, some 78), (0, some 76)] ∧ mm_Tb T' 42 ∧ mm_sm T0 T' mm_SC := by
    obtain ⟨S1, r, V, zr, f⟩ := up_tape_82 (d := d + 1) U17
    have D1 := c0_sm C17 (f 0 (by decide))
    have F1 := c0_sm E17 (f 75 (by decide))
    have ho := c0_o (f := 11) C17 (by rw [U17.1]; decide) (by decide) rfl
    have hR := c0_r C17 (6, some 75) (by decide)
    have hS := hp_rs hR
    have hG := hp_rg hR
    simp only at hS hG
    have hqq := c0_q F1 (by rw [V.1]; decide) (by decide)
    have hN := F1.2.1
    have hK := F1.1
    have hos : mm_obj S1 82 8 = true := by rw [hn_o, V.1, (up_t V (b := 82) (by decide) (by decide)).1]; rfl
    have hib : mm_inb (nI 3) 6 = true := by decide
    have hv := V.1
    have hq := nw_q (t := 8) (n := mm_NF 8) U17.1 (by decide)
    have hu := U17.1
    refine ⟨mm_uR S1 75 3 (some 82), ?_, up_uR V (by decide), c0_uRo D1 (by decide), ?_, c0_uR F1 (by decide), tb_uRo (mm_Tb_sm (f 42 (by decide)) e42) (by decide), (mm_sm_trans s17 (mm_sm_trans (f mm_SC (Or.inr (by decide))) (sm_uRo (by decide))))⟩
    · simp +decide only [b72_118, b72_124, b72_132, b72_136, (by decide : ¬ nI 6 ≤ nI 3), r, ho, hv, hq, hu, hS, hG, hqq, hN, hK, hos, hib, hp_MuM, hp_LuL, hp_RuR, hp_McpM, hp_LcpL, hp_LuM, hp_RuM, hp_KuM, hp_NuM, hp_nuM, hp_zuM, hp_ouM, hp_auM, hp_kuM, hp_guM, hp_MuL, hp_RuL, hp_KuL, hp_NuL, hp_nuL, hp_zuL, hp_ouL, hp_auL, hp_kuL, hp_guL, hp_MuR, hp_LuR, hp_KuR, hp_NuR, hp_nuR, hp_zuR, hp_ouR, hp_auR, hp_kuR, hp_LcpM, hp_RcpM, hp_KcpM, hp_NcpM, hp_ncpM, hp_zcpM, hp_ocpM, hp_acpM, hp_kcpM, hp_gcpM, hp_McpL, hp_RcpL, hp_KcpL, hp_NcpL, hp_ncpL, hp_zcpL, hp_ocpL, hp_acpL, hp_kcpL, hp_gcpL, hp_MwM, hp_LwM, hp_RwM, hp_KwM, hp_NwM, hp_nwM, hp_zwM, hp_owM, hp_awM, hp_kwM, hp_gwM, hp_MwR, hp_LwR, hp_RwR, hp_KwR, hp_NwR, hp_nwR, hp_zwR, hp_owR, hp_awR, hp_kwR, hp_MwL, hp_LwL, hp_RwL, hp_KwL, hp_NwL, hp_nwL, hp_zwL, hp_owL, hp_awL, hp_kwL, hp_gwL, hp_w2M, hp_w2R, hp_w2L, hn_n, hn_K, hn_z, hp_nuR, nI_add, List.not_mem_nil, false_implies, implies_true, nI_clamp, Nat.reducePow, hp_bd, hp_bdi, hp_ts, hp_tn, hp_tsc, hp_tnc, Nat.reduceAdd, Nat.reduceLT, Nat.reduceEqDiff, reduceIte, and_true, true_and, and_self, and_false, false_and, decide_true, decide_false, Bool.and_true, Bool.true_and, Bool.not_false, Bool.or_false, Bool.false_or, Bool.or_true, Bool.true_or]
    · rw [hp_zuR, zr, z17]
  obtain ⟨T18, h18, U18, C18, z18, E18, e42, s18⟩ := h18
  have h19 : ∃ T', mm_ex (d + 3) 72 118 [.ref 0, .ref 1, .int (nI 4)] [] T18 = mm_ex (d + 3) 72 118 [.ref 0, .ref 1, .int (nI 5)] [] T' ∧ mm_Up 86 T' ∧ mm_C0 0 11 13 [(11, nI 0), (12, nI 0)] T' [(6, some 75), (5, some 73), (4, some 42), (3, some 33), (2, some 24), (1, some 15), (0, some 6)] ∧ mm_z T' = mm_z S + 1772 ∧ mm_C0 75 18 6 [] T' [(4, some 84), (3, some 82), (2, some 80), (1, some 78), (0, some 76)] ∧ mm_Tb T' 42 ∧ mm_sm T0 T' mm_SC := by
    obtain ⟨S1, r, V, zr, f⟩ := up_tape_84 (d := d + 1) U18
    have D1 := c0_sm C18 (f 0 (by decide))
    have F1 := c0_sm E18 (f 75 (by decide))
    have ho := c0_o (f := 11) C18 (by rw [U18.1]; decide) (by decide) rfl
    have hR := c0_r C18 (6, some 75) (by decide)
    have hS := hp_rs hR
    have hG := hp_rg hR
    simp only at hS hG
    have hqq := c0_q F1 (by rw [V.1]; decide) (by decide)
    have hN := F1.2.1
    have hK := F1.1
    have hos : mm_obj S1 84 8 = true := by rw [hn_o, V.1, (up_t V (b := 84) (by decide) (by decide)).1]; rfl
    have hib : mm_inb (nI 4) 6 = true := by decide
    have hv := V.1
    have hq := nw_q (t := 8) (n := mm_NF 8) U18.1 (by decide)
    have hu := U18.1
    refine ⟨mm_uR S1 75 4 (some 84), ?_, up_uR V (by decide), c0_uRo D1 (by decide), ?_, c0_uR F1 (by decide), tb_uRo (mm_Tb_sm (f 42 (by decide)) e42) (by decide), (mm_sm_trans s18 (mm_sm_trans (f mm_SC (Or.inr (by decide))) (sm_uRo (by decide))))⟩
    · simp +decide only [b72_118, b72_124, b72_132, b72_136, (by decide : ¬ nI 6 ≤ nI 4), r, ho, hv, hq, hu, hS, hG, hqq, hN, hK, hos, hib, hp_MuM, hp_LuL, hp_RuR, hp_McpM, hp_LcpL, hp_LuM, hp_RuM, hp_KuM, hp_NuM, hp_nuM, hp_zuM, hp_ouM, hp_auM, hp_kuM, hp_guM, hp_MuL, hp_RuL, hp_KuL, hp_NuL, hp_nuL, hp_zuL, hp_ouL, hp_auL, hp_kuL, hp_guL, hp_MuR, hp_LuR, hp_KuR, hp_NuR, hp_nuR, hp_zuR, hp_ouR, hp_auR, hp_kuR, hp_LcpM, hp_RcpM, hp_KcpM, hp_NcpM, hp_ncpM, hp_zcpM, hp_ocpM, hp_acpM, hp_kcpM, hp_gcpM, hp_McpL, hp_RcpL, hp_KcpL, hp_NcpL, hp_ncpL, hp_zcpL, hp_ocpL, hp_acpL, hp_kcpL, hp_gcpL, hp_MwM, hp_LwM, hp_RwM, hp_KwM, hp_NwM, hp_nwM, hp_zwM, hp_owM, hp_awM, hp_kwM, hp_gwM, hp_MwR, hp_LwR, hp_RwR, hp_KwR, hp_NwR, hp_nwR, hp_zwR, hp_owR, hp_awR, hp_kwR, hp_MwL, hp_LwL, hp_RwL, hp_KwL, hp_NwL, hp_nwL, hp_zwL, hp_owL, hp_awL, hp_kwL, hp_gwL, hp_w2M, hp_w2R, hp_w2L, hn_n, hn_K, hn_z, hp_nuR, nI_add, List.not_mem_nil, false_implies, implies_true, nI_clamp, Nat.reducePow, hp_bd, hp_bdi, hp_ts, hp_tn, hp_tsc, hp_tnc, Nat.reduceAdd, Nat.reduceLT, Nat.reduceEqDiff, reduceIte, and_true, true_and, and_self, and_false, false_and, decide_true, decide_false, Bool.and_true, Bool.true_and, Bool.not_false, Bool.or_false, Bool.false_or, Bool.or_true, Bool.true_or]
    · rw [hp_zuR, zr, z18]
  obtain ⟨T19, h19, U19, C19, z19, E19, e42, s19⟩ := h19
  have h20 : ∃ T', mm_ex (d + 3) 72 118 [.ref 0, .ref 1, .int (nI 5)] [] T19 = mm_ex (d + 3) 72 118 [.ref 0, .ref 1, .int (nI 6)] [] T' ∧ mm_Up 88 T' ∧ mm_C0 0 11 13 [(11, nI 0), (12, nI 0)] T' [(6, some 75), (5, some 73), (4, some 42), (3, some 33), (2, some 24), (1, some 15), (0, some 6)] ∧ mm_z T' = mm_z S + 1835 ∧ mm_C0 75 18 6 [] T' [(5, some 86), (4, some 84), (3, some 82), (2, some 80), (1, some 78), (0, some 76)] ∧ mm_Tb T' 42 ∧ mm_sm T0 T' mm_SC := by
    obtain ⟨S1, r, V, zr, f⟩ := up_tape_86 (d := d + 1) U19
    have D1 := c0_sm C19 (f 0 (by decide))
    have F1 := c0_sm E19 (f 75 (by decide))
    have ho := c0_o (f := 11) C19 (by rw [U19.1]; decide) (by decide) rfl
    have hR := c0_r C19 (6, some 75) (by decide)
    have hS := hp_rs hR
    have hG := hp_rg hR
    simp only at hS hG
    have hqq := c0_q F1 (by rw [V.1]; decide) (by decide)
    have hN := F1.2.1
    have hK := F1.1
    have hos : mm_obj S1 86 8 = true := by rw [hn_o, V.1, (up_t V (b := 86) (by decide) (by decide)).1]; rfl
    have hib : mm_inb (nI 5) 6 = true := by decide
    have hv := V.1
    have hq := nw_q (t := 8) (n := mm_NF 8) U19.1 (by decide)
    have hu := U19.1
    refine ⟨mm_uR S1 75 5 (some 86), ?_, up_uR V (by decide), c0_uRo D1 (by decide), ?_, c0_uR F1 (by decide), tb_uRo (mm_Tb_sm (f 42 (by decide)) e42) (by decide), (mm_sm_trans s19 (mm_sm_trans (f mm_SC (Or.inr (by decide))) (sm_uRo (by decide))))⟩
    · simp +decide only [b72_118, b72_124, b72_132, b72_136, (by decide : ¬ nI 6 ≤ nI 5), r, ho, hv, hq, hu, hS, hG, hqq, hN, hK, hos, hib, hp_MuM, hp_LuL, hp_RuR, hp_McpM, hp_LcpL, hp_LuM, hp_RuM, hp_KuM, hp_NuM, hp_nuM, hp_zuM, hp_ouM, hp_auM, hp_kuM, hp_guM, hp_MuL, hp_RuL, hp_KuL, hp_NuL, hp_nuL, hp_zuL, hp_ouL, hp_auL, hp_kuL, hp_guL, hp_MuR, hp_LuR, hp_KuR, hp_NuR, hp_nuR, hp_zuR, hp_ouR, hp_auR, hp_kuR, hp_LcpM, hp_RcpM, hp_KcpM, hp_NcpM, hp_ncpM, hp_zcpM, hp_ocpM, hp_acpM, hp_kcpM, hp_gcpM, hp_McpL, hp_RcpL, hp_KcpL, hp_NcpL, hp_ncpL, hp_zcpL, hp_ocpL, hp_acpL, hp_kcpL, hp_gcpL, hp_MwM, hp_LwM, hp_RwM, hp_KwM, hp_NwM, hp_nwM, hp_zwM, hp_owM, hp_awM, hp_kwM, hp_gwM, hp_MwR, hp_LwR, hp_RwR, hp_KwR, hp_NwR, hp_nwR, hp_zwR, hp_owR, hp_awR, hp_kwR, hp_MwL, hp_LwL, hp_RwL, hp_KwL, hp_NwL, hp_nwL, hp_zwL, hp_owL, hp_awL, hp_kwL, hp_gwL, hp_w2M, hp_w2R, hp_w2L, hn_n, hn_K, hn_z, hp_nuR, nI_add, List.not_mem_nil, false_implies, implies_true, nI_clamp, Nat.reducePow, hp_bd, hp_bdi, hp_ts, hp_tn, hp_tsc, hp_tnc, Nat.reduceAdd, Nat.reduceLT, Nat.reduceEqDiff, reduceIte, and_true, true_and, and_self, and_false, false_and, decide_true, decide_false, Bool.and_true, Bool.true_and, Bool.not_false, Bool.or_false, Bool.false_or, Bool.or_true, Bool.true_or]
    · rw [hp_zuR, zr, z19]
  obtain ⟨T20, h20, U20, C20, z20, E20, e42, s20⟩ := h20
  have e75 : mm_Tb T20 75 := tb_C0 E20 (by decide) (by decide)
  have h21 : ∃ T', mm_ex (d + 3) 72 118 [.ref 0, .ref 1, .int (nI 6)] [] T20 = mm_ex (d + 3) 72 154 [.ref 0, .ref 1, .int (nI 6)] [.int (nI 6), .ref 0] T' ∧ mm_Up 89 T' ∧ mm_C0 0 11 13 [(11, nI 0), (12, nI 0)] T' [(7, some 88), (6, some 75), (5, some 73), (4, some 42), (3, some 33), (2, some 24), (1, some 15), (0, some 6)] ∧ mm_z T' = mm_z S + 1856 ∧ mm_Tb T' 75 ∧ mm_Tb T' 42 ∧ mm_sm T0 T' mm_SC := by
    have hu := U20.1
    have D1 := c0_nw (t' := 13) (n' := 21) C20 (by rw [hu]; decide)
    have ho := c0_o (f := 11) D1 (by rw [hn_n, hu]; decide) (by decide) rfl
    refine ⟨mm_uR (mm_nw T20 13 21) 0 7 (some 88), ?_, up_uR (up_nw U20 (Or.inr ⟨rfl, rfl, by decide, rfl⟩)) (Or.inl rfl), c0_uR D1 (by decide), ?_, tb_uRo (mm_Tb_sm (sm_nw (by rw [hu]; decide)) e75) (by decide), tb_uRo (mm_Tb_sm (sm_nw (by rw [hu]; decide)) e42) (by decide), (mm_sm_trans s20 (mm_sm_trans (sm_nwo (by rw [hu]; decide)) (sm_uRo (by decide))))⟩
    · simp +decide only [b72_118, b72_143, b72_148, ho, hu, (by decide : nI 6 ≤ nI 6), hp_MuM, hp_LuL, hp_RuR, hp_McpM, hp_LcpL, hp_LuM, hp_RuM, hp_KuM, hp_NuM, hp_nuM, hp_zuM, hp_ouM, hp_auM, hp_kuM, hp_guM, hp_MuL, hp_RuL, hp_KuL, hp_NuL, hp_nuL, hp_zuL, hp_ouL, hp_auL, hp_kuL, hp_guL, hp_MuR, hp_LuR, hp_KuR, hp_NuR, hp_nuR, hp_zuR, hp_ouR, hp_auR, hp_kuR, hp_LcpM, hp_RcpM, hp_KcpM, hp_NcpM, hp_ncpM, hp_zcpM, hp_ocpM, hp_acpM, hp_kcpM, hp_gcpM, hp_McpL, hp_RcpL, hp_KcpL, hp_NcpL, hp_ncpL, hp_zcpL, hp_ocpL, hp_acpL, hp_kcpL, hp_gcpL, hp_MwM, hp_LwM, hp_RwM, hp_KwM, hp_NwM, hp_nwM, hp_zwM, hp_owM, hp_awM, hp_kwM, hp_gwM, hp_MwR, hp_LwR, hp_RwR, hp_KwR, hp_NwR, hp_nwR, hp_zwR, hp_owR, hp_awR, hp_kwR, hp_MwL, hp_LwL, hp_RwL, hp_KwL, hp_NwL, hp_nwL, hp_zwL, hp_owL, hp_awL, hp_kwL, hp_gwL, hp_w2M, hp_w2R, hp_w2L, hn_n, hn_K, hn_z, hp_nuR, nI_add, List.not_mem_nil, false_implies, implies_true, nI_clamp, Nat.reducePow, hp_bd, hp_bdi, hp_ts, hp_tn, hp_tsc, hp_tnc, Nat.reduceAdd, Nat.reduceLT, Nat.reduceEqDiff, reduceIte, and_true, true_and, and_self, and_false, false_and, decide_true, decide_false, Bool.and_true, Bool.true_and, Bool.not_false, Bool.or_false, Bool.false_or, Bool.or_true, Bool.true_or]
    · rw [hp_zuR, hn_z, z20]
  obtain ⟨T21, h21, U21, C21, z21, e75, e42, s21⟩ := h21
  have h22 : ∃ T', mm_ex (d + 3) 72 154 [.ref 0, .ref 1, .int (nI 6)] [.int (nI 6), .ref 0] T21 = mm_ex (d + 3) 72 162 [.ref 0, .ref 1, .int (nI 6)] [.int (nI 6), .ref 0] T' ∧ mm_Up 90 T' ∧ mm_C0 0 11 13 [(11, nI 0), (12, nI 0)] T' [(8, some 89), (7, some 88), (6, some 75), (5, some 73), (4, some 42), (3, some 33), (2, some 24), (1, some 15), (0, some 6)] ∧ mm_z T' = mm_z S + 1862 ∧ mm_Tb T' 75 ∧ mm_Tb T' 42 ∧ mm_sm T0 T' mm_SC := by
    have hu := U21.1
    have D1 := c0_nw (t' := 13) (n' := 6) C21 (by rw [hu]; decide)
    have ho := c0_o (f := 11) D1 (by rw [hn_n, hu]; decide) (by decide) rfl
    refine ⟨mm_uR (mm_nw T21 13 6) 0 8 (some 89), ?_, up_uR (up_nw U21 (Or.inr ⟨rfl, rfl, by decide, rfl⟩)) (Or.inl rfl), c0_uR D1 (by decide), ?_, tb_uRo (mm_Tb_sm (sm_nw (by rw [hu]; decide)) e75) (by decide), tb_uRo (mm_Tb_sm (sm_nw (by rw [hu]; decide)) e42) (by decide), (mm_sm_trans s21 (mm_sm_trans (sm_nwo (by rw [hu]; decide)) (sm_uRo (by decide))))⟩
    · simp +decide only [b72_154, b72_156, ho, hu, (by decide : nI 6 ≤ nI 6), hp_MuM, hp_LuL, hp_RuR, hp_McpM, hp_LcpL, hp_LuM, hp_RuM, hp_KuM, hp_NuM, hp_nuM, hp_zuM, hp_ouM, hp_auM, hp_kuM, hp_guM, hp_MuL, hp_RuL, hp_KuL, hp_NuL, hp_nuL, hp_zuL, hp_ouL, hp_auL, hp_kuL, hp_guL, hp_MuR, hp_LuR, hp_KuR, hp_NuR, hp_nuR, hp_zuR, hp_ouR, hp_auR, hp_kuR, hp_LcpM, hp_RcpM, hp_KcpM, hp_NcpM, hp_ncpM, hp_zcpM, hp_ocpM, hp_acpM, hp_kcpM, hp_gcpM, hp_McpL, hp_RcpL, hp_KcpL, hp_NcpL, hp_ncpL, hp_zcpL, hp_ocpL, hp_acpL, hp_kcpL, hp_gcpL, hp_MwM, hp_LwM, hp_RwM, hp_KwM, hp_NwM, hp_nwM, hp_zwM, hp_owM, hp_awM, hp_kwM, hp_gwM, hp_MwR, hp_LwR, hp_RwR, hp_KwR, hp_NwR, hp_nwR, hp_zwR, hp_owR, hp_awR, hp_kwR, hp_MwL, hp_LwL, hp_RwL, hp_KwL, hp_NwL, hp_nwL, hp_zwL, hp_owL, hp_awL, hp_kwL, hp_gwL, hp_w2M, hp_w2R, hp_w2L, hn_n, hn_K, hn_z, hp_nuR, nI_add, List.not_mem_nil, false_implies, implies_true, nI_clamp, Nat.reducePow, hp_bd, hp_bdi, hp_ts, hp_tn, hp_tsc, hp_tnc, Nat.reduceAdd, Nat.reduceLT, Nat.reduceEqDiff, reduceIte, and_true, true_and, and_self, and_false, false_and, decide_true, decide_false, Bool.and_true, Bool.true_and, Bool.not_false, Bool.or_false, Bool.false_or, Bool.or_true, Bool.true_or]
    · rw [hp_zuR, hn_z, z21]
  obtain ⟨T22, h22, U22, C22, z22, e75, e42, s22⟩ := h22
  have h23 : ∃ T', mm_ex (d + 3) 72 162 [.ref 0, .ref 1, .int (nI 6)] [.int (nI 6), .ref 0] T22 = mm_ex (d + 3) 72 170 [.ref 0, .ref 1, .int (nI 6)] [.int (nI 6), .ref 0] T' ∧ mm_Up 91 T' ∧ mm_C0 0 11 13 [(11, nI 0), (12, nI 0)] T' [(9, some 90), (8, some 89), (7, some 88), (6, some 75), (5, some 73), (4, some 42), (3, some 33), (2, some 24), (1, some 15), (0, some 6)] ∧ mm_z T' = mm_z S + 1868 ∧ mm_Tb T' 75 ∧ mm_Tb T' 42 ∧ mm_sm T0 T' mm_SC := by
    have hu := U22.1
    have D1 := c0_nw (t' := 13) (n' := 6) C22 (by rw [hu]; decide)
    have ho := c0_o (f := 11) D1 (by rw [hn_n, hu]; decide) (by decide) rfl
    refine ⟨mm_uR (mm_nw T22 13 6) 0 9 (some 90), ?_, up_uR (up_nw U22 (Or.inr ⟨rfl, rfl, by decide, rfl⟩)) (Or.inl rfl), c0_uR D1 (by decide), ?_, tb_uRo (mm_Tb_sm (sm_nw (by rw [hu]; decide)) e75) (by decide), tb_uRo (mm_Tb_sm (sm_nw (by rw [hu]; decide)) e42) (by decide), (mm_sm_trans s22 (mm_sm_trans (sm_nwo (by rw [hu]; decide)) (sm_uRo (by decide))))⟩
    · simp +decide only [b72_162, b72_164, ho, hu, (by decide : nI 6 ≤ nI 6), hp_MuM, hp_LuL, hp_RuR, hp_McpM, hp_LcpL, hp_LuM, hp_RuM, hp_KuM, hp_NuM, hp_nuM, hp_zuM, hp_ouM, hp_auM, hp_kuM, hp_guM, hp_MuL, hp_RuL, hp_KuL, hp_NuL, hp_nuL, hp_zuL, hp_ouL, hp_auL, hp_kuL, hp_guL, hp_MuR, hp_LuR, hp_KuR, hp_NuR, hp_nuR, hp_zuR, hp_ouR, hp_auR, hp_kuR, hp_LcpM, hp_RcpM, hp_KcpM, hp_NcpM, hp_ncpM, hp_zcpM, hp_ocpM, hp_acpM, hp_kcpM, hp_gcpM, hp_McpL, hp_RcpL, hp_KcpL, hp_NcpL, hp_ncpL, hp_zcpL, hp_ocpL, hp_acpL, hp_kcpL, hp_gcpL, hp_MwM, hp_LwM, hp_RwM, hp_KwM, hp_NwM, hp_nwM, hp_zwM, hp_owM, hp_awM, hp_kwM, hp_gwM, hp_MwR, hp_LwR, hp_RwR, hp_KwR, hp_NwR, hp_nwR, hp_zwR, hp_owR, hp_awR, hp_kwR, hp_MwL, hp_LwL, hp_RwL, hp_KwL, hp_NwL, hp_nwL, hp_zwL, hp_owL, hp_awL, hp_kwL, hp_gwL, hp_w2M, hp_w2R, hp_w2L, hn_n, hn_K, hn_z, hp_nuR, nI_add, List.not_mem_nil, false_implies, implies_true, nI_clamp, Nat.reducePow, hp_bd, hp_bdi, hp_ts, hp_tn, hp_tsc, hp_tnc, Nat.reduceAdd, Nat.reduceLT, Nat.reduceEqDiff, reduceIte, and_true, true_and, and_self, and_false, false_and, decide_true, decide_false, Bool.and_true, Bool.true_and, Bool.not_false, Bool.or_false, Bool.false_or, Bool.or_true, Bool.true_or]
    · rw [hp_zuR, hn_z, z22]
  obtain ⟨T23, h23, U23, C23, z23, e75, e42, s23⟩ := h23
  have hu := U23.1
  have D1 := c0_nw (t' := 13) (n' := 6) C23 (by rw [hu]; decide)
  have ho := c0_o (f := 11) D1 (by rw [hn_n, hu]; decide) (by decide) rfl
  have hf : mm_ex (d + 3) 72 170 [.ref 0, .ref 1, .int (nI 6)] [.int (nI 6), .ref 0] T23 = some (none, mm_uR (mm_nw T23 13 6) 0 10 (some 91)) := by simp +decide only [b72_170, b72_172, ho, hu, hp_MuM, hp_LuL, hp_RuR, hp_McpM, hp_LcpL, hp_LuM, hp_RuM, hp_KuM, hp_NuM, hp_nuM, hp_zuM, hp_ouM, hp_auM, hp_kuM, hp_guM, hp_MuL, hp_RuL, hp_KuL, hp_NuL, hp_nuL, hp_zuL, hp_ouL, hp_auL, hp_kuL, hp_guL, hp_MuR, hp_LuR, hp_KuR, hp_NuR, hp_nuR, hp_zuR, hp_ouR, hp_auR, hp_kuR, hp_LcpM, hp_RcpM, hp_KcpM, hp_NcpM, hp_ncpM, hp_zcpM, hp_ocpM, hp_acpM, hp_kcpM, hp_gcpM, hp_McpL, hp_RcpL, hp_KcpL, hp_NcpL, hp_ncpL, hp_zcpL, hp_ocpL, hp_acpL, hp_kcpL, hp_gcpL, hp_MwM, hp_LwM, hp_RwM, hp_KwM, hp_NwM, hp_nwM, hp_zwM, hp_owM, hp_awM, hp_kwM, hp_gwM, hp_MwR, hp_LwR, hp_RwR, hp_KwR, hp_NwR, hp_nwR, hp_zwR, hp_owR, hp_awR, hp_kwR, hp_MwL, hp_LwL, hp_RwL, hp_KwL, hp_NwL, hp_nwL, hp_zwL, hp_owL, hp_awL, hp_kwL, hp_gwL, hp_w2M, hp_w2R, hp_w2L, hn_n, hn_K, hn_z, hp_nuR, nI_add, List.not_mem_nil, false_implies, implies_true, nI_clamp, Nat.reducePow, hp_bd, hp_bdi, hp_ts, hp_tn, hp_tsc, hp_tnc, Nat.reduceAdd, Nat.reduceLT, Nat.reduceEqDiff, reduceIte, and_true, true_and, and_self, and_false, false_and, decide_true, decide_false, Bool.and_true, Bool.true_and, Bool.not_false, Bool.or_false, Bool.false_or, Bool.or_true, Bool.true_or]
  refine ⟨mm_uR (mm_nw T23 13 6) 0 10 (some 91), ?_, by rw [hp_nuR, hn_n, hu], by rw [hp_zuR, hn_z, z23], fun b hb => ?_, mm_sm_trans s23 (mm_sm_trans (sm_nwo (by rw [hu]; decide)) (sm_uRo (by decide)))⟩
  · rw [e72, h1, h2, h3, h4, h5, h6, h7, h8, h9, h10, h11, h12, h13, h14, h15, h16, h17, h18, h19, h20, h21, h22, h23, hf]
  · have V := up_uR (j := 10) (v := some 91) (up_nw (t := 13) (n := 6) U23 (Or.inr ⟨rfl, rfl, by decide, rfl⟩)) (Or.inl (rfl : 0 = 0))
    by_cases b0 : b = 0
    · subst b0; exact tb_C0 (c0_uR (j := 10) (v := some 91) D1 (by decide)) (by decide) (by decide)
    by_cases b1 : b = 42
    · subst b1; exact tb_uRo (mm_Tb_sm (sm_nw (by rw [hu]; decide)) e42) (by decide)
    by_cases b2 : b = 75
    · subst b2; exact tb_uRo (mm_Tb_sm (sm_nw (by rw [hu]; decide)) e75) (by decide)
    exact V.2 b hb b0 b1 b2 (by omega)
set_option maxRecDepth 20000 in
set_option maxHeartbeats 4000000 in
theorem ct127 {S : mm_S} {d : Nat} (hn : mm_n S = 92) (hb : ∀ b, b < 92 → mm_Tb S b) : ∃ S', mm_cl (d + 1) 127 [.ref 92] (mm_nw S 12 76) = some (none, S') ∧ mm_n S' = 137 ∧ mm_z S' = mm_z S + 2484 ∧ (∀ b, b < 137 → mm_Tb S' b) ∧ mm_sm (mm_nw S 12 76) S' mm_SC := by
  have U0 : mm_Up 93 (mm_nw S 12 76) := up_nw (k := 92) ⟨hn, fun b h _ _ _ _ => hb b h⟩ (Or.inl (by decide))
  have C0 : mm_C0 92 12 76 [(0, nI 0), (8, nI 0), (10, nI 0), (11, nI 0), (12, nI 0), (13, nI 0), (14, nI 0), (15, nI 0), (17, nI 0), (18, nI 0), (26, nI 0), (27, nI 0), (28, nI 0), (36, nI 0), (37, nI 0), (39, nI 0), (40, nI 0), (42, nI 0), (43, nI 0), (47, nI 0), (48, nI 0), (49, nI 0), (50, nI 0), (51, nI 0), (54, nI 0), (59, nI 0), (60, nI 0), (61, nI 0), (62, nI 0), (63, nI 0), (74, nI 0)] (mm_nw S 12 76) [] := by
    have := c0_new (S := S) (t := 12) (n := 76) (m := [(0, nI 0), (8, nI 0), (10, nI 0), (11, nI 0), (12, nI 0), (13, nI 0), (14, nI 0), (15, nI 0), (17, nI 0), (18, nI 0), (26, nI 0), (27, nI 0), (28, nI 0), (36, nI 0), (37, nI 0), (39, nI 0), (40, nI 0), (42, nI 0), (43, nI 0), (47, nI 0), (48, nI 0), (49, nI 0), (50, nI 0), (51, nI 0), (54, nI 0), (59, nI 0), (60, nI 0), (61, nI 0), (62, nI 0), (63, nI 0), (74, nI 0)]) (by decide)
    rwa [hn] at this
  have z0 : mm_z (mm_nw S 12 76) = mm_z S + 76 := rfl
  have q0 : ∀ b, b < 92 → mm_Tb (mm_nw S 12 76) b := fun b h => mm_Tb_sm (sm_nw (by rw [hn]; exact h)) (hb b h)
  generalize mm_nw S 12 76 = T0 at U0 C0 z0 q0 ⊢
  have s0 : mm_sm T0 T0 mm_SC := sm_rfl
  obtain ⟨T1, h1, U1, C1, z1, f1⟩ := md_93 (d := d) U0 C0
  replace z1 := z1.trans (congrArg (· + 6) z0)
  have s1 : mm_sm T0 T1 mm_SC := mm_sm_trans s0 (f1 mm_SC (Or.inr (by decide)) (by decide))
  have q1 : ∀ b, b < 92 → mm_Tb T1 b := fun b h => mm_Tb_sm (f1 b (by omega) (by omega)) (q0 b h)
  obtain ⟨T2, h2, U2, C2, z2, f2⟩ := md_94 (d := d) U1 C1
  replace z2 := z2.trans (congrArg (· + 6) z1)
  have s2 : mm_sm T0 T2 mm_SC := mm_sm_trans s1 (f2 mm_SC (Or.inr (by decide)) (by decide))
  have q2 : ∀ b, b < 92 → mm_Tb T2 b := fun b h => mm_Tb_sm (f2 b (by omega) (by omega)) (q1 b h)
  obtain ⟨T3, h3, U3, C3, z3, f3⟩ := md_95 (d := d) U2 C2
  replace z3 := z3.trans (congrArg (· + 6) z2)
  have s3 : mm_sm T0 T3 mm_SC := mm_sm_trans s2 (f3 mm_SC (Or.inr (by decide)) (by decide))
  have q3 : ∀ b, b < 92 → mm_Tb T3 b := fun b h => mm_Tb_sm (f3 b (by omega) (by omega)) (q2 b h)
  obtain ⟨T4, h4, U4, C4, z4, f4⟩ := md_96 (d := d) U3 C3
  replace z4 := z4.trans (congrArg (· + 6) z3)
  have s4 : mm_sm T0 T4 mm_SC := mm_sm_trans s3 (f4 mm_SC (Or.inr (by decide)) (by decide))
  have q4 : ∀ b, b < 92 → mm_Tb T4 b := fun b h => mm_Tb_sm (f4 b (by omega) (by omega)) (q3 b h)
  obtain ⟨T5, h5, U5, C5, z5, f5⟩ := md_97 (d := d) U4 C4
  replace z5 := z5.trans (congrArg (· + 6) z4)
  have s5 : mm_sm T0 T5 mm_SC := mm_sm_trans s4 (f5 mm_SC (Or.inr (by decide)) (by decide))
  have q5 : ∀ b, b < 92 → mm_Tb T5 b := fun b h => mm_Tb_sm (f5 b (by omega) (by omega)) (q4 b h)
  obtain ⟨T6, h6, U6, C6, z6, f6⟩ := md_98 (d := d) U5 C5
  replace z6 := z6.trans (congrArg (· + 6) z5)
  have s6 : mm_sm T0 T6 mm_SC := mm_sm_trans s5 (f6 mm_SC (Or.inr (by decide)) (by decide))
  have q6 : ∀ b, b < 92 → mm_Tb T6 b := fun b h => mm_Tb_sm (f6 b (by omega) (by omega)) (q5 b h)
  obtain ⟨T7, h7, U7, C7, z7, f7⟩ := md_99 (d := d) U6 C6
  replace z7 := z7.trans (congrArg (· + 18) z6)
  have s7 : mm_sm T0 T7 mm_SC := mm_sm_trans s6 (f7 mm_SC (Or.inr (by decide)) (by decide))
  have q7 : ∀ b, b < 92 → mm_Tb T7 b := fun b h => mm_Tb_sm (f7 b (by omega) (by omega)) (q6 b h)
  obtain ⟨T8, h8, U8, C8, z8, f8⟩ := md_100 (d := d) U7 C7
  replace z8 := z8.trans (congrArg (· + 6) z7)
  have s8 : mm_sm T0 T8 mm_SC := mm_sm_trans s7 (f8 mm_SC (Or.inr (by decide)) (by decide))
  have q8 : ∀ b, b < 92 → mm_Tb T8 b := fun b h => mm_Tb_sm (f8 b (by omega) (by omega)) (q7 b h)
  obtain ⟨T9, h9, U9, C9, z9, f9⟩ := md_101 (d := d) U8 C8
  replace z9 := z9.trans (congrArg (· + 12) z8)
  have s9 : mm_sm T0 T9 mm_SC := mm_sm_trans s8 (f9 mm_SC (Or.inr (by decide)) (by decide))
  have q9 : ∀ b, b < 92 → mm_Tb T9 b := fun b h => mm_Tb_sm (f9 b (by omega) (by omega)) (q8 b h)
  obtain ⟨T10, h10, U10, C10, z10, f10⟩ := md_102 (d := d) U9 C9
  replace z10 := z10.trans (congrArg (· + 7) z9)
  have s10 : mm_sm T0 T10 mm_SC := mm_sm_trans s9 (f10 mm_SC (Or.inr (by decide)) (by decide))
  have q10 : ∀ b, b < 92 → mm_Tb T10 b := fun b h => mm_Tb_sm (f10 b (by omega) (by omega)) (q9 b h)
  obtain ⟨T11, h11, U11, C11, z11, f11⟩ := md_103 (d := d) U10 C10
  replace z11 := z11.trans (congrArg (· + 70) z10)
  have s11 : mm_sm T0 T11 mm_SC := mm_sm_trans s10 (f11 mm_SC (Or.inr (by decide)) (by decide))
  have q11 : ∀ b, b < 92 → mm_Tb T11 b := fun b h => mm_Tb_sm (f11 b (by omega) (by omega)) (q10 b h)
  obtain ⟨T12, h12, U12, C12, z12, f12⟩ := md_104 (d := d) U11 C11
  replace z12 := z12.trans (congrArg (· + 70) z11)
  have s12 : mm_sm T0 T12 mm_SC := mm_sm_trans s11 (f12 mm_SC (Or.inr (by decide)) (by decide))
  have q12 : ∀ b, b < 92 → mm_Tb T12 b := fun b h => mm_Tb_sm (f12 b (by omega) (by omega)) (q11 b h)
  obtain ⟨T13, h13, U13, C13, z13, f13⟩ := md_105 (d := d) U12 C12
  replace z13 := z13.trans (congrArg (· + 70) z12)
  have s13 : mm_sm T0 T13 mm_SC := mm_sm_trans s12 (f13 mm_SC (Or.inr (by decide)) (by decide))
  have q13 : ∀ b, b < 92 → mm_Tb T13 b := fun b h => mm_Tb_sm (f13 b (by omega) (by omega)) (q12 b h)
  obtain ⟨T14, h14, U14, C14, z14, f14⟩ := md_106 (d := d) U13 C13
  replace z14 := z14.trans (congrArg (· + 70) z13)
  have s14 : mm_sm T0 T14 mm_SC := mm_sm_trans s13 (f14 mm_SC (Or.inr (by decide)) (by decide))
  have q14 : ∀ b, b < 92 → mm_Tb T14 b := fun b h => mm_Tb_sm (f14 b (by omega) (by omega)) (q13 b h)
  obtain ⟨T15, h15, U15, C15, z15, f15⟩ := md_107 (d := d) U14 C14
  replace z15 := z15.trans (congrArg (· + 840) z14)
  have s15 : mm_sm T0 T15 mm_SC := mm_sm_trans s14 (f15 mm_SC (Or.inr (by decide)) (by decide))
  have q15 : ∀ b, b < 92 → mm_Tb T15 b := fun b h => mm_Tb_sm (f15 b (by omega) (by omega)) (q14 b h)
  obtain ⟨T16, h16, U16, C16, z16, f16⟩ := md_108 (d := d) U15 C15
  replace z16 := z16.trans (congrArg (· + 100) z15)
  have s16 : mm_sm T0 T16 mm_SC := mm_sm_trans s15 (f16 mm_SC (Or.inr (by decide)) (by decide))
  have q16 : ∀ b, b < 92 → mm_Tb T16 b := fun b h => mm_Tb_sm (f16 b (by omega) (by omega)) (q15 b h)
  obtain ⟨T17, h17, U17, C17, z17, f17⟩ := md_109 (d := d) U16 C16
  replace z17 := z17.trans (congrArg (· + 20) z16)
  have s17 : mm_sm T0 T17 mm_SC := mm_sm_trans s16 (f17 mm_SC (Or.inr (by decide)) (by decide))
  have q17 : ∀ b, b < 92 → mm_Tb T17 b := fun b h => mm_Tb_sm (f17 b (by omega) (by omega)) (q16 b h)
  obtain ⟨T18, h18, U18, C18, z18, f18⟩ := md_110 (d := d) U17 C17
  replace z18 := z18.trans (congrArg (· + 6) z17)
  have s18 : mm_sm T0 T18 mm_SC := mm_sm_trans s17 (f18 mm_SC (Or.inr (by decide)) (by decide))
  have q18 : ∀ b, b < 92 → mm_Tb T18 b := fun b h => mm_Tb_sm (f18 b (by omega) (by omega)) (q17 b h)
  obtain ⟨T19, h19, U19, C19, z19, f19⟩ := md_111 (d := d) U18 C18
  replace z19 := z19.trans (congrArg (· + 6) z18)
  have s19 : mm_sm T0 T19 mm_SC := mm_sm_trans s18 (f19 mm_SC (Or.inr (by decide)) (by decide))
  have q19 : ∀ b, b < 92 → mm_Tb T19 b := fun b h => mm_Tb_sm (f19 b (by omega) (by omega)) (q18 b h)
  obtain ⟨T20, h20, U20, C20, z20, f20⟩ := md_112 (d := d) U19 C19
  replace z20 := z20.trans (congrArg (· + 360) z19)
  have s20 : mm_sm T0 T20 mm_SC := mm_sm_trans s19 (f20 mm_SC (Or.inr (by decide)) (by decide))
  have q20 : ∀ b, b < 92 → mm_Tb T20 b := fun b h => mm_Tb_sm (f20 b (by omega) (by omega)) (q19 b h)
  obtain ⟨T21, h21, U21, C21, z21, f21⟩ := md_113 (d := d) U20 C20
  replace z21 := z21.trans (congrArg (· + 24) z20)
  have s21 : mm_sm T0 T21 mm_SC := mm_sm_trans s20 (f21 mm_SC (Or.inr (by decide)) (by decide))
  have q21 : ∀ b, b < 92 → mm_Tb T21 b := fun b h => mm_Tb_sm (f21 b (by omega) (by omega)) (q20 b h)
  obtain ⟨T22, h22, U22, C22, z22, f22⟩ := md_114 (d := d) U21 C21
  replace z22 := z22.trans (congrArg (· + 6) z21)
  have s22 : mm_sm T0 T22 mm_SC := mm_sm_trans s21 (f22 mm_SC (Or.inr (by decide)) (by decide))
  have q22 : ∀ b, b < 92 → mm_Tb T22 b := fun b h => mm_Tb_sm (f22 b (by omega) (by omega)) (q21 b h)
  obtain ⟨T23, h23, U23, C23, z23, f23⟩ := md_115 (d := d) U22 C22
  replace z23 := z23.trans (congrArg (· + 7) z22)
  have s23 : mm_sm T0 T23 mm_SC := mm_sm_trans s22 (f23 mm_SC (Or.inr (by decide)) (by decide))
  have q23 : ∀ b, b < 92 → mm_Tb T23 b := fun b h => mm_Tb_sm (f23 b (by omega) (by omega)) (q22 b h)
  obtain ⟨T24, h24, U24, C24, z24, f24⟩ := md_116 (d := d) U23 C23
  replace z24 := z24.trans (congrArg (· + 110) z23)
  have s24 : mm_sm T0 T24 mm_SC := mm_sm_trans s23 (f24 mm_SC (Or.inr (by decide)) (by decide))
  have q24 : ∀ b, b < 92 → mm_Tb T24 b := fun b h => mm_Tb_sm (f24 b (by omega) (by omega)) (q23 b h)
  obtain ⟨T25, h25, U25, C25, z25, f25⟩ := md_117 (d := d) U24 C24
  replace z25 := z25.trans (congrArg (· + 110) z24)
  have s25 : mm_sm T0 T25 mm_SC := mm_sm_trans s24 (f25 mm_SC (Or.inr (by decide)) (by decide))
  have q25 : ∀ b, b < 92 → mm_Tb T25 b := fun b h => mm_Tb_sm (f25 b (by omega) (by omega)) (q24 b h)
  obtain ⟨T26, h26, U26, C26, z26, f26⟩ := md_118 (d := d) U25 C25
  replace z26 := z26.trans (congrArg (· + 6) z25)
  have s26 : mm_sm T0 T26 mm_SC := mm_sm_trans s25 (f26 mm_SC (Or.inr (by decide)) (by decide))
  have q26 : ∀ b, b < 92 → mm_Tb T26 b := fun b h => mm_Tb_sm (f26 b (by omega) (by omega)) (q25 b h)
  obtain ⟨T27, h27, U27, C27, z27, f27⟩ := md_119 (d := d) U26 C26
  replace z27 := z27.trans (congrArg (· + 6) z26)
  have s27 : mm_sm T0 T27 mm_SC := mm_sm_trans s26 (f27 mm_SC (Or.inr (by decide)) (by decide))
  have q27 : ∀ b, b < 92 → mm_Tb T27 b := fun b h => mm_Tb_sm (f27 b (by omega) (by omega)) (q26 b h)
  obtain ⟨T28, h28, U28, C28, z28, f28⟩ := md_120 (d := d) U27 C27
  replace z28 := z28.trans (congrArg (· + 6) z27)
  have s28 : mm_sm T0 T28 mm_SC := mm_sm_trans s27 (f28 mm_SC (Or.inr (by decide)) (by decide))
  have q28 : ∀ b, b < 92 → mm_Tb T28 b := fun b h => mm_Tb_sm (f28 b (by omega) (by omega)) (q27 b h)
  obtain ⟨T29, h29, U29, C29, z29, f29⟩ := md_121 (d := d) U28 C28
  replace z29 := z29.trans (congrArg (· + 6) z28)
  have s29 : mm_sm T0 T29 mm_SC := mm_sm_trans s28 (f29 mm_SC (Or.inr (by decide)) (by decide))
  have q29 : ∀ b, b < 92 → mm_Tb T29 b := fun b h => mm_Tb_sm (f29 b (by omega) (by omega)) (q28 b h)
  obtain ⟨T30, h30, U30, C30, z30, f30⟩ := md_122 (d := d) U29 C29
  replace z30 := z30.trans (congrArg (· + 78) z29)
  have s30 : mm_sm T0 T30 mm_SC := mm_sm_trans s29 (f30 mm_SC (Or.inr (by decide)) (by decide))
  have q30 : ∀ b, b < 92 → mm_Tb T30 b := fun b h => mm_Tb_sm (f30 b (by omega) (by omega)) (q29 b h)
  obtain ⟨T31, h31, U31, C31, z31, f31⟩ := md_123 (d := d) U30 C30
  replace z31 := z31.trans (congrArg (· + 78) z30)
  have s31 : mm_sm T0 T31 mm_SC := mm_sm_trans s30 (f31 mm_SC (Or.inr (by decide)) (by decide))
  have q31 : ∀ b, b < 92 → mm_Tb T31 b := fun b h => mm_Tb_sm (f31 b (by omega) (by omega)) (q30 b h)
  obtain ⟨T32, h32, U32, C32, z32, f32⟩ := md_124 (d := d) U31 C31
  replace z32 := z32.trans (congrArg (· + 78) z31)
  have s32 : mm_sm T0 T32 mm_SC := mm_sm_trans s31 (f32 mm_SC (Or.inr (by decide)) (by decide))
  have q32 : ∀ b, b < 92 → mm_Tb T32 b := fun b h => mm_Tb_sm (f32 b (by omega) (by omega)) (q31 b h)
  obtain ⟨T33, h33, U33, C33, z33, f33⟩ := md_125 (d := d) U32 C32
  replace z33 := z33.trans (congrArg (· + 65) z32)
  have s33 : mm_sm T0 T33 mm_SC := mm_sm_trans s32 (f33 mm_SC (Or.inr (by decide)) (by decide))
  have q33 : ∀ b, b < 92 → mm_Tb T33 b := fun b h => mm_Tb_sm (f33 b (by omega) (by omega)) (q32 b h)
  obtain ⟨T34, h34, U34, C34, z34, f34⟩ := md_126 (d := d) U33 C33
  replace z34 := z34.trans (congrArg (· + 6) z33)
  have s34 : mm_sm T0 T34 mm_SC := mm_sm_trans s33 (f34 mm_SC (Or.inr (by decide)) (by decide))
  have q34 : ∀ b, b < 92 → mm_Tb T34 b := fun b h => mm_Tb_sm (f34 b (by omega) (by omega)) (q33 b h)
  obtain ⟨T35, h35, U35, C35, z35, f35⟩ := md_127 (d := d) U34 C34
  replace z35 := z35.trans (congrArg (· + 6) z34)
  have s35 : mm_sm T0 T35 mm_SC := mm_sm_trans s34 (f35 mm_SC (Or.inr (by decide)) (by decide))
  have q35 : ∀ b, b < 92 → mm_Tb T35 b := fun b h => mm_Tb_sm (f35 b (by omega) (by omega)) (q34 b h)
  obtain ⟨T36, h36, U36, C36, z36, f36⟩ := md_128 (d := d) U35 C35
  replace z36 := z36.trans (congrArg (· + 6) z35)
  have s36 : mm_sm T0 T36 mm_SC := mm_sm_trans s35 (f36 mm_SC (Or.inr (by decide)) (by decide))
  have q36 : ∀ b, b < 92 → mm_Tb T36 b := fun b h => mm_Tb_sm (f36 b (by omega) (by omega)) (q35 b h)
  obtain ⟨T37, h37, U37, C37, z37, f37⟩ := md_129 (d := d) U36 C36
  replace z37 := z37.trans (congrArg (· + 6) z36)
  have s37 : mm_sm T0 T37 mm_SC := mm_sm_trans s36 (f37 mm_SC (Or.inr (by decide)) (by decide))
  have q37 : ∀ b, b < 92 → mm_Tb T37 b := fun b h => mm_Tb_sm (f37 b (by omega) (by omega)) (q36 b h)
  obtain ⟨T38, h38, U38, C38, z38, f38⟩ := md_130 (d := d) U37 C37
  replace z38 := z38.trans (congrArg (· + 6) z37)
  have s38 : mm_sm T0 T38 mm_SC := mm_sm_trans s37 (f38 mm_SC (Or.inr (by decide)) (by decide))
  have q38 : ∀ b, b < 92 → mm_Tb T38 b := fun b h => mm_Tb_sm (f38 b (by omega) (by omega)) (q37 b h)
  obtain ⟨T39, h39, U39, C39, z39, f39⟩ := md_131 (d := d) U38 C38
  replace z39 := z39.trans (congrArg (· + 6) z38)
  have s39 : mm_sm T0 T39 mm_SC := mm_sm_trans s38 (f39 mm_SC (Or.inr (by decide)) (by decide))
  have q39 : ∀ b, b < 92 → mm_Tb T39 b := fun b h => mm_Tb_sm (f39 b (by omega) (by omega)) (q38 b h)
  obtain ⟨T40, h40, U40, C40, z40, f40⟩ := md_132 (d := d) U39 C39
  replace z40 := z40.trans (congrArg (· + 18) z39)
  have s40 : mm_sm T0 T40 mm_SC := mm_sm_trans s39 (f40 mm_SC (Or.inr (by decide)) (by decide))
  have q40 : ∀ b, b < 92 → mm_Tb T40 b := fun b h => mm_Tb_sm (f40 b (by omega) (by omega)) (q39 b h)
  obtain ⟨T41, h41, U41, C41, z41, f41⟩ := md_133 (d := d) U40 C40
  replace z41 := z41.trans (congrArg (· + 6) z40)
  have s41 : mm_sm T0 T41 mm_SC := mm_sm_trans s40 (f41 mm_SC (Or.inr (by decide)) (by decide))
  have q41 : ∀ b, b < 92 → mm_Tb T41 b := fun b h => mm_Tb_sm (f41 b (by omega) (by omega)) (q40 b h)
  obtain ⟨T42, h42, U42, C42, z42, f42⟩ := md_134 (d := d) U41 C41
  replace z42 := z42.trans (congrArg (· + 5) z41)
  have s42 : mm_sm T0 T42 mm_SC := mm_sm_trans s41 (f42 mm_SC (Or.inr (by decide)) (by decide))
  have q42 : ∀ b, b < 92 → mm_Tb T42 b := fun b h => mm_Tb_sm (f42 b (by omega) (by omega)) (q41 b h)
  obtain ⟨T43, h43, U43, C43, z43, f43⟩ := md_135 (d := d) U42 C42
  replace z43 := z43.trans (congrArg (· + 12) z42)
  have s43 : mm_sm T0 T43 mm_SC := mm_sm_trans s42 (f43 mm_SC (Or.inr (by decide)) (by decide))
  have q43 : ∀ b, b < 92 → mm_Tb T43 b := fun b h => mm_Tb_sm (f43 b (by omega) (by omega)) (q42 b h)
  obtain ⟨T44, h44, U44, C44, z44, f44⟩ := md_136 (d := d) U43 C43
  replace z44 := z44.trans (congrArg (· + 60) z43)
  have s44 : mm_sm T0 T44 mm_SC := mm_sm_trans s43 (f44 mm_SC (Or.inr (by decide)) (by decide))
  have q44 : ∀ b, b < 92 → mm_Tb T44 b := fun b h => mm_Tb_sm (f44 b (by omega) (by omega)) (q43 b h)
  refine ⟨T44, ?_, U44.1, z44, fun b h => ?_, s44⟩
  · rw [e127, h1, h2, h3, h4, h5, h6, h7, h8, h9, h10, h11, h12, h13, h14, h15, h16, h17, h18, h19, h20, h21, h22, h23, h24, h25, h26, h27, h28, h29, h30, h31, h32, h33, h34, h35, h36, h37, h38, h39, h40, h41, h42, h43, h44]
  · by_cases e : b < 92
    · exact q44 b e
    by_cases e2 : b = 92
    · subst e2; exact tb_C0 C44 (by decide) (by decide)
    exact U44.2 b h (by omega) (by omega) (by omega) e2
theorem tr_tp : ∀ a, a < 137 → ∀ k, k < 76 → ∀ b, mm_tR a k = some b → (k, some b) ∈ mm_tP a := by
  have h : ∀ a, a < 137 → ∀ k, k < 76 → (match mm_tR a k with | some b => decide ((k, some b) ∈ mm_tP a) | none => true) = true := by decide +kernel
  intro a ha k hk b e
  have := h a ha k hk
  rw [e] at this
  exact of_decide_eq_true this
theorem getD_lt {l : List (Option Nat)} {k b : Nat} (h : l.getD k none = some b) : k < l.length := by
  by_cases e : k < l.length
  · exact e
  · rw [List.getD_eq_getElem?_getD, List.getElem?_eq_none (by omega)] at h
    cases h
theorem tr_lt {a k b : Nat} (h : mm_tR a k = some b) : a < 137 ∧ k < 76 := by
  unfold mm_tR at h
  split at h <;> first | (refine ⟨by decide, ?_⟩; have h2 := getD_lt h; exact Nat.lt_of_lt_of_le h2 (by decide)) | cases h
theorem w_tb {S : mm_S} (hn : 137 ≤ mm_n S) (h : ∀ b, b < 137 → mm_Tb S b) : mm_W S := by
  refine ⟨hn, fun a ha => ⟨(h a ha).1, (h a ha).2.1⟩, fun a k b e => ?_⟩
  obtain ⟨h1, h2⟩ := tr_lt e
  exact (h a h1).2.2.2 (k, some b) (tr_tp a h1 k h2 b e)
theorem law_start (xs : Nat → Int32) (L : Nat) : ∃ S, mm_ex 30 mm_nc 0 [.ref mm_SC, .null, .null, .null] [] (mm_S0 L xs) = mm_ex 30 225 18 [.ref mm_SC, .ref 0, .ref 92, .int (nI 0)] [] S ∧ mm_n S = 137 ∧ mm_z S = 4358 ∧ (∀ b, b < 137 → mm_Tb S b) ∧ mm_W S ∧ mm_N S mm_SC = L ∧ (∀ j, mm_M S mm_SC j = xs j) := by
  obtain ⟨S1, r1, n1, z1, t1, s1⟩ := ct72 (d := 26) (S := mm_S0 L xs) rfl
  obtain ⟨S2, r2, n2, z2, t2, s2⟩ := ct127 (d := 28) n1 t1
  have h0 : mm_n (mm_S0 L xs) = 0 := rfl
  have hq1 := nw_q (S := mm_S0 L xs) (t := 11) (n := 13) (a := 0) rfl (by decide)
  have hq2 := nw_q (S := S1) (t := 12) (n := 76) (a := 92) n1 (by decide)
  have e1 : decide (mm_n (mm_S0 L xs) < 1000000) = true := rfl
  have e2 : decide (mm_n S1 < 1000000) = true := by rw [n1]; rfl
  refine ⟨S2, ?_, n2, ?_, t2, w_tb (by rw [n2]; decide) t2, ?_, fun j => ?_⟩
  · show mm_ex (29 + 1) 225 0 _ _ _ = _
    rw [b225_0 e1, h0, nf_11, b225_3 hq1, r1, hp_bd, hp_tnc, b225_7 e2, n1, nf_12, b225_11 hq2, r2, hp_bd, hp_tnc, b225_15]
  · rw [z2, z1]; rfl
  · rw [s2.2.1, (sm_nwo (S := S1) (by rw [n1]; decide)).2.1, s1.2.1]; rfl
  · rw [s2.2.2.1, (sm_nwo (S := S1) (by rw [n1]; decide)).2.2.1, s1.2.2.1]; rfl
