/-! ===== shop, in the class ===== -/
def F8 (k c j : Nat) : Prop := (c = 73 ∧ (j = 0 ∨ j = 2 ∨ j = 3)) ∨ (43 + 5 * k ≤ c ∧ c ≤ 43 + 5 * k + 4)
def F9 (k c j : Nat) : Prop := F8 k c j ∨ (c = 6 ∧ (j = 8 ∨ j = 9)) ∨ (c = 0 ∧ j = 11)
section C8B
variable {S T U V : mm_S} {a b c d j k e n s : Nat} {X : gb_X} {P : ab_P} {D : ab_D} {G : gb_G}
theorem F8_h (hk : k < 6) : sf_h (F8 k) S k := ⟨fun c j h _ q => by unfold F8 at q; omega, fun s m j hs hne hm q => by unfold F8 at q; unfold mm_sh at hs; omega⟩
theorem F9_h (hk : k < 6) : sf_h (F9 k) S k := ⟨fun c j h _ q => by unfold F9 F8 at q; omega, fun s m j hs hne hm q => by unfold F9 F8 at q; unfold mm_sh at hs; omega⟩
theorem RC_8f (ok : gb_ok G) (hR : RC S G) (hk : k = (gb_s G).length) (hk6 : k < 6) (h : sf_f (F8 k) S T) (hw : mm_W T) (h0 : mm_M T 73 0 = nI 0) : RC T (gS_t G []) := by
  obtain ⟨-, h1, h2, h3, h4, ⟨s1, s2, s3⟩, h6, h7, h8⟩ := hR
  have ho := F8_h (S := S) hk6
  refine ⟨hw, tr_X8 h ho (fun m j hm => ?_) (fun q hq => by rw [hk]; exact h_lt ok.1 q hq) h1, tr_q h (fun j => ?_) ?_ h2, tr_q h (fun j => ?_) ?_ h3, tr_i8 h ho ?_ (fun c j a b => ?_) (fun Y hY q hq => by rw [hk]; exact h_lt (ok.2.1 Y hY) q hq) h4, ⟨(h.1 _ _ ?_).1.trans s1, fun i hi => ?_, tr_cs h (fun m j hm => ?_) s3⟩, ⟨h0, fun i hi => absurd hi (Nat.not_lt_zero _)⟩, tr_p h (fun c j a b => ?_) h7, tr_r h (fun j => ?_) h8⟩
  all_goals first
    | (unfold F8; omega)
    | skip
  have hi2 : i < k := by rw [hk]; exact hi
  exact tr_cs h (fun m j hm q => by unfold F8 at q; omega) (s2 i hi)
theorem c_8 (ok : gb_ok G) (hR : RC S G) (hn : mm_n S < 1000000) : ∃ v G2, PS G v G2 ∧ oC S (d + 23) 81 [.ref 0] (.int v) G2 := by
  have hw := hR.1
  have h11 : mm_M S 0 11 = nI (gb_s G).length := hR.2.2.2.2.2.1.1
  have hl6 := ok.2.2.1
  by_cases h6 : (gb_s G).length = 6
  · refine ⟨-4, G, by unfold PS; rw [if_pos h6]; exact ⟨rfl, rfl⟩, oC_id hR ?_⟩
    rw [e81, b81_0 (wx_o0 hw), h11, h6, if_neg (by decide), b81_9]
  have PSn : ∀ j, PL (gb_t G) 10 [] 0 j none → PS G (-10 - nI j) (gS_t G []) := fun j h => by
    unfold PS
    rw [if_neg h6]
    exact ⟨j, none, h, rfl, rfl⟩
  have PSs : ∀ j l, PL (gb_t G) 10 [] 0 j (some l) → PS G (nI (gb_s G).length) (gS_sh G l) := fun j l h => by
    unfold PS
    rw [if_neg h6]
    exact ⟨j, some l, h, rfl, rfl⟩
  generalize hk : (gb_s G).length = k at *
  have hk6 : k < 6 := by omega
  have hs : mm_sh (43 + 5 * k) := by unfold mm_sh; omega
  have R42 : mm_R S 42 k = some (43 + 5 * k) := by
    rcases (by omega : k = 0 ∨ k = 1 ∨ k = 2 ∨ k = 3 ∨ k = 4 ∨ k = 5) with rfl | rfl | rfl | rfl | rfl | rfl <;> exact hw.2.2 42 _ _ rfl
  have w1 : mm_W (mm_uR S 73 3 (some (43 + 5 * k))) := sf_W (sf_uR (F := fun c j => c = 73 ∧ j = 3) ⟨rfl, rfl⟩) hw (fun c j b hF e => by
    obtain ⟨rfl, rfl⟩ := hF
    cases e)
  have hn137 : 137 ≤ mm_n S := hw.1
  have hT : ct (mm_uR S 73 3 (some (43 + 5 * k))) (43 + 5 * k) (gb_t G) := ⟨w1, hs, hn, hR.2.2.2.2.2.2.1.1, hR.2.2.2.2.2.2.1.2, ok.2.2.2.2.1, ok.2.2.2.2.2.1, by rw [hp_RuR, if_pos ⟨rfl, rfl⟩]⟩
  obtain ⟨j, o, p1, p2⟩ := s37 (d := d) hT
  have hj := PL_le 10 [] 0 p1 (Nat.zero_le _)
  have h100 := ok.2.2.2.2.1
  have st : mm_cl (d + 23) 81 [.ref 0] S = mm_bd (mm_ex (d + 22) 37 6 [.ref 73, .ref (43 + 5 * k), .null] [.ref 73] (mm_uR S 73 3 (some (43 + 5 * k)))) (fun v S2 => mm_ex (d + 23) 81 30 [.ref 0, .ref (43 + 5 * k), .null, .null] (v.toList ++ []) S2) := by
    have c11 : (nI k).toNatClampNeg = k := nI_clamp (by omega)
    rw [e81, b81_0 (wx_o0 hw), h11, if_pos (nI_lt hk6 (by omega)), b81_12 (wx_o0 hw) (wx_s0_4 hw) (by rw [h11, wx_g0_4 hw, wx_N42 hw]; exact hp_inb hk6 (by omega)) (by rw [wx_g0_4 hw]; exact wx_a42 hw) (by rw [h11, c11, wx_g0_4 hw]; exact hp_rs R42) (wx_s0_5 hw) (by rw [wx_g0_5 hw]; exact wx_k73 hw), h11, c11, wx_g0_4 hw, wx_g0_5 hw, hp_rg R42, e37, b37_0 (wx_o73 hw) (by omega)]
  have fF : ∀ {U : mm_S} {j : Nat}, feK (mm_uR S 73 3 (some (43 + 5 * k))) (43 + 5 * k) U j → sf_f (F8 k) S U ∧ mm_n U = mm_n S ∧ mm_z U = mm_z S := by
    intro U j h
    refine ⟨sf_tr (sf_uR (by unfold F8; omega)) ⟨fun c j hc => ⟨h.2.1 c j (fun z => hc (by unfold gKs at z; unfold F8; omega)), by rw [h.1]; rfl, by rw [h.1]; rfl⟩, fun c _ => ⟨by rw [h.1]; rfl, by rw [h.1]; rfl⟩, by rw [h.1]; exact Nat.le_refl _⟩, by rw [h.1]; rfl, by rw [h.1]; rfl⟩
  cases o with
  | none =>
    obtain ⟨U, q1, q2⟩ := p2
    have TU := k_t q2 hT
    have wU := TU.1
    obtain ⟨f1, f2, f3⟩ := fF q2
    have f4 : sf_f (F8 k) S (mm_uM U 73 0 (nI 0)) := sf_tr f1 (sf_uM (by unfold F8; omega))
    refine ⟨_, _, PSn j p1, mm_uM U 73 0 (nI 0), ?_, RC_8f ok hR hk.symm hk6 f4 wU rds, sf_mo f4 (fun c j q => by unfold F8 at q; unfold gc_0; omega), sz_s f2 f3⟩
    rw [st, q1, hp_bd, hp_ts, b81_30 (wx_o0 wU) (wx_s0_5 wU) (by rw [wx_g0_5 wU]; exact wx_k73 wU), wx_g0_5 wU, e36, b36_0 (wx_o73 wU), hp_bd, hp_tn, b81_38, if_neg (nI_n0 (by omega)), b81_42]
  | some l =>
    obtain ⟨U, C, q1, ⟨k1, ⟨l1, l2, l3, l4⟩, k8, k9, kc, kcl⟩, hC⟩ := p2
    have okl : ab_okS l := PL_ok 10 [] 0 p1 rfl (fun c hc => by cases hc)
    have TU := k_t k1 hT
    have wU := TU.1
    obtain ⟨f1, f2, f3⟩ := fF k1
    have hU : mm_n U = mm_n S := f2
    have fU : sf_f (F9 k) S U := sf_mo f1 (fun c j q => Or.inl q)
    have w0 : mm_W (mm_uM U 73 0 (nI 0)) := wU
    have w2 : mm_W (mm_uR (mm_uM U 73 0 (nI 0)) 6 8 (some (43 + 5 * k))) := sf_W (sf_uR (F := fun c j => c = 6 ∧ j = 8) ⟨rfl, rfl⟩) w0 (fun c j b hF e => by
      obtain ⟨rfl, rfl⟩ := hF
      cases e)
    have m3 : mm_M (mm_uM U 73 0 (nI 0)) (43 + 5 * k) 3 = nI (ab_law l 5 0) := (rdn (by omega)).trans l4
    have m11 : mm_M (mm_uM (mm_uR (mm_uM U 73 0 (nI 0)) 6 8 (some (43 + 5 * k))) 6 9 (nI (ab_law l 5 0))) 0 11 = nI k := (rdn (by omega)).trans ((show mm_M (mm_uM U 73 0 (nI 0)) 0 11 = nI k from (rdn (by omega)).trans ((f1.1 0 11 (by unfold F8; omega)).1.trans h11)))
    have w3 : mm_W (mm_uM (mm_uR (mm_uM U 73 0 (nI 0)) 6 8 (some (43 + 5 * k))) 6 9 (nI (ab_law l 5 0))) := w2
    have w4 : mm_W (mm_uM (mm_uM (mm_uR (mm_uM U 73 0 (nI 0)) 6 8 (some (43 + 5 * k))) 6 9 (nI (ab_law l 5 0))) 0 11 (nI (k + 1))) := w2
    have f4 : sf_f (F9 k) S (mm_uM (mm_uM (mm_uR (mm_uM U 73 0 (nI 0)) 6 8 (some (43 + 5 * k))) 6 9 (nI (ab_law l 5 0))) 0 11 (nI (k + 1))) := sf_tr fU (sf_tr (sf_uM (by unfold F9 F8; omega)) (sf_tr (sf_uR (by unfold F9; omega)) (sf_tr (sf_uM (by unfold F9; omega)) (sf_uM (by unfold F9; omega)))))
    have rr : ∀ c j, ¬ ((c = 73 ∧ j = 0) ∨ (c = 6 ∧ j = 9) ∨ (c = 0 ∧ j = 11)) → mm_M (mm_uM (mm_uM (mm_uR (mm_uM U 73 0 (nI 0)) 6 8 (some (43 + 5 * k))) 6 9 (nI (ab_law l 5 0))) 0 11 (nI (k + 1))) c j = mm_M U c j := fun c j h => (rdn (by omega)).trans ((rdn (by omega)).trans (show mm_M (mm_uM U 73 0 (nI 0)) c j = mm_M U c j from rdn (by omega)))
    have R8 : mm_R (mm_uM (mm_uM (mm_uR (mm_uM U 73 0 (nI 0)) 6 8 (some (43 + 5 * k))) 6 9 (nI (ab_law l 5 0))) 0 11 (nI (k + 1))) 6 8 = some (43 + 5 * k) := by
      show mm_R (mm_uR (mm_uM U 73 0 (nI 0)) 6 8 (some (43 + 5 * k))) 6 8 = _
      rw [hp_RuR, if_pos ⟨rfl, rfl⟩]
    have run : mm_cl (d + 23) 81 [.ref 0] S = some (some (.int (nI k)), mm_uM (mm_uM (mm_uR (mm_uM U 73 0 (nI 0)) 6 8 (some (43 + 5 * k))) 6 9 (nI (ab_law l 5 0))) 0 11 (nI (k + 1))) := by
      rw [st, q1, hp_bd, hp_ts, b81_30 (wx_o0 wU) (wx_s0_5 wU) (by rw [wx_g0_5 wU]; exact wx_k73 wU), wx_g0_5 wU, e36, b36_0 (wx_o73 wU), hp_bd, hp_tn, b81_38, if_pos (by decide), b81_47 (wx_o0 w0) (wx_s0_0 w0) (by rw [wx_g0_0 w0]; exact wx_k6 w0), wx_g0_0 w0, e10, b10_0 (wx_o6 w0) (by show 43 + 5 * k < mm_n U; omega) (ws_o w0 hs), m3, hp_bd, hp_tn, b81_55 (wx_o0 w3), m11, nI_add]
    have hcs : cd_cs (mm_uM (mm_uM (mm_uR (mm_uM U 73 0 (nI 0)) 6 8 (some (43 + 5 * k))) 6 9 (nI (ab_law l 5 0))) 0 11 (nI (k + 1))) (43 + 5 * k) l := ⟨(rr _ _ (by omega)).trans l1, (rr _ _ (by omega)).trans l2, (rr _ _ (by omega)).trans l3, (rr _ _ (by omega)).trans l4, (cd_el l).length, C.length, Nat.le_trans (List.length_filter_le _ _) okl.1, hC, (rr _ _ (by omega)).trans k8, (rr _ _ (by omega)).trans k9, ccl_tr (fun m a _ _ _ => rr _ _ (by omega)) (fun a _ => rr _ _ (by omega)) kcl⟩
    have ho := F9_h (S := S) hk6
    obtain ⟨-, ⟨⟨x1, x2, x3, x4, x5, -⟩, xD, x16, x17, xf, xh⟩, ⟨h2, -⟩, h3, h4, ⟨s1, s2, s3⟩, h6', h7, h8⟩ := hR
    have g := f4.1
    refine ⟨_, _, PSs j l p1, _, run, ⟨w4, ⟨⟨(g _ _ (by unfold F9 F8; omega)).1.trans x1, ?_, fun b hb => (g _ _ (by unfold F9 F8; omega)).1.trans (x3 b hb), fun i hi => (g _ _ (by unfold F9 F8; omega)).1.trans (x4 i hi), fun b hb => ?_, 43 + 5 * k, R8, hs, hcs⟩, tr_D f4 (fun m j hm => by unfold F9 F8; omega) xD, (g _ _ (by unfold F9 F8; omega)).1.trans x16, (g _ _ (by unfold F9 F8; omega)).1.trans x17, fun i hi => (g _ _ (by unfold F9 F8; omega)).1.trans (xf i hi), ?_⟩, ⟨fun i hi e he => ?_, 43 + 5 * k, hs, R8⟩, tr_q f4 (fun j => by unfold F9 F8; omega) (by unfold F9 F8; omega) h3, tr_i8 f4 ho (by unfold F9 F8; omega) (fun c j a b => by unfold F9 F8; omega) (fun Y hY q hq => by rw [← hk]; exact h_lt (ok.2.1 Y hY) q hq) h4, ⟨?_, fun i hi => ?_, tr_cs f4 (fun m j hm => by unfold F9 F8; omega) s3⟩, ⟨?_, fun i hi => absurd hi (Nat.not_lt_zero _)⟩, tr_p f4 (fun c j a b => by unfold F9 F8; omega) h7, tr_r f4 (fun j => by unfold F9 F8; omega) h8⟩, sf_mo f4 (fun c j q => by unfold F9 F8 at q; unfold gc_0; omega), sz_s f2 f3⟩
    · exact (rdn (by omega)).trans rds
    · obtain ⟨e, he, hy⟩ := x5 b hb
      exact ⟨e, (g _ _ (by unfold F9 F8; omega)).2.2.trans he, tr_by f4 (fun j _ => ho.1 e j hy.1 hy.2.1) hy⟩
    · show _ = some (gc_ad (some (gb_s G).length))
      rw [R8, hk]
      rfl
    · rw [(g _ _ (by unfold F9 F8; omega)).2.2] at he
      exact tr_o f4 (h2 i hi e he)
    · show _ = nI (gb_s G ++ [l]).length
      rw [rds, la1, hk]
    · have hi2 : i < (gb_s G ++ [l]).length := hi
      rw [la1, hk] at hi2
      show cd_cs _ (43 + 5 * i) ((gb_s G ++ [l]).getD i [])
      by_cases ik : i = k
      · subst ik
        rw [← hk, ga_r]
        rw [hk]
        exact hcs
      · rw [ga_l (by omega)]
        exact tr_cs f4 (fun m j hm q => by unfold F9 F8 at q; omega) (s2 i (by omega))
    · exact (rdn (by omega)).trans ((rdn (by omega)).trans (show mm_M (mm_uM U 73 0 (nI 0)) 73 0 = nI 0 from rds))
end C8B
