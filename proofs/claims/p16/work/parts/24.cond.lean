/-! ===== tests, E and sums in the class ===== -/
theorem bt_L (x : Int32) (i : Nat) : (x <<< (nI 1 &&& 31)).toBitVec.getLsbD i = (decide (i < 32) && !decide (i < 1) && x.toBitVec.getLsbD (i - 1)) := by
  have e : (x <<< (nI 1 &&& 31)).toBitVec = x.toBitVec <<< (1 : Nat) := by rw [Int32.toBitVec_shiftLeft]; rfl
  rw [e, BitVec.getLsbD_shiftLeft]
theorem bt_R (x : Int32) (i : Nat) (h : i + 1 < 32) : (x >>> (nI 1 &&& 31)).toBitVec.getLsbD i = x.toBitVec.getLsbD (i + 1) := by
  have e : (x >>> (nI 1 &&& 31)).toBitVec = x.toBitVec.sshiftRight 1 := by rw [Int32.toBitVec_shiftRight]; rfl
  rw [e, BitVec.getLsbD_sshiftRight, if_pos (by omega), Nat.add_comm 1 i]
  have h2 : decide (32 ≤ i) = false := decide_eq_false (by omega)
  rw [h2]; rfl
theorem bt_1 : ∀ i, i < 32 → (nI 1).toBitVec.getLsbD i = decide (i = 0) := by decide
theorem bt_0 : ∀ i, i < 32 → (nI 0).toBitVec.getLsbD i = false := by decide
theorem bt_2 : ∀ i, i < 32 → (-2 : Int32).toBitVec.getLsbD i = !decide (i = 0) := by decide
/-- the lowest bits of x are the answers that wait -/
def cb_bs (x : Int32) (st : List Bool) : Prop := ∀ i, i < st.length → x.toBitVec.getLsbD i = st.getD i false
section BS
variable {x : Int32} {st : List Bool} {u v : Bool}
theorem bs_push (h : cb_bs x st) (hs : st.length < 31) : cb_bs ((x <<< (nI 1 &&& 31)) ||| (if u = true then nI 1 else nI 0)) (u :: st) := by
  intro i hi
  rw [List.length_cons] at hi
  rw [Int32.toBitVec_or, BitVec.getLsbD_or, bt_L]
  cases i with
  | zero => cases u <;> rfl
  | succ i =>
    have h0 : (if u = true then nI 1 else nI 0).toBitVec.getLsbD (i + 1) = false := by
      cases u
      · exact bt_0 _ (by omega)
      · exact (bt_1 _ (by omega)).trans (decide_eq_false (by omega))
    rw [h0, Bool.or_false, Nat.add_sub_cancel, h i (by omega), decide_eq_true (by omega : i + 1 < 32), decide_eq_false (by omega : ¬ i + 1 < 1)]
    rfl
theorem bs_not (h : cb_bs x (u :: st)) (hs : (u :: st).length < 31) : cb_bs (x ^^^ nI 1) ((!u) :: st) := by
  intro i hi
  rw [List.length_cons] at hi hs
  rw [Int32.toBitVec_xor, BitVec.getLsbD_xor, bt_1 i (by omega), h i (by rw [List.length_cons]; exact hi)]
  cases i with
  | zero => cases u <;> rfl
  | succ i => simp
theorem bs_or (h : cb_bs x (u :: v :: st)) (hs : (u :: v :: st).length < 31) : cb_bs ((x >>> (nI 1 &&& 31)) ||| (x &&& nI 1)) ((v || u) :: st) := by
  intro i hi
  simp only [List.length_cons] at hi hs
  rw [Int32.toBitVec_or, BitVec.getLsbD_or, Int32.toBitVec_and, BitVec.getLsbD_and, bt_R x i (by omega), bt_1 i (by omega), h (i + 1) (by simp only [List.length_cons]; omega), h i (by simp only [List.length_cons]; omega)]
  cases i with
  | zero => simp
  | succ i => simp
theorem bs_and (h : cb_bs x (u :: v :: st)) (hs : (u :: v :: st).length < 31) : cb_bs ((x >>> (nI 1 &&& 31)) &&& (x ||| (-2))) ((v && u) :: st) := by
  intro i hi
  simp only [List.length_cons] at hi hs
  rw [Int32.toBitVec_and, BitVec.getLsbD_and, Int32.toBitVec_or, BitVec.getLsbD_or, bt_R x i (by omega), bt_2 i (by omega), h (i + 1) (by simp only [List.length_cons]; omega), h i (by simp only [List.length_cons]; omega)]
  cases i with
  | zero => simp
  | succ i => simp
theorem bs_top (h : cb_bs x (u :: st)) : (x &&& nI 1 = nI 1) = (u = true) := by
  have h0 := h 0 (by simp)
  have e : x &&& nI 1 = nI (x.toBitVec.toNat % 2 ^ 1) := pk_and x 1 rfl
  have e2 : x.toBitVec.getLsbD 0 = decide (x.toBitVec.toNat % 2 = 1) := by
    rw [BitVec.getLsbD, Nat.testBit_zero]
  rw [e, nI_eq (by omega) (by omega)]
  rw [e2] at h0
  simp at h0
  show (x.toBitVec.toNat % 2 ^ 1 = 1) = _
  rw [← h0]
  simp
end BS
section TS
variable {S : mm_S} {d q l r n v s i e : Nat} {m : Nat → Nat} {x f : Int32}
theorem if1_b {p : Prop} [Decidable p] : (if decide p = true then nI 1 else nI 0) = if p then nI 1 else nI 0 := by
  by_cases h : p <;> simp [h]
theorem ts_0 : ab_tst v 0 n = decide (v < n) := rfl
theorem ts_1 : ab_tst v 1 n = decide (v = n) := rfl
theorem ts_2 : ab_tst v 2 n = decide (n < v) := rfl
theorem s54 (hq : mm_arr S q 13 = true) (hN : mm_N S q = 7) (hl : l < 7) (hr : r < 3) (hn : n < 100) (hM : mm_M S q l = nI v) (hv : v < 2 ^ 31) : mm_cl d 54 [.int (nI ((l * 3 + r) * 100 + n)), .ref q] S = some (some (.int (if ab_tst v r n = true then nI 1 else nI 0)), S) := by
  have d1 : nI ((l * 3 + r) * 100 + n) / nI 300 = nI l := by
    rw [pk_div (by omega) (by decide) (by decide)]; congr 1; omega
  have d2 : nI ((l * 3 + r) * 100 + n) / nI 100 = nI (l * 3 + r) := by
    rw [pk_div (by omega) (by decide) (by decide)]; congr 1; omega
  have d3 : nI (l * 3 + r) - nI (l * 3 + r) / nI 3 * nI 3 = nI r := by
    rw [pk_rem (by omega) (by decide) (by decide)]; congr 1; omega
  have d4 : nI ((l * 3 + r) * 100 + n) - nI (l * 3 + r) * nI 100 = nI n := by
    rw [nI_mul, pk_sub (by omega)]; congr 1; omega
  have hi : mm_inb (nI l) (mm_N S q) = true := by rw [hN]; exact hp_inb hl (by omega)
  rw [e54, b54_0, d1, if_neg (nI_n0 (by omega)), b54_10 hq, hN, if_pos (nI_lt hl (by decide)), b54_18, d2, d3, d4, b54_32]
  rcases (by omega : r = 0 ∨ r = 1 ∨ r = 2) with rfl | rfl | rfl
  · rw [ts_0, if_pos rfl, b54_60 hi hq, nI_clamp (by omega), hM]
    by_cases h : v < n
    · rw [if_neg (nI_ge h (by omega)), b54_68, if_pos (decide_eq_true h)]
    · rw [if_pos (nI_le (Nat.le_of_not_lt h) hv), b54_72, if_neg (fun e => h (of_decide_eq_true e))]
  · rw [ts_1, if_neg (by decide), if_pos rfl, b54_74 hi hq, nI_clamp (by omega), hM]
    by_cases h : v = n
    · rw [if_pos (by rw [h]), b54_82, if_pos (decide_eq_true h)]
    · rw [if_neg (fun e => h ((nI_eq hv (by omega)).mp e)), b54_86, if_neg (fun e => h (of_decide_eq_true e))]
  · rw [ts_2, if_neg (by decide), if_neg (by decide), b54_88 hi hq, nI_clamp (by omega), hM]
    by_cases h : n < v
    · rw [if_neg (nI_ge h hv), b54_96, if_pos (decide_eq_true h)]
    · rw [if_pos (nI_le (Nat.le_of_not_lt h) (by omega)), b54_100, if_neg (fun e => h (of_decide_eq_true e))]
/-- a row of measures -/
def cd_me (S : mm_S) (q : Nat) (m : Nat → Nat) : Prop := mm_arr S q 13 = true ∧ mm_N S q = 7 ∧ ∀ l, l < 7 → mm_M S q l = nI (m l) ∧ m l < 2 ^ 31
theorem en_inl {t : Nat × Nat × Nat} : ¬ cd_en (.inl t) = -3 ∨ True := Or.inr True.intro
theorem s53_loop (hw : mm_W S) (hs : mm_sh s) (hm : cd_me S q m) : ∀ (c : List ab_T) (i : Nat) (x : Int32) (st : List Bool) (h' : Nat), cd_co S (s + 4) c i → ab_hei c st.length = some h' → cb_bs x st → st.length ≤ 24 → i + c.length = e → e ≤ 100 → ∃ x', mm_ex (d + 1) 53 6 [.ref s, .int f, .int (nI e), .ref q, .int x, .int (nI i)] [] S = mm_ex (d + 1) 53 6 [.ref s, .int f, .int (nI e), .ref q, .int x', .int (nI e)] [] S ∧ cb_bs x' (ab_rn m c st) ∧ (ab_rn m c st).length = h' := by
  intro c
  induction c with
  | nil =>
    intro i x st h' _ hh hb hst hi he
    have e1 : i = e := by simpa using hi
    subst e1
    refine ⟨x, rfl, hb, ?_⟩
    exact Option.some.inj hh
  | cons t c ih =>
    intro i x st h' hc hh hb hst hi he
    rw [List.length_cons] at hi
    have hie : i < e := by omega
    obtain ⟨h1, h2⟩ := hc
    have inb : mm_inb (nI i) (mm_N S (mm_rg S s 7)) = true := by rw [ws_g7 hw hs, ws_N4 hw hs]; exact hp_inb (by omega) (by omega)
    have arr : mm_arr S (mm_rg S s 7) 13 = true := by rw [ws_g7 hw hs]; exact ws_a4 hw hs
    rw [b53_6, if_neg (nI_ge hie (by omega)), b53_12 (ws_o hw hs) (ws_s7 hw hs) inb arr, ws_g7 hw hs, nI_clamp (by omega), h1, b53_19]
    cases t with
    | inl t =>
      obtain ⟨l, r, n⟩ := t
      unfold ab_hei at hh
      by_cases hq : l < 7 ∧ r < 3 ∧ n < 100 ∧ st.length < 24
      · rw [if_pos hq] at hh
        obtain ⟨q1, q2, q3, q4⟩ := hq
        have ne : ∀ z : Int32, z.toInt < 0 → ¬ cd_en (.inl (l, r, n)) = z := by
          intro z hz hx
          have hx : nI ((l * 3 + r) * 100 + n) = z := hx
          have h9 := congrArg Int32.toInt hx
          have h8 : (nI ((l * 3 + r) * 100 + n)).toInt = (((l * 3 + r) * 100 + n : Nat) : Int) := nI_toInt (by omega)
          rw [h8] at h9
          omega
        obtain ⟨hm1, hm2, hm3⟩ := hm
        have k54 := s54 (d := d) hm1 hm2 q1 q2 q3 (hm3 l q1).1 (hm3 l q1).2
        rw [if_neg (ne _ (by decide)), if_neg (ne _ (by decide)), if_neg (ne _ (by decide)), b53_82 (ws_o hw hs) (ws_s7 hw hs) inb arr, ws_g7 hw hs, nI_clamp (by omega), h1]
        have k54' : mm_cl d 54 [.int (cd_en (.inl (l, r, n))), .ref q] S = _ := k54
        rw [k54', hp_bd, hp_tsc, b53_97]
        have hb2 := bs_push (u := ab_tst (m l) r n) hb (by omega)
        obtain ⟨x', hx1, hx2⟩ := ih (i + 1) _ (ab_tst (m l) r n :: st) h' h2 hh hb2 (by rw [List.length_cons]; omega) (by omega) he
        refine ⟨x', ?_, hx2⟩
        rw [← hx1]
        cases ht : ab_tst (m l) r n with
        | true => rw [if_neg (by decide), b53_100, nI_add, if_pos rfl]
        | false => rw [if_pos (by decide), b53_104, nI_add, if_neg (by decide)]
      · rw [if_neg hq] at hh; cases hh
    | inr o =>
      unfold ab_hei at hh
      by_cases o3 : o = 3
      · subst o3
        rw [if_pos rfl] at hh
        cases st with
        | nil => rw [if_neg (by decide)] at hh; cases hh
        | cons u st =>
          rw [if_pos (by rw [List.length_cons]; omega)] at hh
          have hb2 := bs_not hb (by omega)
          obtain ⟨x', hx1, hx2⟩ := ih (i + 1) _ ((!u) :: st) h' h2 hh hb2 hst (by omega) he
          refine ⟨x', ?_, hx2⟩
          have e1 : cd_en (.inr 3) = -1 := rfl
          rw [← hx1, e1, if_neg (by decide), if_neg (by decide), if_pos rfl, b53_44, nI_add]
      · rw [if_neg o3] at hh
        by_cases ho : (o = 1 ∨ o = 2) ∧ 2 ≤ st.length
        · rw [if_pos ho] at hh
          cases st with
          | nil => exact absurd ho.2 (by decide)
          | cons u st =>
            cases st with
            | nil => exact absurd ho.2 (by simp)
            | cons v st =>
              simp only [List.length_cons] at hst
              rcases ho.1 with rfl | rfl
              · have hb2 := bs_or hb (by simp only [List.length_cons]; omega)
                obtain ⟨x', hx1, hx2⟩ := ih (i + 1) _ ((v || u) :: st) h' h2 hh hb2 (by simp only [List.length_cons]; omega) (by omega) he
                refine ⟨x', ?_, hx2⟩
                have e1 : cd_en (.inr 1) = -3 := rfl
                rw [← hx1, e1, if_pos rfl, b53_68, nI_add]
              · have hb2 := bs_and hb (by simp only [List.length_cons]; omega)
                obtain ⟨x', hx1, hx2⟩ := ih (i + 1) _ ((v && u) :: st) h' h2 hh hb2 (by simp only [List.length_cons]; omega) (by omega) he
                refine ⟨x', ?_, hx2⟩
                have e1 : cd_en (.inr 2) = -2 := rfl
                rw [← hx1, e1, if_neg (by decide), if_pos rfl, b53_53, nI_add]
        · rw [if_neg ho] at hh; cases hh
theorem s53 (hw : mm_W S) (hs : mm_sh s) (hm : cd_me S q m) {c : List ab_T} (hc : cd_co S (s + 4) c i) (hh : ab_hei c 0 = some 1) (he : i + c.length ≤ 100) : mm_cl (d + 1) 53 [.ref s, .int (nI i), .int (nI (i + c.length)), .ref q] S = some (some (.int (if ab_hold m c = true then nI 1 else nI 0)), S) := by
  obtain ⟨x, h1, h2, h3⟩ := s53_loop (d := d) (f := nI i) hw hs hm c i (nI 0) [] 1 hc hh (fun i hi => absurd hi (Nat.not_lt_zero i)) (by decide) rfl he
  rw [e53, b53_0, h1, b53_6, if_pos (nI_le (Nat.le_refl _) (by omega)), b53_114]
  unfold ab_hold
  cases hr : ab_rn m c [] with
  | nil => rw [hr] at h3; cases h3
  | cons u st =>
    rw [hr] at h2
    have h4 := bs_top h2
    show _ = some (some (Value.int (if u = true then nI 1 else nI 0)), S)
    cases u with
    | true => rw [if_pos (by rw [h4]), b53_122, if_pos rfl]
    | false => rw [if_neg (by rw [h4]; decide), b53_126, if_neg (by decide)]
theorem s52_loop (hw : mm_W S) (hs : mm_sh s) (hm : cd_me S q m) {w j n0 : Nat} (hw2 : w < 2) (hj : j ≤ 10) (hn0 : n0 ≤ 100) (h8 : mm_M S s 8 = nI j) : ∀ (l : List ab_C) (k i n : Nat), cd_cl S s l k i j n0 → (∀ c ∈ l, ab_okC c ∧ c.1 < 2) → mm_ex (d + 2) 52 8 [.ref s, .int (nI w), .ref q, .int (nI n), .int (nI i), .int (nI k)] [] S = some (some (.int (nI (ab_sum m w l n))), S) := by
  intro l
  induction l with
  | nil =>
    intro k i n hc _
    obtain ⟨rfl, rfl⟩ := hc
    rw [b52_8 (ws_o hw hs), h8, if_pos (nI_le (Nat.le_refl _) (by omega)), b52_70]
    rfl
  | cons c l ih =>
    intro k i n hc hok
    obtain ⟨h1, h2, h3, h4, h5⟩ := hc
    have hb : ∀ (l : List ab_C) (k i : Nat), cd_cl S s l k i j n0 → k ≤ j ∧ i ≤ n0 := by
      intro l
      induction l with
      | nil => intro k i h; exact ⟨by rw [h.1]; exact Nat.le_refl _, by rw [h.2]; exact Nat.le_refl _⟩
      | cons c l ih => intro k i h; have := ih _ _ h.2.2.2.2; omega
    have hkj := hb _ _ _ h5
    have hok1 := hok c List.mem_cons_self
    have hi4 : mm_inb (nI k) (mm_N S (mm_rg S s 4)) = true := by rw [ws_g4 hw hs, ws_N1 hw hs]; exact hp_inb (by omega) (by omega)
    have hi5 : mm_inb (nI k) (mm_N S (mm_rg S s 5)) = true := by rw [ws_g5 hw hs, ws_N2 hw hs]; exact hp_inb (by omega) (by omega)
    have hi6 : mm_inb (nI k) (mm_N S (mm_rg S s 6)) = true := by rw [ws_g6 hw hs, ws_N3 hw hs]; exact hp_inb (by omega) (by omega)
    have a4 : mm_arr S (mm_rg S s 4) 13 = true := by rw [ws_g4 hw hs]; exact ws_a1 hw hs
    have a5 : mm_arr S (mm_rg S s 5) 13 = true := by rw [ws_g5 hw hs]; exact ws_a2 hw hs
    have a6 : mm_arr S (mm_rg S s 6) 13 = true := by rw [ws_g6 hw hs]; exact ws_a3 hw hs
    have hsum : ab_sum m w (c :: l) n = ab_sum m w l (if c.1 = w ∧ ab_hold m c.2.2 = true then n + c.2.1 else n) := rfl
    rw [b52_8 (ws_o hw hs), h8, if_neg (nI_ge (by omega) (by omega)), b52_17 (ws_o hw hs) (ws_s4 hw hs) hi4 a4, ws_g4 hw hs, nI_clamp (by omega), h1, hsum]
    have ihq := fun n => ih (k + 1) _ n h5 (fun c hc => hok c (List.mem_cons_of_mem _ hc))
    by_cases hcw : c.1 = w
    · rw [if_pos (by rw [hcw]), b52_28 (ws_o hw hs) (ws_s6 hw hs) hi6 a6 (ws_k hw hs), ws_g6 hw hs, nI_clamp (by omega), h3, s53 hw hs hm h4 (hok1.1.2.2 hok1.2) (by omega), hp_bd, hp_ts, b52_42]
      by_cases hh : ab_hold m c.2.2 = true
      · rw [if_pos hh, if_neg (by decide), b52_45 (ws_o hw hs) (ws_s5 hw hs) hi5 a5 (ws_s6 hw hs) hi6 a6, ws_g5 hw hs, ws_g6 hw hs, nI_clamp (by omega), h2, h3, nI_add, nI_add, ihq, if_pos ⟨hcw, hh⟩]
      · rw [if_neg hh, if_pos rfl, b52_55 (ws_o hw hs) (ws_s6 hw hs) hi6 a6, ws_g6 hw hs, nI_clamp (by omega), h3, nI_add, ihq, if_neg (fun e => hh e.2)]
    · have h01 := hok1.2
      rw [if_neg (fun e => hcw ((nI_eq (by omega) (by omega)).mp e)), b52_55 (ws_o hw hs) (ws_s6 hw hs) hi6 a6, ws_g6 hw hs, nI_clamp (by omega), h3, nI_add, ihq, if_neg (fun e => hcw e.1)]
theorem sum_el {w : Nat} (hw2 : w < 2) : ∀ (l : List ab_C) (n : Nat), ab_sum m w (cd_el l) n = ab_sum m w l n := by
  intro l
  induction l with
  | nil => intro n; rfl
  | cons c l ih =>
    intro n
    unfold cd_el
    by_cases h : c.1 < 2
    · rw [List.filter_cons_of_pos (by simpa using h)]
      exact ih _
    · rw [List.filter_cons_of_neg (by simpa using h)]
      have e : ab_sum m w (c :: l) n = ab_sum m w l (if c.1 = w ∧ ab_hold m c.2.2 = true then n + c.2.1 else n) := rfl
      rw [e, if_neg (fun e => h (by omega))]
      exact ih n
theorem s52 (hw : mm_W S) (hs : mm_sh s) (hm : cd_me S q m) {l : List ab_C} {w : Nat} (hw2 : w < 2) (hl : ab_okS l) (hc : cd_cs S s l) : mm_cl (d + 2) 52 [.ref s, .int (nI w), .ref q] S = some (some (.int (nI (ab_sum m w l 0))), S) := by
  obtain ⟨-, -, -, -, j, n, hj, hn, h8, -, h9⟩ := hc
  have h := s52_loop (d := d) hw hs hm hw2 hj hn h8 (cd_el l) 0 0 0 h9 (fun c hc => by
    unfold cd_el at hc
    rw [List.mem_filter] at hc
    exact ⟨hl.2 c hc.1, by simpa using hc.2⟩)
  rw [e52, b52_0, h, sum_el hw2]
end TS
