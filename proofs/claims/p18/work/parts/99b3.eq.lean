/-! ===== lot: what the baker takes stays small; both sums are one ===== -/
def tv (c : Nat) (t : Int32) : Prop := 0 ≤ t.toInt ∧ t.toInt ≤ (c : Int)
/-- so much at most is taken after i calls -/
def tvG (G : gb_G) (i : Nat) : Prop := tv (1000 * i) (ab_ti (gD G)) ∧ ∀ Y, gb_i G = some Y → tv (1000 * i) (ab_ti (gx_D Y))
section TV
variable {P : ab_P} {D : ab_D} {G G2 : gb_G} {a b c i j n act : Nat} {r : List Nat} {t x y z p w s o k : Int32} {v : Int64}
theorem tv_mo (h : tv a t) (hc : a ≤ b) : tv b t := ⟨h.1, by have := h.2; omega⟩
theorem tv_ad (h : tv c t) (hn : n ≤ 1000) (hc : c ≤ 2 ^ 30) : tv (c + 1000) (t + nI n) := by
  obtain ⟨h1, h2⟩ := h
  have e : (t + nI n).toInt = t.toInt + n := by
    rw [Int32.toInt_add, nI_toInt (by omega)]
    exact Int.bmod_eq_of_le (by omega) (by omega)
  unfold tv
  rw [e]
  exact ⟨by omega, by omega⟩
theorem tv_do (hP : ab_okP P) (hD : ab_okD P D) (h : tv c (ab_ti D)) (hc : c ≤ 2 ^ 30) : tv (c + 1000) (ab_ti (ab_do P D b r act)) := by
  have p1 := hD.2.2.2.1
  have f1 := hP.2.1
  unfold ab_do
  by_cases a1 : act = 1
  · rw [if_pos a1]; exact tv_ad h (by omega) hc
  · rw [if_neg a1]
    by_cases a2 : act = 2
    · rw [if_pos a2]; exact tv_ad h (by omega) hc
    · rw [if_neg a2]; exact tv_mo h (by omega)
theorem tv_turn (hP : ab_okP P) (hD : ab_okD P D) (h : tv c (ab_ti D)) (hc : c ≤ 2 ^ 30) : tv (c + 1000) (ab_ti (ab_turn P D)) := by
  unfold ab_turn ab_does
  cases hr : ab_row D with
  | nil => exact tv_mo h (by omega)
  | cons b r => exact tv_do hP hD h hc
theorem tv_end (hP : ab_okP P) : ∀ (k : Nat) (D : ab_D) (c : Nat), ab_okD P D → tv c (ab_ti D) → c + 1000 * k ≤ 2 ^ 30 → tv (c + 1000 * k) (ab_ti (ab_end P k D)) := by
  intro k
  induction k with
  | zero => intro D c _ h _; exact h
  | succ k ih =>
    intro D c hD h hc
    unfold ab_end
    by_cases q : ab_com D = true
    · rw [if_pos q]
      have h2 := ih (ab_turn P D) (c + 1000) (ab_turn_ok hP hD q).1 (tv_turn hP hD h (by omega)) (by omega)
      rw [show c + 1000 * (k + 1) = c + 1000 + 1000 * k by omega]
      exact h2
    · rw [if_neg q]; exact tv_mo h (by omega)
theorem tv_nat (h : tv c t) (hc : c < 2 ^ 31) : ∃ m, m ≤ c ∧ t.toInt64 = Int64.ofNat m := by
  have h0 : (0 : Int32) ≤ t := by
    rw [Int32.le_iff_toInt_le]
    exact h.1
  refine ⟨t.toNatClampNeg, ?_, (Int64.ofNat_int32ToNatClampNeg t h0).symm⟩
  have e : t.toNatClampNeg = t.toInt.toNat := rfl
  have := h.2
  omega
theorem sm_c : ∀ (fs : List (Nat → Nat)) (s : Int64 × Int64), fs.foldl (ab_sm P D) s = ((fs.map (fun f => np_f f (ab_row D).length)).foldl (fun s l => s + (ab_ti (ab_fin P (gD_row D l))).toInt64) s.1, s.2 + Int64.ofNat fs.length) := by
  intro fs
  induction fs with
  | nil => intro s; show s = (s.1, s.2 + 0); rw [Int64.add_zero]
  | cons f fs ih =>
    intro s
    rw [List.foldl_cons, ih, List.map_cons, List.foldl_cons, List.length_cons]
    refine congrArg (Prod.mk _) ?_
    show s.2 + 1 + Int64.ofNat fs.length = s.2 + Int64.ofNat (fs.length + 1)
    rw [Int64.ofNat_add, Int64.add_assoc, Int64.add_comm 1]
    rfl
theorem sm_r : ∀ (R : List (List Nat)) (a : Nat), (∀ l ∈ R, ∃ m, m ≤ c ∧ (ab_ti (ab_fin P (gD_row D l))).toInt64 = Int64.ofNat m) → ∃ m, m ≤ a + c * R.length ∧ R.foldl (fun s l => s + (ab_ti (ab_fin P (gD_row D l))).toInt64) (Int64.ofNat a) = Int64.ofNat m := by
  intro R
  induction R with
  | nil => intro a _; exact ⟨a, Nat.le_add_right _ _, rfl⟩
  | cons l R ih =>
    intro a h
    obtain ⟨m, h1, h2⟩ := h l List.mem_cons_self
    obtain ⟨m2, h3, h4⟩ := ih (a + m) (fun l hl => h l (List.mem_cons_of_mem _ hl))
    refine ⟨m2, ?_, ?_⟩
    · rw [List.length_cons, Nat.mul_add]; omega
    · rw [List.foldl_cons, h2, ← Int64.ofNat_add, h4]
theorem lf_i (h : n ≤ 5) : (nI (lh_f n)).toInt64 = Int64.ofNat (lh_f n) := by
  rcases (by omega : n = 0 ∨ n = 1 ∨ n = 2 ∨ n = 3 ∨ n = 4 ∨ n = 5) with rfl | rfl | rfl | rfl | rfl | rfl <;> decide
theorem eq_16 (ok : gb_ok G) (hT : tvG G i) (hi : i ≤ 600) : an_16 G x = mn_16 G x := by
  unfold an_16 mn_16
  by_cases c1 : ¬ (x = nI 0 ∨ x = nI 1) ∨ 5 < (ab_row (gD G)).length
  · rw [if_pos c1, if_pos c1]
  rw [if_neg c1, if_neg c1]
  have hx : x = nI 0 ∨ x = nI 1 := by
    by_cases q : x = nI 0 ∨ x = nI 1
    · exact q
    · exact absurd (Or.inl q) c1
  have h5 : (ab_row (gD G)).length ≤ 5 := by
    by_cases q : 5 < (ab_row (gD G)).length
    · exact absurd (Or.inr q) c1
    · omega
  have hr := rows_eq ok h5
  have hlen : (ab_os G).length = lh_f (ab_row (gD G)).length := by
    have := congrArg List.length hr
    rw [List.length_map, List.length_map, List.length_range] at this
    exact this
  have hl := lf_le h5
  have hp := lf_pos (ab_row (gD G)).length
  have hl0 : (np_0 (ab_kn (gP G)) (ab_row (gD G))).length = (ab_row (gD G)).length := n0_len ok.1.2.1.1 ok.1.2.1.2.1
  have hti : ∀ l ∈ (List.range (lh_f (ab_row (gD G)).length)).map (ab_rr (gP G) (gD G)), ∃ m, m ≤ 660000 ∧ (ab_ti (ab_fin (gP G) (gD_row (gD G) l))).toInt64 = Int64.ofNat m := by
    intro l hl
    obtain ⟨o, ho, rfl⟩ := List.mem_map.mp hl
    have pm := lh_perm (ab_row (gD G)).length (np_0 (ab_kn (gP G)) (ab_row (gD G))) o hl0 (List.mem_range.mp ho)
    have oD : ab_okD (gP G) (gD_row (gD G) (ab_rr (gP G) (gD G) o)) := okD_row ok.1.2.1 (pm.nodup_iff.mpr n0_nd) (fun b hb => (n0_me.mp (pm.mem_iff.mp hb)).1)
    have h2 := tv_end ok.1.1 60 (gD_row (gD G) (ab_rr (gP G) (gD G) o)) (1000 * i) oD hT.1 (by omega)
    exact tv_nat (tv_mo h2 (by omega)) (by decide)
  obtain ⟨m, hm, e1⟩ := sm_r _ 0 hti
  rw [List.length_map, List.length_range] at hm
  have em : (List.range (lh_f (ab_row (gD G)).length)).foldl (ab_rs (gP G) (gD G)) 0 = Int64.ofNat m := by
    rw [← e1, List.foldl_map]
    rfl
  rw [sm_c, hr, hlen, lf_i h5, em]
  show ab_lt (List.foldl (fun s l => s + (ab_ti (ab_fin (gP G) (gD_row (gD G) l))).toInt64) (Int64.ofNat 0) ((List.range (lh_f (ab_row (gD G)).length)).map (ab_rr (gP G) (gD G)))) (0 + Int64.ofNat (lh_f (ab_row (gD G)).length)) x = _
  have hm2 : m < 2 ^ 62 := Nat.lt_of_le_of_lt (Nat.le_trans hm (Nat.add_le_add_left (Nat.mul_le_mul_left 660000 hl) 0)) (by decide)
  have h3 := lt_lw (m := 1) (a := m) (b := lh_f (ab_row (gD G)).length) (x := x) (by omega) (by omega) (by decide) (by omega) hp hx
  rw [Nat.one_mul, Nat.one_mul] at h3
  rw [e1, Int64.zero_add]
  exact h3
theorem tvk (h1 : ab_ti (gD G2) = ab_ti (gD G)) (h2 : gb_i G2 = gb_i G) (h : tvG G i) : tvG G2 (i + 1) := by
  unfold tvG at h ⊢
  rw [h1, h2]
  exact ⟨tv_mo h.1 (by omega), fun Y e => tv_mo (h.2 Y e) (by omega)⟩
theorem tv_up (h : tvG G i) : tvG G (i + 1) := tvk rfl rfl h
theorem tvo_0 (h : tvG G i) : tvG (op_0 G x y z).2 (i + 1) := by
  refine tvk ?_ ?_ h <;> unfold op_0 <;> (repeat' split) <;> rfl
theorem tvo_3 (h : tvG G i) : tvG (op_3 G x y).2 (i + 1) := by
  refine tvk ?_ ?_ h <;> unfold op_3 <;> (repeat' split) <;> rfl
theorem tvo_4 (h : tvG G i) : tvG (op_4 G x p w).2 (i + 1) := by
  refine tvk ?_ ?_ h <;> unfold op_4 <;> (repeat' split) <;> rfl
theorem tvo_5 (h : tvG G i) : tvG (op_5 G x).2 (i + 1) := by
  refine tvk ?_ ?_ h <;> unfold op_5 <;> (repeat' split) <;> rfl
theorem tvo_6 (h : tvG G i) : tvG (op_6 G x y).2 (i + 1) := by
  refine tvk ?_ ?_ h <;> unfold op_6 <;> (repeat' split) <;> rfl
theorem tvo_7 (h : tvG G i) : tvG (op_7 G x).2 (i + 1) := by
  refine tvk ?_ ?_ h <;> unfold op_7 <;> (repeat' split) <;> rfl
theorem tvo_11 (ok : gb_ok G) (hi : i ≤ 600) (h : tvG G i) : tvG (op_11 G).2 (i + 1) := by
  unfold op_11
  by_cases q : ab_com (gD G) = true
  · rw [if_pos q]
    exact ⟨tv_mo (tv_turn ok.1.1 ok.1.2.1 h.1 (by omega)) (by omega), fun Y e => tv_mo (h.2 Y e) (by omega)⟩
  · rw [if_neg q]; exact tv_up h
theorem tvo_20 (h : tvG G i) : tvG (op_20 G x).2 (i + 1) := by
  refine tvk ?_ ?_ h <;> unfold op_20 <;> (repeat' split) <;> rfl
theorem tvo_22 (h : tvG G i) : tvG (op_22 G x).2 (i + 1) := by
  refine tvk ?_ ?_ h <;> unfold op_22 <;> (repeat' split) <;> rfl
theorem tvo_25 (h : tvG G i) : tvG (op_25 G).2 (i + 1) := ⟨tv_mo h.1 (by omega), fun Y e => by cases e; exact tv_mo h.1 (by omega)⟩
theorem tvo_26 (h : tvG G i) : tvG (op_26 G).2 (i + 1) := by
  unfold op_26
  cases e : gb_i G with
  | none => exact tv_up h
  | some Y => exact ⟨tv_mo (h.2 Y e) (by omega), fun Z e2 => tv_mo (h.2 Z e2) (by omega)⟩
theorem tvo_27 (h : tvG G i) : tvG (op_27 G x y z).2 (i + 1) := by
  refine tvk ?_ ?_ h <;> unfold op_27 <;> (repeat' split) <;> rfl
theorem tvo_31 (h : tvG G i) : tvG (op_31 G t s y).2 (i + 1) := by
  refine tvk ?_ ?_ h <;> unfold op_31 <;> (repeat' split) <;> rfl
theorem tvo_32 (h : tvG G i) : tvG (op_32 G t x v).2 (i + 1) := by
  refine tvk ?_ ?_ h <;> unfold op_32 <;> (repeat' split) <;> rfl
theorem tvo_34 (h : tvG G i) : tvG (op_34 G t x o y z).2 (i + 1) := by
  refine tvk ?_ ?_ h <;> unfold op_34 <;> (repeat' split) <;> rfl
theorem tvo_8 (hp : PS G x G2) (h : tvG G i) : tvG G2 (i + 1) := by
  unfold PS at hp
  split at hp
  · rw [hp.2]; exact tv_up h
  · obtain ⟨j, o, -, hp⟩ := hp
    cases o with
    | none =>
      rw [hp.2]
      exact tvk rfl rfl h
    | some l =>
      rw [hp.2]
      exact tvk rfl rfl h
end TV
