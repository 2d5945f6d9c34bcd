/-! ===== the strings of the class ===== -/
def stl : List (List Nat) := [[59], [109, 111, 114, 101, 32], [99, 111, 115, 116, 32], [117, 112, 32], [100, 111, 119, 110, 32], [97, 119, 97, 121, 32], [102, 101, 101, 32], [], [32], [41], [98, 107, 112, 108, 114, 97, 102], [60, 61, 62]]
def stg (q : Nat) : List Nat := stl.getD q []
def sta (q : Nat) : Nat := 1000000 + 2 * q
section CST
variable {S T U : mm_S} {d i j k n q c : Nat} {x y : Int32} {l : List Nat}
theorem c12 (hq : q < 12) : q = 0 ∨ q = 1 ∨ q = 2 ∨ q = 3 ∨ q = 4 ∨ q = 5 ∨ q = 6 ∨ q = 7 ∨ q = 8 ∨ q = 9 ∨ q = 10 ∨ q = 11 := by omega
theorem st_S (hq : q < 12) : mm_isS (sta q) = true := by
  rcases c12 hq with rfl | rfl | rfl | rfl | rfl | rfl | rfl | rfl | rfl | rfl | rfl | rfl <;> decide
theorem st_B (hq : q < 12) : mm_isB (sta q + 1) = true := by
  rcases c12 hq with rfl | rfl | rfl | rfl | rfl | rfl | rfl | rfl | rfl | rfl | rfl | rfl <;> decide
theorem st_b (hq : q < 12) : mm_by (sta q + 1) = (stg q).map nI := by
  rcases c12 hq with rfl | rfl | rfl | rfl | rfl | rfl | rfl | rfl | rfl | rfl | rfl | rfl <;> decide
theorem st_l : ∀ q, q < 12 → (stg q).length ≤ 7 ∧ ∀ i, i < (stg q).length → 0 < (stg q).getD i 0 ∧ (stg q).getD i 0 < 128 := by decide
theorem st_ln (hq : q < 12) : (mm_by (sta q + 1)).length = (stg q).length := by rw [st_b hq, List.length_map]
theorem st_g (hq : q < 12) (hi : i < (stg q).length) : (mm_by (sta q + 1)).getD i 0 = nI ((stg q).getD i 0) := by
  rw [st_b hq, List.getD_eq_getElem?_getD, List.getElem?_map, List.getD_eq_getElem?_getD, List.getElem?_eq_getElem hi]
  rfl
theorem st_k (hn : mm_n S < 1000000) (hq : q < 12) : mm_rk S (sta q) = 100 := by
  rw [hn_k, if_neg (by unfold sta; omega), if_pos (st_S hq)]
theorem st_nk (hn : mm_n S < 1000000) : (decide (sta q + 1 < mm_n S) && decide (13 ≤ mm_K S (sta q + 1)) && decide (mm_K S (sta q + 1) < 19)) = false := by
  rw [decide_eq_false (by unfold sta; omega), Bool.false_and, Bool.false_and]
theorem st_na (hn : mm_n S < 1000000) : mm_arr S (sta q + 1) 15 = false := by
  rw [hn_a, decide_eq_false (by unfold sta; omega), Bool.false_and]
theorem s217 (hq : q < 12) : mm_cl d 217 [.ref (sta q)] S = some (some (.int (nI 0)), S) := by
  rw [e217, b217_0, if_neg i01, b217_6 (st_S hq)]
theorem s218 (hq : q < 12) : mm_cl d 218 [.ref (sta q)] S = some (some (.int (nI 1)), S) := by
  rw [e218, b218_0, if_neg i01, b218_6 (st_S hq), if_pos rfl, b218_13]
theorem s212 (hn : mm_n S < 1000000) (hq : q < 12) : mm_cl (d + 1) 212 [.ref (sta q)] S = some (some (.int (nI (stg q).length)), S) := by
  have e : ∀ m, m < 8 → nI m >>> (nI 0 &&& 31) = nI m := by decide
  have hl := (st_l q hq).1
  rw [e212, b212_0 (st_S hq) (st_nk hn) (st_B hq) (st_k hn hq), s217 hq, hp_bd, hp_tsc, b212_9, st_ln hq, e _ (by omega)]
theorem s213 (hn : mm_n S < 1000000) (hq : q < 12) : mm_cl d 213 [.ref (sta q)] S = some (some (.int (if (stg q).length = 0 then nI 1 else nI 0)), S) := by
  have hl := (st_l q hq).1
  rw [e213, b213_0 (st_S hq) (st_nk hn) (st_B hq), st_ln hq]
  by_cases h : (stg q).length = 0
  · rw [if_pos (by rw [h]), if_pos h, b213_8]
  · rw [if_neg (fun e => h ((nI_eq (by omega) (by omega)).mp e)), if_neg h, b213_12]
theorem f224_0 {x0 x1 : Int32} : mm_ex d 224 0 [.int x0, .int x1, mm_FM] [] S = if x0 < nI 0 then mm_ex d 224 9 [.int x0, .int x1, mm_FM] [] S else mm_ex d 224 4 [.int x0, .int x1, mm_FM] [] S :=
  Eq.trans (mx_iload_n t224 d224_0 (x := x0) rfl) <|
  (mx_ilt t224 d224_1 (tgt := 9) (by decide))
theorem f224_4 {x0 x1 : Int32} : mm_ex d 224 4 [.int x0, .int x1, mm_FM] [] S = if x0 < x1 then mm_ex d 224 16 [.int x0, .int x1, mm_FM] [] S else mm_ex d 224 9 [.int x0, .int x1, mm_FM] [] S :=
  Eq.trans (mx_iload_n t224 d224_4 (x := x0) rfl) <|
  Eq.trans (mx_iload_n t224 d224_5 (x := x1) rfl) <|
  (mx_clt t224 d224_6 (tgt := 16) (by decide))
theorem f224_16 {x0 x1 : Int32} : mm_ex d 224 16 [.int x0, .int x1, mm_FM] [] S = some (some (.int x0), S) :=
  Eq.trans (mx_iload_n t224 d224_16 (x := x0) rfl) <|
  (mx_iret t224 d224_17 (ty := .int) rfl rfl (fun h => nomatch h))
theorem f224 {x0 x1 : Int32} : mm_cl d 224 [.int x0, .int x1, mm_FM] S = mm_ex d 224 0 [.int x0, .int x1, mm_FM] [] S := mm_cl_eq t224 (Nat.le_of_ble_eq_true rfl) rfl
theorem s219 (hi : i < n) (hn : n < 2 ^ 30) : mm_cl (d + 1) 219 [.int (nI i), .int (nI n)] S = some (none, S) := by
  rw [e219, b219_0, f224, f224_0, if_neg (nI_n0 (by omega)), f224_4, if_pos (nI_lt hi (by omega)), f224_16, hp_bd, hp_ts, b219_8]
theorem s214 (hn : mm_n S < 1000000) (hq : q < 12) (hi : i < (stg q).length) : mm_cl (d + 3) 214 [.ref (sta q), .int (nI i)] S = some (some (.int (nI ((stg q).getD i 0))), S) := by
  have hl := (st_l q hq).1
  have h2 := (st_l q hq).2 i hi
  have ci : (nI i).toNatClampNeg = i := nI_clamp (by omega)
  have e : ∀ m, m < 128 → ((nI m &&& nI 255).toUInt32 % 65536).toInt32 = nI m ∧ narrow .char (.int (nI m)) = .int (nI m) := by decide
  have eb := e _ h2.2
  rw [e214, b214_0 (st_k hn hq), s218 hq, hp_bd, hp_ts, b214_4, if_neg i01, b214_7 (st_S hq), e220, b220_0 (st_nk hn) (st_B hq), st_ln hq, s219 hi (by omega), hp_bd, hp_tn, b220_6 (st_na hn) (st_B hq) (by rw [st_ln hq]; exact hp_inb hi (by omega)) (by rw [ci, st_g hq hi, eb.1]; exact eb.2), ci, st_g hq hi, eb.1, hp_bd, hp_ts, b214_15 eb.2]
/-- where a sign is among the signs of a string -/
theorem s223_l (hn : mm_n S < 1000000) (hq : q < 12) (hx : x = nI c) (hc : c < 128) : ∀ k i, i + k = (stg q).length → mm_ex d 223 7 [.ref (sta q + 1), .int y, .int (nI 0), .int (nI (stg q).length), .int x, .int (nI i)] [] S = some (some (.int (pmo ((ab_at c ((stg q).drop i)).map (· + i)))), S) := by
  have hl := (st_l q hq).1
  intro k
  induction k with
  | zero =>
    intro i hi
    have e : i = (stg q).length := by omega
    subst e
    rw [b223_7, if_pos (nI_le (Nat.le_refl _) (by omega)), b223_31, List.drop_length]
    rfl
  | succ k ih =>
    intro i hi
    have hil : i < (stg q).length := by omega
    have h2 := (st_l q hq).2 i hil
    have ci : (nI i).toNatClampNeg = i := nI_clamp (by omega)
    have ed : (stg q).drop i = (stg q).getD i 0 :: (stg q).drop (i + 1) := by
      rw [List.getD_eq_getElem?_getD, List.getElem?_eq_getElem hil]
      exact List.drop_eq_getElem_cons hil
    rw [b223_7, if_neg (nI_ge hil (by omega)), b223_13 (st_na hn) (st_B hq) (by rw [st_ln hq]; exact hp_inb hil (by omega)), ci, st_g hq hil, hx, ed]
    unfold ab_at
    by_cases h : (stg q).getD i 0 = c
    · rw [if_pos (by rw [h]), if_pos h, b223_22]
      show _ = some (some (Value.int (nI (0 + i))), S)
      rw [Nat.zero_add]
    · rw [if_neg (fun e => h ((nI_eq (by omega) (by omega)).mp e)), if_neg h, b223_25, nI_add, ← hx, ih (i + 1) (by omega)]
      congr 4
      cases ab_at c ((stg q).drop (i + 1)) with
      | none => rfl
      | some m =>
        show nI (m + (i + 1)) = nI (m + 1 + i)
        congr 1
        omega
theorem s215 (hn : mm_n S < 1000000) (hq : q < 12) (hl1 : 0 < (stg q).length) (hc : c < 128) : mm_cl (d + 4) 215 [.ref (sta q), .int (nI c)] S = some (some (.int (pmo (ab_at c (stg q)))), S) := by
  have hl := (st_l q hq).1
  have e8 : ∀ m, m < 128 → (nI m).toInt8.toInt32 = nI m := by decide
  have k221 : mm_cl (d + 1) 221 [.int (nI c)] S = some (some (.int (nI 1)), S) := by
    rw [e221, b221_0, if_neg (nI_n0 (by omega)), b221_4, if_neg (nI_nlt (by omega) (by omega)), b221_11]
  have l0 := s223_l (d := d + 1) (S := S) (y := nI c) hn hq (x := nI c) rfl hc (stg q).length 0 (Nat.zero_add _)
  rw [List.drop_zero] at l0
  have em : (ab_at c (stg q)).map (· + 0) = ab_at c (stg q) := by
    cases ab_at c (stg q) with
    | none => rfl
    | some m => rfl
  rw [em] at l0
  have mx : (if nI 0 < nI 0 then nI 0 else nI 0) = nI 0 := by decide
  have mn : (if nI (stg q).length < nI (stg q).length then nI (stg q).length else nI (stg q).length) = nI (stg q).length := by split <;> rfl
  have k222 : mm_cl (d + 2) 222 [.ref (sta q + 1), .int (nI c), .int (nI 0), .int (nI (stg q).length)] S = some (some (.int (pmo (ab_at c (stg q)))), S) := by
    rw [e222, b222_0, k221, hp_bd, hp_ts, b222_4, if_neg i01, b222_9 (st_nk hn) (st_B hq), st_ln hq, mx, mn, if_pos (nI_lt hl1 (by omega)), b222_29, e223, b223_0, e8 c hc, l0, hp_bd, hp_ts, b222_36]
  rw [e215, b215_0 (st_k hn hq), e216, b216_0 (st_k hn hq), s218 hq, hp_bd, hp_ts, b216_4, if_neg i01, b216_7 (st_S hq) (st_k hn hq), s212 hn hq, hp_bd, hp_tsc, b216_17, k222, hp_bd, hp_ts, b216_20, hp_bd, hp_ts, b215_6]
end CST
