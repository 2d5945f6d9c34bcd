/-! ===== lowest terms: the class's and the reference's ===== -/
def eu : Nat → Nat → Nat → Nat
  | 0, a, _ => a
  | k + 1, a, b => if b = 0 then a else eu k b (a % b)
section GC
variable {n a b m : Nat} {x : Int32}
theorem j_le (h : n < 2 ^ 63) : lg_cmp (Int64.ofNat n) 0 ≤ nI 0 ↔ n = 0 := (lg_cmp_le (Int64.ofNat n) 0).trans (by
  rw [Int64.le_iff_toInt_le, Int64.toInt_ofNat_of_lt h, show (0 : Int64).toInt = 0 from rfl]
  omega)
theorem j_lt (h : n < 2 ^ 63) : nI 0 < lg_cmp (Int64.ofNat n) 0 ↔ 0 < n := (lg_cmp_gt (Int64.ofNat n) 0).trans (by
  rw [Int64.lt_iff_toInt_lt, Int64.toInt_ofNat_of_lt h, show (0 : Int64).toInt = 0 from rfl]
  omega)
theorem j_0 (h : n < 2 ^ 63) : Int64.ofNat n = 0 ↔ n = 0 := by
  constructor
  · intro e
    have h2 := congrArg Int64.toInt e
    rw [Int64.toInt_ofNat_of_lt h, show (0 : Int64).toInt = 0 from rfl] at h2
    omega
  · intro e; rw [e]; rfl
theorem j_md (ha : a < 2 ^ 62) (hb : b < 2 ^ 62) : Int64.ofNat a - Int64.ofNat a / Int64.ofNat b * Int64.ofNat b = Int64.ofNat (a % b) := by
  rw [← Int64.ofNat_div (by omega) (by omega), ← Int64.ofNat_mul, ← Int64.ofNat_sub _ _ (Nat.div_mul_le_self a b)]
  congr 1
  have h := Nat.div_add_mod a b
  rw [Nat.mul_comm] at h
  omega
theorem lt_eu : ∀ k a b : Nat, a < 2 ^ 62 → b < 2 ^ 62 → lt_l k (Int64.ofNat a) (Int64.ofNat b) = Int64.ofNat (eu k a b) := by
  intro k
  induction k with
  | zero => intro a b _ _; rfl
  | succ k ih =>
    intro a b ha hb
    unfold lt_l eu
    by_cases h : b = 0
    · rw [if_pos ((j_le (by omega)).mpr h), if_pos h]
    · have := Nat.mod_lt a (Nat.pos_of_ne_zero h)
      rw [if_neg (fun z => h ((j_le (by omega)).mp z)), if_neg h, j_md ha hb, ih b (a % b) hb (by omega)]
theorem lw_eu : ∀ k a b : Nat, a < 2 ^ 62 → b < 2 ^ 62 → lw_g k (Int64.ofNat a) (Int64.ofNat b) = Int64.ofNat (eu k a b) := by
  intro k
  induction k with
  | zero => intro a b _ _; rfl
  | succ k ih =>
    intro a b ha hb
    unfold lw_g eu
    by_cases h : b = 0
    · rw [if_pos ((j_0 (by omega)).mpr h), if_pos h]
    · have := Nat.mod_lt a (Nat.pos_of_ne_zero h)
      rw [if_neg (fun z => h ((j_0 (by omega)).mp z)), if_neg h, j_md ha hb, ih b (a % b) hb (by omega)]
theorem eu_n : ∀ k a b : Nat, b < k → eu k a b = Nat.gcd b a := by
  intro k
  induction k with
  | zero => intro a b h; exact absurd h (Nat.not_lt_zero _)
  | succ k ih =>
    intro a b h
    unfold eu
    by_cases h0 : b = 0
    · rw [if_pos h0, h0, Nat.gcd_zero_left]
    · have := Nat.mod_lt a (Nat.pos_of_ne_zero h0)
      rw [if_neg h0, ih b (a % b) (by omega), Nat.gcd_rec b a]
theorem eu_2 : ∀ j k a b : Nat, b < 2 ^ j → 2 * j + 1 ≤ k → eu k a b = Nat.gcd b a := by
  intro j
  induction j with
  | zero =>
    intro k a b h hk
    obtain ⟨k2, rfl⟩ : ∃ k2, k = k2 + 1 := ⟨k - 1, by omega⟩
    have h0 : b = 0 := by rw [Nat.pow_zero] at h; omega
    unfold eu
    rw [if_pos h0, h0, Nat.gcd_zero_left]
  | succ j ih =>
    intro k a b h hk
    obtain ⟨k2, rfl⟩ : ∃ k2, k = k2 + 1 + 1 := ⟨k - 2, by omega⟩
    unfold eu
    by_cases h0 : b = 0
    · rw [if_pos h0, h0, Nat.gcd_zero_left]
    rw [if_neg h0]
    unfold eu
    have r1 := Nat.mod_lt a (Nat.pos_of_ne_zero h0)
    by_cases h1 : a % b = 0
    · rw [if_pos h1, Nat.gcd_rec, h1, Nat.gcd_zero_left]
    · have p1 : 0 < a % b := Nat.pos_of_ne_zero h1
      have r2 := Nat.mod_lt b p1
      have r3 := Nat.div_add_mod b (a % b)
      have r4 : a % b ≤ (a % b) * (b / (a % b)) := Nat.le_mul_of_pos_right _ (Nat.div_pos (by omega) p1)
      have r5 : b % (a % b) < 2 ^ j := by rw [Nat.pow_succ] at h; omega
      rw [if_neg h1, ih k2 _ _ r5 (by omega), Nat.gcd_rec b a, Nat.gcd_rec (a % b) b]
theorem lt_lw (h1 : m * a < 2 ^ 62) (h2 : m * b < 2 ^ 62) (hm : 0 < m) (hb : b < 2 ^ 20) (h0 : 0 < b) (hx : x = nI 0 ∨ x = nI 1) : ab_lt (Int64.ofNat a) (Int64.ofNat b) x = lw_l (Int64.ofNat (m * a)) (Int64.ofNat (m * b)) x := by
  have a62 : a < 2 ^ 62 := Nat.lt_of_le_of_lt (Nat.le_mul_of_pos_left a hm) h1
  have b62 : b < 2 ^ 62 := Nat.lt_of_le_of_lt (Nat.le_mul_of_pos_left b hm) h2
  have g0 : 0 < Nat.gcd b a := Nat.gcd_pos_of_pos_left a h0
  have gb : Nat.gcd b a ≤ b := Nat.gcd_le_left a h0
  have gm : m * Nat.gcd b a ≤ m * b := Nat.mul_le_mul_left m gb
  have e1 : lt_l 100 (Int64.ofNat a) (Int64.ofNat b) = Int64.ofNat (Nat.gcd b a) := by rw [lt_eu 100 a b a62 b62, eu_2 20 100 a b hb (by decide)]
  have e2 : lw_g ((Int64.ofNat (m * b)).toInt.natAbs + 1) (Int64.ofNat (m * a)) (Int64.ofNat (m * b)) = Int64.ofNat (m * Nat.gcd b a) := by
    rw [Int64.toInt_ofNat_of_lt (by omega), Int.natAbs_natCast, lw_eu _ _ _ h1 h2, eu_n _ _ _ (Nat.lt_succ_self _), Nat.gcd_mul_left]
  unfold ab_lt lw_l
  rw [e1, e2, if_pos ((j_lt (by omega)).mpr g0)]
  by_cases ha : a = 0
  · rw [if_pos ((j_0 (by omega)).mpr (by rw [ha, Nat.mul_zero])), ha, Nat.gcd_zero_right, ← Int64.ofNat_div (by omega) (by omega), ← Int64.ofNat_div (by omega) (by omega), Nat.zero_div, Nat.div_self h0]
    rcases hx with rfl | rfl
    · rw [if_pos rfl]; rfl
    · rw [if_neg (by decide)]; rfl
  · have hma : m * a ≠ 0 := fun z => by
      rcases Nat.mul_eq_zero.mp z with z | z <;> omega
    rw [if_neg (fun z => hma ((j_0 (by omega)).mp z)), ← Int64.ofNat_div (by omega) (by omega), ← Int64.ofNat_div (by omega) (by omega), ← Int64.ofNat_div (by omega) (by omega), ← Int64.ofNat_div (by omega) (by omega), Nat.mul_div_mul_left _ _ hm, Nat.mul_div_mul_left _ _ hm]
end GC
