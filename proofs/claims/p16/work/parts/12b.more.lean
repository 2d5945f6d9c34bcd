/-! ===== writes of one cell; references read as numbers; switches ===== -/
def mm_uM (S : mm_S) (a k : Nat) (x : Int32) : mm_S := mm_sM S a (mm_u (mm_M S a) k x)
def mm_uL (S : mm_S) (a k : Nat) (x : Int64) : mm_S := mm_sL S a (mm_u (mm_L S a) k x)
def mm_uR (S : mm_S) (a k : Nat) (o : Option Nat) : mm_S := mm_sR S a (mm_u (mm_R S a) k o)
def mm_cpM (S : mm_S) (a0 a sp dp n : Nat) : mm_S := mm_sM S a (va_cpy (mm_M S a0) (mm_M S a) sp dp n)
def mm_cpL (S : mm_S) (a0 a sp dp n : Nat) : mm_S := mm_sL S a (va_cpy (mm_L S a0) (mm_L S a) sp dp n)
def mm_rg (S : mm_S) (a k : Nat) : Nat := (mm_R S a k).getD 0
section MXB
variable {d y pc : Nat} {ls st : List Value} {S : mm_S} {t : mm_mT}
theorem mm_rv_rg {a k : Nat} (h : (mm_R S a k).isSome = true) : mm_rv (mm_R S a k) = .ref (mm_rg S a k) := by
  obtain ⟨b, hb⟩ := Option.isSome_iff_exists.mp h
  unfold mm_rg
  rw [hb]; rfl
theorem mx_getR (ht : mm_mt[y]? = some t) {i f k fi a : Nat} (hd : decode t.2.1 pc = .ok (.getfield i, 3)) (h : decide (t.2.2.2.2 = 13) = false) (hl : mm_fd mm_FL t.2.2.2.2 i = some (f, k, 2, fi)) (ho : mm_obj S a f = true) (hr : (mm_R S a k).isSome = true) : mm_ex d y pc ls (.ref a :: st) S = mm_ex d y (pc + 3) ls (.ref (mm_rg S a k) :: st) S := by
  rw [mx_getr ht hd h hl ho, mm_rv_rg hr]
theorem mx_qaldR (ht : mm_mt[y]? = some t) {a : Nat} {i : Int32} (hd : decode t.2.1 pc = .ok (.aaload, 1)) (h1 : (mm_arr S a 16 || mm_arr S a 17 || mm_arr S a 18) = true) (h2 : mm_inb i (mm_N S a) = true) (hr : (mm_R S a i.toNatClampNeg).isSome = true) : mm_ex d y pc ls (.int i :: .ref a :: st) S = mm_ex d y (pc + 1) ls (.ref (mm_rg S a i.toNatClampNeg) :: st) S := by
  rw [mx_qald ht hd h1 h2, mm_rv_rg hr]
theorem mx_puti2 (ht : mm_mt[y]? = some t) {i f k fi a : Nat} {x : Int32} (hd : decode t.2.1 pc = .ok (.putfield i, 3)) (hl : mm_fd mm_FL t.2.2.2.2 i = some (f, k, 0, fi)) (hi : (decide (fi = 0) || (decide (t.1.name = "<init>") && decide ((mm_T f k).1 = t.1.cls))) = true) (ho : mm_obj S a f = true) : mm_ex d y pc ls (.int x :: .ref a :: st) S = mm_ex d y (pc + 3) ls st (mm_uM S a k x) := mx_puti ht hd hl hi ho
theorem mx_putz2 (ht : mm_mt[y]? = some t) {i f k fi a : Nat} {x : Int32} (hd : decode t.2.1 pc = .ok (.putfield i, 3)) (hl : mm_fd mm_FL t.2.2.2.2 i = some (f, k, 3, fi)) (hi : (decide (fi = 0) || (decide (t.1.name = "<init>") && decide ((mm_T f k).1 = t.1.cls))) = true) (ho : mm_obj S a f = true) (hx : x = nI 0 ∨ x = nI 1) : mm_ex d y pc ls (.int x :: .ref a :: st) S = mm_ex d y (pc + 3) ls st (mm_uM S a k x) := mx_putz ht hd hl hi ho hx
theorem mx_putj2 (ht : mm_mt[y]? = some t) {i f k fi a : Nat} {x : Int64} (hd : decode t.2.1 pc = .ok (.putfield i, 3)) (hl : mm_fd mm_FL t.2.2.2.2 i = some (f, k, 1, fi)) (hi : (decide (fi = 0) || (decide (t.1.name = "<init>") && decide ((mm_T f k).1 = t.1.cls))) = true) (ho : mm_obj S a f = true) : mm_ex d y pc ls (.long x :: .ref a :: st) S = mm_ex d y (pc + 3) ls st (mm_uL S a k x) := mx_putj ht hd hl hi ho
theorem mx_putr2 (ht : mm_mt[y]? = some t) {i f k fi a b : Nat} (hd : decode t.2.1 pc = .ok (.putfield i, 3)) (hl : mm_fd mm_FL t.2.2.2.2 i = some (f, k, 2, fi)) (hi : (decide (fi = 0) || (decide (t.1.name = "<init>") && decide ((mm_T f k).1 = t.1.cls))) = true) (ho : mm_obj S a f = true) (hb : b < mm_n S) : mm_ex d y pc ls (.ref b :: .ref a :: st) S = mm_ex d y (pc + 3) ls st (mm_uR S a k (some b)) := mx_putr ht hd hl hi ho hb
theorem mx_iast2 (ht : mm_mt[y]? = some t) {a : Nat} {i x : Int32} (hd : decode t.2.1 pc = .ok (.iastore, 1)) (h1 : mm_arr S a 13 = true) (h2 : mm_inb i (mm_N S a) = true) : mm_ex d y pc ls (.int x :: .int i :: .ref a :: st) S = mm_ex d y (pc + 1) ls st (mm_uM S a i.toNatClampNeg x) := mx_iast ht hd h1 h2
theorem mx_zast2 (ht : mm_mt[y]? = some t) {a : Nat} {i x : Int32} (hd : decode t.2.1 pc = .ok (.bastore, 1)) (h1 : mm_arr S a 15 = true) (h2 : mm_inb i (mm_N S a) = true) : mm_ex d y pc ls (.int x :: .int i :: .ref a :: st) S = mm_ex d y (pc + 1) ls st (mm_uM S a i.toNatClampNeg (vp_nar .boolean x)) := mx_zast ht hd h1 h2
theorem mx_last2 (ht : mm_mt[y]? = some t) {a : Nat} {i : Int32} {x : Int64} (hd : decode t.2.1 pc = .ok (.lastore, 1)) (h1 : mm_arr S a 14 = true) (h2 : mm_inb i (mm_N S a) = true) : mm_ex d y pc ls (.long x :: .int i :: .ref a :: st) S = mm_ex d y (pc + 1) ls st (mm_uL S a i.toNatClampNeg x) := mx_last ht hd h1 h2
theorem mx_qast2 (ht : mm_mt[y]? = some t) {a b : Nat} {i : Int32} (hd : decode t.2.1 pc = .ok (.aastore, 1)) (h1 : (mm_arr S a 16 || mm_arr S a 17 || mm_arr S a 18) = true) (h2 : mm_inb i (mm_N S a) = true) (h3 : mm_obj S b (if mm_K S a = 16 then 0 else if mm_K S a = 17 then 6 else 8) = true) : mm_ex d y pc ls (.ref b :: .int i :: .ref a :: st) S = mm_ex d y (pc + 1) ls st (mm_uR S a i.toNatClampNeg (some b)) := mx_qast ht hd h1 h2 h3
theorem mx_qastO (ht : mm_mt[y]? = some t) {a : Nat} {o : Option Nat} {i : Int32} (hd : decode t.2.1 pc = .ok (.aastore, 1)) (h1 : (mm_arr S a 16 || mm_arr S a 17 || mm_arr S a 18) = true) (h2 : mm_inb i (mm_N S a) = true) (h3 : ∀ e, o = some e → mm_obj S e (if mm_K S a = 16 then 0 else if mm_K S a = 17 then 6 else 8) = true) : mm_ex d y pc ls (mm_rv o :: .int i :: .ref a :: st) S = mm_ex d y (pc + 1) ls st (mm_uR S a i.toNatClampNeg o) := by
  cases o with
  | none => exact mx_qastN ht hd h1 h2
  | some b => exact mx_qast ht hd h1 h2 (h3 b rfl)
theorem mx_cpi2 (ht : mm_mt[y]? = some t) {i a a0 : Nat} {sp dp n : Int32} (hd : decode t.2.1 pc = .ok (.invokestatic i, 3)) (hl : mm_fd mm_AC t.2.2.2.2 i = some ()) (hc : mm_cs st ≤ 8) (h1 : mm_arr S a0 13 = true) (h2 : mm_arr S a 13 = true) (h3 : mm_cpOk sp dp n (mm_N S a0) (mm_N S a) = true) : mm_ex (d + 1) y pc ls (.int n :: .int dp :: .ref a :: .int sp :: .ref a0 :: st) S = mm_ex (d + 1) y (pc + 3) ls st (mm_cpM S a0 a sp.toNatClampNeg dp.toNatClampNeg n.toNatClampNeg) := mx_cpi ht hd hl hc h1 h2 h3
theorem mx_cpl2 (ht : mm_mt[y]? = some t) {i a a0 : Nat} {sp dp n : Int32} (hd : decode t.2.1 pc = .ok (.invokestatic i, 3)) (hl : mm_fd mm_AC t.2.2.2.2 i = some ()) (hc : mm_cs st ≤ 8) (h1 : mm_arr S a0 14 = true) (h2 : mm_arr S a 14 = true) (h3 : mm_cpOk sp dp n (mm_N S a0) (mm_N S a) = true) : mm_ex (d + 1) y pc ls (.int n :: .int dp :: .ref a :: .int sp :: .ref a0 :: st) S = mm_ex (d + 1) y (pc + 3) ls st (mm_cpL S a0 a sp.toNatClampNeg dp.toNatClampNeg n.toNatClampNeg) := mx_cpl ht hd hl hc h1 h2 h3
theorem mx_tswI (ht : mm_mt[y]? = some t) {df lo hi : Int} {offs : Array Int} {len tg : Nat} {x : Int32} (hd : decode t.2.1 pc = .ok (.tableswitch df lo hi offs, len)) (h : ¬(x.toInt < lo ∨ hi < x.toInt)) {off : Int} (ho : offs[(x.toInt - lo).toNat]? = some off) (he : (pc : Int) + off = (tg : Int)) : mm_ex d y pc ls (.int x :: st) S = mm_ex d y tg ls st S := by
  refine mx_tsw ht hd ?_
  rw [if_neg h, ho]
  exact mm_jpt he
theorem mx_tswD (ht : mm_mt[y]? = some t) {df lo hi : Int} {offs : Array Int} {len tg : Nat} {x : Int32} (hd : decode t.2.1 pc = .ok (.tableswitch df lo hi offs, len)) (h : x.toInt < lo ∨ hi < x.toInt) (he : (pc : Int) + df = (tg : Int)) : mm_ex d y pc ls (.int x :: st) S = mm_ex d y tg ls st S := by
  refine mx_tsw ht hd ?_
  rw [if_pos h]
  exact mm_jpt he
theorem mm_ni32 {x y : Int32} (h : ¬ x = y) : ¬ x.toInt = y.toInt := fun e => h (Int32.toInt_inj.mp e)
end MXB
