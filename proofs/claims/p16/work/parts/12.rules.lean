/-! ===== the small machine's instructions as equations ===== -/
section MX
variable {d y pc : Nat} {ls st : List Value} {S : mm_S} {t : mm_mT}
theorem mm_nn {S : mm_S} : mm_n S ≤ mm_n S ∧ mm_z S ≤ mm_z S := ⟨Nat.le_refl _, Nat.le_refl _⟩
theorem mx_iconst (ht : mm_mt[y]? = some t) {n : Int} {v : Int32} (hd : decode t.2.1 pc = .ok (.iconst n, 1)) (hv : Int32.ofInt n = v) : mm_ex d y pc ls st S = mm_ex d y (pc + 1) ls (.int v :: st) S := by
  subst hv
  exact mm_ex_go ht hd rfl rfl mm_nn
theorem mx_bipush (ht : mm_mt[y]? = some t) {n : Int} {v : Int32} (hd : decode t.2.1 pc = .ok (.bipush n, 2)) (hv : (Int8.ofInt n).toInt32 = v) : mm_ex d y pc ls st S = mm_ex d y (pc + 2) ls (.int v :: st) S := by
  subst hv
  exact mm_ex_go ht hd rfl rfl mm_nn
theorem mx_sipush (ht : mm_mt[y]? = some t) {n : Int} {v : Int32} (hd : decode t.2.1 pc = .ok (.sipush n, 3)) (hv : (Int16.ofInt n).toInt32 = v) : mm_ex d y pc ls st S = mm_ex d y (pc + 3) ls (.int v :: st) S := by
  subst hv
  exact mm_ex_go ht hd rfl rfl mm_nn
theorem mx_lconst (ht : mm_mt[y]? = some t) {n : Fin 2} {v : Int64} (hd : decode t.2.1 pc = .ok (.lconst n, 1)) (hv : Int64.ofNat (n : Nat) = v) : mm_ex d y pc ls st S = mm_ex d y (pc + 1) ls (.long v :: st) S := by
  subst hv
  exact mm_ex_go ht hd rfl rfl mm_nn
theorem mx_ldc (ht : mm_mt[y]? = some t) {i : Nat} {v : Value} (hd : decode t.2.1 pc = .ok (.ldc i, 2)) (hv : mm_fd mm_LC t.2.2.2.2 i = some v) : mm_ex d y pc ls st S = mm_ex d y (pc + 2) ls (v :: st) S :=
  mm_ex_go ht hd rfl (by unfold mm_st; simp only [hv]) mm_nn
theorem mx_ldc_w (ht : mm_mt[y]? = some t) {i : Nat} {v : Int32} (hd : decode t.2.1 pc = .ok (.ldc_w i, 3)) (hv : mm_fd mm_LC t.2.2.2.2 i = some (.int v)) : mm_ex d y pc ls st S = mm_ex d y (pc + 3) ls (.int v :: st) S :=
  mm_ex_go ht hd rfl (by unfold mm_st; simp only [hv]) mm_nn
theorem mx_ldc2_w (ht : mm_mt[y]? = some t) {i : Nat} {v : Int64} (hd : decode t.2.1 pc = .ok (.ldc2_w i, 3)) (hv : mm_fd mm_L2 t.2.2.2.2 i = some v) : mm_ex d y pc ls st S = mm_ex d y (pc + 3) ls (.long v :: st) S :=
  mm_ex_go ht hd rfl (by unfold mm_st; simp only [hv]) mm_nn
theorem mx_iload_n (ht : mm_mt[y]? = some t) {k : Fin 4} {x : Int32} (hd : decode t.2.1 pc = .ok (.iload_n k, 1)) (hv : mm_lg ls k = .int x) : mm_ex d y pc ls st S = mm_ex d y (pc + 1) ls (.int x :: st) S :=
  mm_ex_go ht hd rfl (by unfold mm_st; simp only [hv]; rfl) mm_nn
theorem mx_iload (ht : mm_mt[y]? = some t) {k : Nat} {x : Int32} (hd : decode t.2.1 pc = .ok (.iload k, 2)) (hv : mm_lg ls k = .int x) : mm_ex d y pc ls st S = mm_ex d y (pc + 2) ls (.int x :: st) S :=
  mm_ex_go ht hd rfl (by unfold mm_st; simp only [hv]; rfl) mm_nn
theorem mx_lload_n (ht : mm_mt[y]? = some t) {k : Fin 4} {x : Int64} (hd : decode t.2.1 pc = .ok (.lload_n k, 1)) (hv : mm_lg ls k = .long x) : mm_ex d y pc ls st S = mm_ex d y (pc + 1) ls (.long x :: st) S :=
  mm_ex_go ht hd rfl (by unfold mm_st; simp only [hv]; rfl) mm_nn
theorem mx_lload (ht : mm_mt[y]? = some t) {k : Nat} {x : Int64} (hd : decode t.2.1 pc = .ok (.lload k, 2)) (hv : mm_lg ls k = .long x) : mm_ex d y pc ls st S = mm_ex d y (pc + 2) ls (.long x :: st) S :=
  mm_ex_go ht hd rfl (by unfold mm_st; simp only [hv]; rfl) mm_nn
theorem mx_aload_n (ht : mm_mt[y]? = some t) {k : Fin 4} {x : Nat} (hd : decode t.2.1 pc = .ok (.aload_n k, 1)) (hv : mm_lg ls k = .ref x) : mm_ex d y pc ls st S = mm_ex d y (pc + 1) ls (.ref x :: st) S :=
  mm_ex_go ht hd rfl (by unfold mm_st; simp only [hv]; rfl) mm_nn
theorem mx_aload (ht : mm_mt[y]? = some t) {k : Nat} {x : Nat} (hd : decode t.2.1 pc = .ok (.aload k, 2)) (hv : mm_lg ls k = .ref x) : mm_ex d y pc ls st S = mm_ex d y (pc + 2) ls (.ref x :: st) S :=
  mm_ex_go ht hd rfl (by unfold mm_st; simp only [hv]; rfl) mm_nn
theorem mm_gdt {b : Bool} {A : mm_Act} (h : b = true) : mm_gd b A = A := if_pos h
theorem mx_istore_n (ht : mm_mt[y]? = some t) {k : Fin 4} {x : Int32} {ls' : List Value} (hd : decode t.2.1 pc = .ok (.istore_n k, 1)) (hk : decide ((k : Nat) < ls.length) = true) (hl : mm_l1 ls k (.int x) = ls') : mm_ex d y pc ls (.int x :: st) S = mm_ex d y (pc + 1) ls' st S := by
  subst hl
  exact mm_ex_go ht hd rfl (mm_gdt hk) mm_nn
theorem mx_istore (ht : mm_mt[y]? = some t) {k : Nat} {x : Int32} {ls' : List Value} (hd : decode t.2.1 pc = .ok (.istore k, 2)) (hk : decide (k < ls.length) = true) (hl : mm_l1 ls k (.int x) = ls') : mm_ex d y pc ls (.int x :: st) S = mm_ex d y (pc + 2) ls' st S := by
  subst hl
  exact mm_ex_go ht hd rfl (mm_gdt hk) mm_nn
theorem mx_lstore_n (ht : mm_mt[y]? = some t) {k : Fin 4} {x : Int64} {ls' : List Value} (hd : decode t.2.1 pc = .ok (.lstore_n k, 1)) (hk : decide ((k : Nat) + 1 < ls.length) = true) (hl : mm_l2 ls k (.long x) = ls') : mm_ex d y pc ls (.long x :: st) S = mm_ex d y (pc + 1) ls' st S := by
  subst hl
  exact mm_ex_go ht hd rfl (mm_gdt hk) mm_nn
theorem mx_lstore (ht : mm_mt[y]? = some t) {k : Nat} {x : Int64} {ls' : List Value} (hd : decode t.2.1 pc = .ok (.lstore k, 2)) (hk : decide (k + 1 < ls.length) = true) (hl : mm_l2 ls k (.long x) = ls') : mm_ex d y pc ls (.long x :: st) S = mm_ex d y (pc + 2) ls' st S := by
  subst hl
  exact mm_ex_go ht hd rfl (mm_gdt hk) mm_nn
theorem mx_astore_n (ht : mm_mt[y]? = some t) {k : Fin 4} {x : Nat} {ls' : List Value} (hd : decode t.2.1 pc = .ok (.astore_n k, 1)) (hk : decide ((k : Nat) < ls.length) = true) (hl : mm_l1 ls k (.ref x) = ls') : mm_ex d y pc ls (.ref x :: st) S = mm_ex d y (pc + 1) ls' st S := by
  subst hl
  exact mm_ex_go ht hd rfl (mm_gdt hk) mm_nn
theorem mx_astore (ht : mm_mt[y]? = some t) {k : Nat} {x : Nat} {ls' : List Value} (hd : decode t.2.1 pc = .ok (.astore k, 2)) (hk : decide (k < ls.length) = true) (hl : mm_l1 ls k (.ref x) = ls') : mm_ex d y pc ls (.ref x :: st) S = mm_ex d y (pc + 2) ls' st S := by
  subst hl
  exact mm_ex_go ht hd rfl (mm_gdt hk) mm_nn
theorem mx_iinc (ht : mm_mt[y]? = some t) {k : Nat} {n : Int} {x v : Int32} {ls' : List Value} (hd : decode t.2.1 pc = .ok (.iinc k n, 3)) (hv : mm_lg ls k = .int x) (hk : decide (k < ls.length) = true) (hn : Int32.ofInt n = v) (hl : mm_l1 ls k (.int (x + v)) = ls') : mm_ex d y pc ls st S = mm_ex d y (pc + 3) ls' st S := by
  subst hl hn
  exact mm_ex_go ht hd rfl (by unfold mm_st; simp only [hv]; exact mm_gdt hk) mm_nn
theorem mx_iadd (ht : mm_mt[y]? = some t) {a b : Int32} (hd : decode t.2.1 pc = .ok (.iadd, 1)) : mm_ex d y pc ls (.int b :: .int a :: st) S = mm_ex d y (pc + 1) ls (.int (a + b) :: st) S := mm_ex_go ht hd rfl rfl mm_nn
theorem mx_isub (ht : mm_mt[y]? = some t) {a b : Int32} (hd : decode t.2.1 pc = .ok (.isub, 1)) : mm_ex d y pc ls (.int b :: .int a :: st) S = mm_ex d y (pc + 1) ls (.int (a - b) :: st) S := mm_ex_go ht hd rfl rfl mm_nn
theorem mx_imul (ht : mm_mt[y]? = some t) {a b : Int32} (hd : decode t.2.1 pc = .ok (.imul, 1)) : mm_ex d y pc ls (.int b :: .int a :: st) S = mm_ex d y (pc + 1) ls (.int (a * b) :: st) S := mm_ex_go ht hd rfl rfl mm_nn
theorem mx_iand (ht : mm_mt[y]? = some t) {a b : Int32} (hd : decode t.2.1 pc = .ok (.iand, 1)) : mm_ex d y pc ls (.int b :: .int a :: st) S = mm_ex d y (pc + 1) ls (.int (a &&& b) :: st) S := mm_ex_go ht hd rfl rfl mm_nn
theorem mx_ior (ht : mm_mt[y]? = some t) {a b : Int32} (hd : decode t.2.1 pc = .ok (.ior, 1)) : mm_ex d y pc ls (.int b :: .int a :: st) S = mm_ex d y (pc + 1) ls (.int (a ||| b) :: st) S := mm_ex_go ht hd rfl rfl mm_nn
theorem mx_ixor (ht : mm_mt[y]? = some t) {a b : Int32} (hd : decode t.2.1 pc = .ok (.ixor, 1)) : mm_ex d y pc ls (.int b :: .int a :: st) S = mm_ex d y (pc + 1) ls (.int (a ^^^ b) :: st) S := mm_ex_go ht hd rfl rfl mm_nn
theorem mx_ishl (ht : mm_mt[y]? = some t) {a b : Int32} (hd : decode t.2.1 pc = .ok (.ishl, 1)) : mm_ex d y pc ls (.int b :: .int a :: st) S = mm_ex d y (pc + 1) ls (.int (a <<< (b &&& 31)) :: st) S := mm_ex_go ht hd rfl rfl mm_nn
theorem mx_ishr (ht : mm_mt[y]? = some t) {a b : Int32} (hd : decode t.2.1 pc = .ok (.ishr, 1)) : mm_ex d y pc ls (.int b :: .int a :: st) S = mm_ex d y (pc + 1) ls (.int (a >>> (b &&& 31)) :: st) S := mm_ex_go ht hd rfl rfl mm_nn
theorem mx_iushr (ht : mm_mt[y]? = some t) {a b : Int32} (hd : decode t.2.1 pc = .ok (.iushr, 1)) : mm_ex d y pc ls (.int b :: .int a :: st) S = mm_ex d y (pc + 1) ls (.int (a.toUInt32 >>> (b.toUInt32 &&& Int32.toUInt32 31)).toInt32 :: st) S := mm_ex_go ht hd rfl rfl mm_nn
theorem mx_idiv (ht : mm_mt[y]? = some t) {a b : Int32} (hd : decode t.2.1 pc = .ok (.idiv, 1)) (h : ¬ b = nI 0) : mm_ex d y pc ls (.int b :: .int a :: st) S = mm_ex d y (pc + 1) ls (.int (a / b) :: st) S := mm_ex_go ht hd rfl (mm_gdt (by have h1 : ¬ b = 0 := h; simp [h1])) mm_nn
theorem mx_irem (ht : mm_mt[y]? = some t) {a b : Int32} (hd : decode t.2.1 pc = .ok (.irem, 1)) (h : ¬ b = nI 0) : mm_ex d y pc ls (.int b :: .int a :: st) S = mm_ex d y (pc + 1) ls (.int (a - a / b * b) :: st) S := mm_ex_go ht hd rfl (mm_gdt (by have h1 : ¬ b = 0 := h; simp [h1])) mm_nn
theorem mx_ineg (ht : mm_mt[y]? = some t) {a : Int32} (hd : decode t.2.1 pc = .ok (.ineg, 1)) : mm_ex d y pc ls (.int a :: st) S = mm_ex d y (pc + 1) ls (.int (-a) :: st) S := mm_ex_go ht hd rfl rfl mm_nn
theorem mx_i2l (ht : mm_mt[y]? = some t) {a : Int32} (hd : decode t.2.1 pc = .ok (.i2l, 1)) : mm_ex d y pc ls (.int a :: st) S = mm_ex d y (pc + 1) ls (.long a.toInt64 :: st) S := mm_ex_go ht hd rfl rfl mm_nn
theorem mx_i2b (ht : mm_mt[y]? = some t) {a : Int32} (hd : decode t.2.1 pc = .ok (.i2b, 1)) : mm_ex d y pc ls (.int a :: st) S = mm_ex d y (pc + 1) ls (.int a.toInt8.toInt32 :: st) S := mm_ex_go ht hd rfl rfl mm_nn
theorem mx_i2s (ht : mm_mt[y]? = some t) {a : Int32} (hd : decode t.2.1 pc = .ok (.i2s, 1)) : mm_ex d y pc ls (.int a :: st) S = mm_ex d y (pc + 1) ls (.int a.toInt16.toInt32 :: st) S := mm_ex_go ht hd rfl rfl mm_nn
theorem mx_i2c (ht : mm_mt[y]? = some t) {a : Int32} (hd : decode t.2.1 pc = .ok (.i2c, 1)) : mm_ex d y pc ls (.int a :: st) S = mm_ex d y (pc + 1) ls (.int (a.toUInt32 % 65536).toInt32 :: st) S := mm_ex_go ht hd rfl rfl mm_nn
theorem mx_l2i (ht : mm_mt[y]? = some t) {a : Int64} (hd : decode t.2.1 pc = .ok (.l2i, 1)) : mm_ex d y pc ls (.long a :: st) S = mm_ex d y (pc + 1) ls (.int a.toInt32 :: st) S := mm_ex_go ht hd rfl rfl mm_nn
theorem mx_ladd (ht : mm_mt[y]? = some t) {a b : Int64} (hd : decode t.2.1 pc = .ok (.ladd, 1)) : mm_ex d y pc ls (.long b :: .long a :: st) S = mm_ex d y (pc + 1) ls (.long (a + b) :: st) S := mm_ex_go ht hd rfl rfl mm_nn
theorem mx_lsub (ht : mm_mt[y]? = some t) {a b : Int64} (hd : decode t.2.1 pc = .ok (.lsub, 1)) : mm_ex d y pc ls (.long b :: .long a :: st) S = mm_ex d y (pc + 1) ls (.long (a - b) :: st) S := mm_ex_go ht hd rfl rfl mm_nn
theorem mx_lmul (ht : mm_mt[y]? = some t) {a b : Int64} (hd : decode t.2.1 pc = .ok (.lmul, 1)) : mm_ex d y pc ls (.long b :: .long a :: st) S = mm_ex d y (pc + 1) ls (.long (a * b) :: st) S := mm_ex_go ht hd rfl rfl mm_nn
theorem mx_land (ht : mm_mt[y]? = some t) {a b : Int64} (hd : decode t.2.1 pc = .ok (.land, 1)) : mm_ex d y pc ls (.long b :: .long a :: st) S = mm_ex d y (pc + 1) ls (.long (a &&& b) :: st) S := mm_ex_go ht hd rfl rfl mm_nn
theorem mx_lor (ht : mm_mt[y]? = some t) {a b : Int64} (hd : decode t.2.1 pc = .ok (.lor, 1)) : mm_ex d y pc ls (.long b :: .long a :: st) S = mm_ex d y (pc + 1) ls (.long (a ||| b) :: st) S := mm_ex_go ht hd rfl rfl mm_nn
theorem mx_ldiv (ht : mm_mt[y]? = some t) {a b : Int64} (hd : decode t.2.1 pc = .ok (.ldiv, 1)) (h : ¬ b = 0) : mm_ex d y pc ls (.long b :: .long a :: st) S = mm_ex d y (pc + 1) ls (.long (a / b) :: st) S := mm_ex_go ht hd rfl (mm_gdt (by simp [h])) mm_nn
theorem mx_lrem (ht : mm_mt[y]? = some t) {a b : Int64} (hd : decode t.2.1 pc = .ok (.lrem, 1)) (h : ¬ b = 0) : mm_ex d y pc ls (.long b :: .long a :: st) S = mm_ex d y (pc + 1) ls (.long (a - a / b * b) :: st) S := mm_ex_go ht hd rfl (mm_gdt (by simp [h])) mm_nn
theorem mx_lshl (ht : mm_mt[y]? = some t) {a : Int64} {b : Int32} (hd : decode t.2.1 pc = .ok (.lshl, 1)) : mm_ex d y pc ls (.int b :: .long a :: st) S = mm_ex d y (pc + 1) ls (.long (a <<< (b.toInt64 &&& 63)) :: st) S := mm_ex_go ht hd rfl rfl mm_nn
theorem mx_lcmp (ht : mm_mt[y]? = some t) {a b : Int64} (hd : decode t.2.1 pc = .ok (.lcmp, 1)) : mm_ex d y pc ls (.long b :: .long a :: st) S = mm_ex d y (pc + 1) ls (.int (lg_cmp a b) :: st) S := mm_ex_go ht hd rfl rfl mm_nn
theorem mx_dupi (ht : mm_mt[y]? = some t) {x : Int32} (hd : decode t.2.1 pc = .ok (.dup, 1)) : mm_ex d y pc ls (.int x :: st) S = mm_ex d y (pc + 1) ls (.int x :: .int x :: st) S := mm_ex_go ht hd rfl rfl mm_nn
theorem mx_dupr (ht : mm_mt[y]? = some t) {x : Nat} (hd : decode t.2.1 pc = .ok (.dup, 1)) : mm_ex d y pc ls (.ref x :: st) S = mm_ex d y (pc + 1) ls (.ref x :: .ref x :: st) S := mm_ex_go ht hd rfl rfl mm_nn
theorem mx_popi (ht : mm_mt[y]? = some t) {x : Int32} (hd : decode t.2.1 pc = .ok (.pop, 1)) : mm_ex d y pc ls (.int x :: st) S = mm_ex d y (pc + 1) ls st S := mm_ex_go ht hd rfl rfl mm_nn
theorem mx_pop2l (ht : mm_mt[y]? = some t) {x : Int64} (hd : decode t.2.1 pc = .ok (.pop2, 1)) : mm_ex d y pc ls (.long x :: st) S = mm_ex d y (pc + 1) ls st S := mm_ex_go ht hd rfl rfl mm_nn
theorem mx_dup2l (ht : mm_mt[y]? = some t) {x : Int64} (hd : decode t.2.1 pc = .ok (.dup2, 1)) : mm_ex d y pc ls (.long x :: st) S = mm_ex d y (pc + 1) ls (.long x :: .long x :: st) S := mm_ex_go ht hd rfl rfl mm_nn
theorem mx_dup2i (ht : mm_mt[y]? = some t) {x : Int32} {a : Nat} (hd : decode t.2.1 pc = .ok (.dup2, 1)) : mm_ex d y pc ls (.int x :: .ref a :: st) S = mm_ex d y (pc + 1) ls (.int x :: .ref a :: .int x :: .ref a :: st) S := mm_ex_go ht hd rfl rfl mm_nn
theorem mm_jpt {pc tgt : Nat} {off : Int} (h : (pc : Int) + off = (tgt : Int)) : mm_jp pc off ls st S = mm_go tgt ls st S := by
  unfold mm_jp
  rw [if_neg (by omega), h]
  rfl
theorem mx_goto (ht : mm_mt[y]? = some t) {off : Int} {tgt : Nat} (hd : decode t.2.1 pc = .ok (.goto off, 3)) (h : (pc : Int) + off = (tgt : Int)) : mm_ex d y pc ls st S = mm_ex d y tgt ls st S := mm_ex_go ht hd rfl (mm_jpt h) mm_nn
theorem mm_cjt {b : Bool} {pc tgt : Nat} {off : Int} (h : (pc : Int) + off = (tgt : Int)) : mm_cj b pc off ls st S = if b = true then mm_go tgt ls st S else mm_go (pc + 3) ls st S := by
  unfold mm_cj
  rw [if_neg (by omega), h]
  rfl
theorem mx_if (ht : mm_mt[y]? = some t) {c : ClassFile.Cond} {off : Int} {tgt : Nat} {x : Int32} (hd : decode t.2.1 pc = .ok (.ifCond c off, 3)) (h : (pc : Int) + off = (tgt : Int)) : mm_ex d y pc ls (.int x :: st) S = if mm_c1 c x = true then mm_ex d y tgt ls st S else mm_ex d y (pc + 3) ls st S := by
  have e : mm_st d t pc ls (.int x :: st) S (.ifCond c off) = mm_cj (mm_c1 c x) pc off ls st S := rfl
  rw [mm_cjt h] at e
  by_cases hb : mm_c1 c x = true
  · rw [if_pos hb] at e ⊢
    exact mm_ex_go ht hd rfl e mm_nn
  · rw [if_neg hb] at e ⊢
    exact mm_ex_go ht hd rfl e mm_nn
theorem mx_icmp (ht : mm_mt[y]? = some t) {c : ClassFile.Cond} {off : Int} {tgt : Nat} {a b : Int32} (hd : decode t.2.1 pc = .ok (.if_icmp c off, 3)) (h : (pc : Int) + off = (tgt : Int)) : mm_ex d y pc ls (.int b :: .int a :: st) S = if mm_c2 c a b = true then mm_ex d y tgt ls st S else mm_ex d y (pc + 3) ls st S := by
  have e : mm_st d t pc ls (.int b :: .int a :: st) S (.if_icmp c off) = mm_cj (mm_c2 c a b) pc off ls st S := rfl
  rw [mm_cjt h] at e
  by_cases hb : mm_c2 c a b = true
  · rw [if_pos hb] at e ⊢
    exact mm_ex_go ht hd rfl e mm_nn
  · rw [if_neg hb] at e ⊢
    exact mm_ex_go ht hd rfl e mm_nn
theorem mm_ifd {α : Type} {P : Prop} [Decidable P] {a b : α} : (if decide P = true then a else b) = if P then a else b := by
  by_cases h : P
  · rw [if_pos (by simpa using h), if_pos h]
  · rw [if_neg (by simpa using h), if_neg h]
theorem mm_ifn {α : Type} {P : Prop} [Decidable P] {a b : α} : (if (!decide P) = true then a else b) = if P then b else a := by
  by_cases h : P
  · rw [if_neg (by simp [h]), if_pos h]
  · rw [if_pos (by simp [h]), if_neg h]
theorem mx_ieq (ht : mm_mt[y]? = some t) {off : Int} {tgt : Nat} {x : Int32} (hd : decode t.2.1 pc = .ok (.ifCond .eq off, 3)) (h : (pc : Int) + off = (tgt : Int)) : mm_ex d y pc ls (.int x :: st) S = if x = nI 0 then mm_ex d y tgt ls st S else mm_ex d y (pc + 3) ls st S := (mx_if ht hd h).trans mm_ifd
theorem mx_ine (ht : mm_mt[y]? = some t) {off : Int} {tgt : Nat} {x : Int32} (hd : decode t.2.1 pc = .ok (.ifCond .ne off, 3)) (h : (pc : Int) + off = (tgt : Int)) : mm_ex d y pc ls (.int x :: st) S = if x = nI 0 then mm_ex d y (pc + 3) ls st S else mm_ex d y tgt ls st S := (mx_if ht hd h).trans mm_ifn
theorem mx_ilt (ht : mm_mt[y]? = some t) {off : Int} {tgt : Nat} {x : Int32} (hd : decode t.2.1 pc = .ok (.ifCond .lt off, 3)) (h : (pc : Int) + off = (tgt : Int)) : mm_ex d y pc ls (.int x :: st) S = if x < nI 0 then mm_ex d y tgt ls st S else mm_ex d y (pc + 3) ls st S := (mx_if ht hd h).trans mm_ifd
theorem mx_ige (ht : mm_mt[y]? = some t) {off : Int} {tgt : Nat} {x : Int32} (hd : decode t.2.1 pc = .ok (.ifCond .ge off, 3)) (h : (pc : Int) + off = (tgt : Int)) : mm_ex d y pc ls (.int x :: st) S = if nI 0 ≤ x then mm_ex d y tgt ls st S else mm_ex d y (pc + 3) ls st S := (mx_if ht hd h).trans mm_ifd
theorem mx_igt (ht : mm_mt[y]? = some t) {off : Int} {tgt : Nat} {x : Int32} (hd : decode t.2.1 pc = .ok (.ifCond .gt off, 3)) (h : (pc : Int) + off = (tgt : Int)) : mm_ex d y pc ls (.int x :: st) S = if nI 0 < x then mm_ex d y tgt ls st S else mm_ex d y (pc + 3) ls st S := (mx_if ht hd h).trans mm_ifd
theorem mx_ile (ht : mm_mt[y]? = some t) {off : Int} {tgt : Nat} {x : Int32} (hd : decode t.2.1 pc = .ok (.ifCond .le off, 3)) (h : (pc : Int) + off = (tgt : Int)) : mm_ex d y pc ls (.int x :: st) S = if x ≤ nI 0 then mm_ex d y tgt ls st S else mm_ex d y (pc + 3) ls st S := (mx_if ht hd h).trans mm_ifd
theorem mx_ceq (ht : mm_mt[y]? = some t) {off : Int} {tgt : Nat} {a b : Int32} (hd : decode t.2.1 pc = .ok (.if_icmp .eq off, 3)) (h : (pc : Int) + off = (tgt : Int)) : mm_ex d y pc ls (.int b :: .int a :: st) S = if a = b then mm_ex d y tgt ls st S else mm_ex d y (pc + 3) ls st S := (mx_icmp ht hd h).trans mm_ifd
theorem mx_cne (ht : mm_mt[y]? = some t) {off : Int} {tgt : Nat} {a b : Int32} (hd : decode t.2.1 pc = .ok (.if_icmp .ne off, 3)) (h : (pc : Int) + off = (tgt : Int)) : mm_ex d y pc ls (.int b :: .int a :: st) S = if a = b then mm_ex d y (pc + 3) ls st S else mm_ex d y tgt ls st S := (mx_icmp ht hd h).trans mm_ifn
theorem mx_clt (ht : mm_mt[y]? = some t) {off : Int} {tgt : Nat} {a b : Int32} (hd : decode t.2.1 pc = .ok (.if_icmp .lt off, 3)) (h : (pc : Int) + off = (tgt : Int)) : mm_ex d y pc ls (.int b :: .int a :: st) S = if a < b then mm_ex d y tgt ls st S else mm_ex d y (pc + 3) ls st S := (mx_icmp ht hd h).trans mm_ifd
theorem mx_cge (ht : mm_mt[y]? = some t) {off : Int} {tgt : Nat} {a b : Int32} (hd : decode t.2.1 pc = .ok (.if_icmp .ge off, 3)) (h : (pc : Int) + off = (tgt : Int)) : mm_ex d y pc ls (.int b :: .int a :: st) S = if b ≤ a then mm_ex d y tgt ls st S else mm_ex d y (pc + 3) ls st S := (mx_icmp ht hd h).trans mm_ifd
theorem mx_cgt (ht : mm_mt[y]? = some t) {off : Int} {tgt : Nat} {a b : Int32} (hd : decode t.2.1 pc = .ok (.if_icmp .gt off, 3)) (h : (pc : Int) + off = (tgt : Int)) : mm_ex d y pc ls (.int b :: .int a :: st) S = if b < a then mm_ex d y tgt ls st S else mm_ex d y (pc + 3) ls st S := (mx_icmp ht hd h).trans mm_ifd
theorem mx_cle (ht : mm_mt[y]? = some t) {off : Int} {tgt : Nat} {a b : Int32} (hd : decode t.2.1 pc = .ok (.if_icmp .le off, 3)) (h : (pc : Int) + off = (tgt : Int)) : mm_ex d y pc ls (.int b :: .int a :: st) S = if a ≤ b then mm_ex d y tgt ls st S else mm_ex d y (pc + 3) ls st S := (mx_icmp ht hd h).trans mm_ifd
/-- the switches: by a list of keys and ends -/
def mm_sw {α : Type} (x : Int32) (ks : List (Int32 × α)) (df : α) : α := match ks with
  | [] => df
  | q :: l => if x = q.1 then q.2 else mm_sw x l df
theorem mx_tsw (ht : mm_mt[y]? = some t) {df lo hi : Int} {offs : Array Int} {len tg : Nat} {x : Int32} (hd : decode t.2.1 pc = .ok (.tableswitch df lo hi offs, len)) (h : (if x.toInt < lo ∨ hi < x.toInt then mm_jp pc df ls st S else match offs[(x.toInt - lo).toNat]? with
    | some off => mm_jp pc off ls st S
    | none => none) = mm_go tg ls st S) : mm_ex d y pc ls (.int x :: st) S = mm_ex d y tg ls st S := mm_ex_go ht hd rfl h mm_nn
theorem mx_lsw (ht : mm_mt[y]? = some t) {df : Int} {ps : Array (Int × Int)} {len tg : Nat} {x : Int32} (hd : decode t.2.1 pc = .ok (.lookupswitch df ps, len)) (hp : (ps.toList.zip (ps.toList.drop 1)).all (fun (a, next) => a.1 < next.1) = true) (h : (pc : Int) + Op.lookupswitch.offset ps.toList df x.toInt = (tg : Int)) : mm_ex d y pc ls (.int x :: st) S = mm_ex d y tg ls st S := mm_ex_go ht hd rfl ((mm_gdt hp).trans (mm_jpt h)) mm_nn
theorem mx_gets1 (ht : mm_mt[y]? = some t) (hd : decode t.2.1 pc = .ok (.getstatic 38, 3)) (h : t.2.2.2.2 = 13) : mm_ex d y pc ls st S = mm_ex d y (pc + 3) ls (.int 1 :: st) S := mm_ex_go ht hd rfl (if_pos ⟨h, rfl⟩) mm_nn
theorem mx_gets2 (ht : mm_mt[y]? = some t) (hd : decode t.2.1 pc = .ok (.getstatic 1053, 3)) (h : t.2.2.2.2 = 13) : mm_ex d y pc ls st S = mm_ex d y (pc + 3) ls (mm_FM :: st) S := mm_ex_go ht hd rfl ((if_neg (by simp)).trans (if_pos ⟨h, rfl⟩)) mm_nn
theorem mx_getS1 (ht : mm_mt[y]? = some t) {a : Nat} (hd : decode t.2.1 pc = .ok (.getfield 9, 3)) (h : t.2.2.2.2 = 13) (ha : mm_isS a = true) : mm_ex d y pc ls (.ref a :: st) S = mm_ex d y (pc + 3) ls (.ref (a + 1) :: st) S := mm_ex_go ht hd rfl ((if_pos h).trans ((if_pos ha).trans (if_pos rfl))) mm_nn
theorem mx_getS2 (ht : mm_mt[y]? = some t) {a : Nat} (hd : decode t.2.1 pc = .ok (.getfield 15, 3)) (h : t.2.2.2.2 = 13) (ha : mm_isS a = true) : mm_ex d y pc ls (.ref a :: st) S = mm_ex d y (pc + 3) ls (.int 0 :: st) S := mm_ex_go ht hd rfl ((if_pos h).trans ((if_pos ha).trans ((if_neg (by simp)).trans (if_pos rfl)))) mm_nn
theorem mx_getf (ht : mm_mt[y]? = some t) {i f k tg fi a : Nat} {v : Value} (hd : decode t.2.1 pc = .ok (.getfield i, 3)) (h : decide (t.2.2.2.2 = 13) = false) (hl : mm_fd mm_FL t.2.2.2.2 i = some (f, k, tg, fi)) (hg : mm_gf S f k tg a = some v) : mm_ex d y pc ls (.ref a :: st) S = mm_ex d y (pc + 3) ls (v :: st) S := by
  refine mm_ex_go ht hd rfl ((if_neg (of_decide_eq_false h)).trans ?_) mm_nn
  simp only [hl, hg]
theorem mx_geti (ht : mm_mt[y]? = some t) {i f k fi a : Nat} (hd : decode t.2.1 pc = .ok (.getfield i, 3)) (h : decide (t.2.2.2.2 = 13) = false) (hl : mm_fd mm_FL t.2.2.2.2 i = some (f, k, 0, fi)) (ho : mm_obj S a f = true) : mm_ex d y pc ls (.ref a :: st) S = mm_ex d y (pc + 3) ls (.int (mm_M S a k) :: st) S := mx_getf ht hd h hl (by unfold mm_gf; rw [if_pos ho]; rfl)
theorem mx_getz (ht : mm_mt[y]? = some t) {i f k fi a : Nat} (hd : decode t.2.1 pc = .ok (.getfield i, 3)) (h : decide (t.2.2.2.2 = 13) = false) (hl : mm_fd mm_FL t.2.2.2.2 i = some (f, k, 3, fi)) (ho : mm_obj S a f = true) : mm_ex d y pc ls (.ref a :: st) S = mm_ex d y (pc + 3) ls (.int (mm_M S a k) :: st) S := mx_getf ht hd h hl (by unfold mm_gf; rw [if_pos ho]; rfl)
theorem mx_getj (ht : mm_mt[y]? = some t) {i f k fi a : Nat} (hd : decode t.2.1 pc = .ok (.getfield i, 3)) (h : decide (t.2.2.2.2 = 13) = false) (hl : mm_fd mm_FL t.2.2.2.2 i = some (f, k, 1, fi)) (ho : mm_obj S a f = true) : mm_ex d y pc ls (.ref a :: st) S = mm_ex d y (pc + 3) ls (.long (mm_L S a k) :: st) S := mx_getf ht hd h hl (by unfold mm_gf; rw [if_pos ho]; rfl)
theorem mx_getr (ht : mm_mt[y]? = some t) {i f k fi a : Nat} (hd : decode t.2.1 pc = .ok (.getfield i, 3)) (h : decide (t.2.2.2.2 = 13) = false) (hl : mm_fd mm_FL t.2.2.2.2 i = some (f, k, 2, fi)) (ho : mm_obj S a f = true) : mm_ex d y pc ls (.ref a :: st) S = mm_ex d y (pc + 3) ls (mm_rv (mm_R S a k) :: st) S := mx_getf ht hd h hl (by unfold mm_gf; rw [if_pos ho]; rfl)
theorem mx_putf (ht : mm_mt[y]? = some t) {i f k tg fi a : Nat} {v : Value} {S1 : mm_S} (hd : decode t.2.1 pc = .ok (.putfield i, 3)) (hl : mm_fd mm_FL t.2.2.2.2 i = some (f, k, tg, fi)) (hi : (decide (fi = 0) || (decide (t.1.name = "<init>") && decide ((mm_T f k).1 = t.1.cls))) = true) (hg : mm_pf S f k tg a v = some S1) (hm : mm_n S ≤ mm_n S1 ∧ mm_z S ≤ mm_z S1) : mm_ex d y pc ls (v :: .ref a :: st) S = mm_ex d y (pc + 3) ls st S1 := by
  have e : mm_st d t pc ls (v :: .ref a :: st) S (.putfield i) = mm_go (pc + 3) ls st S1 := by
    unfold mm_st mm_pr
    simp only [hl, hg, hi, mm_gd, if_true]
  exact mm_ex_go ht hd rfl e hm
theorem mx_puti (ht : mm_mt[y]? = some t) {i f k fi a : Nat} {x : Int32} (hd : decode t.2.1 pc = .ok (.putfield i, 3)) (hl : mm_fd mm_FL t.2.2.2.2 i = some (f, k, 0, fi)) (hi : (decide (fi = 0) || (decide (t.1.name = "<init>") && decide ((mm_T f k).1 = t.1.cls))) = true) (ho : mm_obj S a f = true) : mm_ex d y pc ls (.int x :: .ref a :: st) S = mm_ex d y (pc + 3) ls st (mm_sM S a (mm_u (mm_M S a) k x)) := mx_putf ht hd hl hi (by unfold mm_pf; exact if_pos ho) mm_nn
theorem mx_putz (ht : mm_mt[y]? = some t) {i f k fi a : Nat} {x : Int32} (hd : decode t.2.1 pc = .ok (.putfield i, 3)) (hl : mm_fd mm_FL t.2.2.2.2 i = some (f, k, 3, fi)) (hi : (decide (fi = 0) || (decide (t.1.name = "<init>") && decide ((mm_T f k).1 = t.1.cls))) = true) (ho : mm_obj S a f = true) (hx : x = 0 ∨ x = 1) : mm_ex d y pc ls (.int x :: .ref a :: st) S = mm_ex d y (pc + 3) ls st (mm_sM S a (mm_u (mm_M S a) k x)) := mx_putf ht hd hl hi (by unfold mm_pf; rw [if_pos ho]; exact if_pos hx) mm_nn
theorem mx_putj (ht : mm_mt[y]? = some t) {i f k fi a : Nat} {x : Int64} (hd : decode t.2.1 pc = .ok (.putfield i, 3)) (hl : mm_fd mm_FL t.2.2.2.2 i = some (f, k, 1, fi)) (hi : (decide (fi = 0) || (decide (t.1.name = "<init>") && decide ((mm_T f k).1 = t.1.cls))) = true) (ho : mm_obj S a f = true) : mm_ex d y pc ls (.long x :: .ref a :: st) S = mm_ex d y (pc + 3) ls st (mm_sL S a (mm_u (mm_L S a) k x)) := mx_putf ht hd hl hi (by unfold mm_pf; exact if_pos ho) mm_nn
theorem mx_putr (ht : mm_mt[y]? = some t) {i f k fi a b : Nat} (hd : decode t.2.1 pc = .ok (.putfield i, 3)) (hl : mm_fd mm_FL t.2.2.2.2 i = some (f, k, 2, fi)) (hi : (decide (fi = 0) || (decide (t.1.name = "<init>") && decide ((mm_T f k).1 = t.1.cls))) = true) (ho : mm_obj S a f = true) (hb : b < mm_n S) : mm_ex d y pc ls (.ref b :: .ref a :: st) S = mm_ex d y (pc + 3) ls st (mm_sR S a (mm_u (mm_R S a) k (some b))) := mx_putf ht hd hl hi (by unfold mm_pf; rw [if_pos ho]; exact if_pos hb) mm_nn
theorem mm_and2 {a b : Bool} (h1 : a = true) (h2 : b = true) : (a && b) = true := by rw [h1, h2]; rfl
theorem mx_iald (ht : mm_mt[y]? = some t) {a : Nat} {i : Int32} (hd : decode t.2.1 pc = .ok (.iaload, 1)) (h1 : mm_arr S a 13 = true) (h2 : mm_inb i (mm_N S a) = true) : mm_ex d y pc ls (.int i :: .ref a :: st) S = mm_ex d y (pc + 1) ls (.int (mm_M S a i.toNatClampNeg) :: st) S := mm_ex_go ht hd rfl ((if_pos h1).trans (mm_gdt h2)) mm_nn
theorem mx_isc (ht : mm_mt[y]? = some t) {i : Int32} (hd : decode t.2.1 pc = .ok (.iaload, 1)) (h1 : mm_arr S mm_SC 13 = false) (h0 : t.2.2.2.2 = 17) (h2 : mm_inb i (mm_N S mm_SC) = true) : mm_ex d y pc ls (.int i :: .ref mm_SC :: st) S = mm_ex d y (pc + 1) ls (.int (mm_M S mm_SC i.toNatClampNeg) :: st) S := mm_ex_go ht hd rfl ((if_neg (by rw [h1]; decide)).trans (mm_gdt (by simp [h0, h2]))) mm_nn
theorem mx_lald (ht : mm_mt[y]? = some t) {a : Nat} {i : Int32} (hd : decode t.2.1 pc = .ok (.laload, 1)) (h1 : mm_arr S a 14 = true) (h2 : mm_inb i (mm_N S a) = true) : mm_ex d y pc ls (.int i :: .ref a :: st) S = mm_ex d y (pc + 1) ls (.long (mm_L S a i.toNatClampNeg) :: st) S := mm_ex_go ht hd rfl (mm_gdt (mm_and2 h1 h2)) mm_nn
theorem mx_zald (ht : mm_mt[y]? = some t) {a : Nat} {i : Int32} (hd : decode t.2.1 pc = .ok (.baload, 1)) (h1 : mm_arr S a 15 = true) (h2 : mm_inb i (mm_N S a) = true) : mm_ex d y pc ls (.int i :: .ref a :: st) S = mm_ex d y (pc + 1) ls (.int (mm_M S a i.toNatClampNeg) :: st) S := mm_ex_go ht hd rfl ((if_pos h1).trans (mm_gdt h2)) mm_nn
theorem mx_bald (ht : mm_mt[y]? = some t) {a : Nat} {i : Int32} (hd : decode t.2.1 pc = .ok (.baload, 1)) (h1 : mm_arr S a 15 = false) (hB : mm_isB a = true) (h2 : mm_inb i (mm_by a).length = true) : mm_ex d y pc ls (.int i :: .ref a :: st) S = mm_ex d y (pc + 1) ls (.int ((mm_by a).getD i.toNatClampNeg 0) :: st) S := mm_ex_go ht hd rfl ((if_neg (by rw [h1]; decide)).trans (mm_gdt (by rw [hB, h2]; rfl))) mm_nn
theorem mx_qald (ht : mm_mt[y]? = some t) {a : Nat} {i : Int32} (hd : decode t.2.1 pc = .ok (.aaload, 1)) (h1 : (mm_arr S a 16 || mm_arr S a 17 || mm_arr S a 18) = true) (h2 : mm_inb i (mm_N S a) = true) : mm_ex d y pc ls (.int i :: .ref a :: st) S = mm_ex d y (pc + 1) ls (mm_rv (mm_R S a i.toNatClampNeg) :: st) S := mm_ex_go ht hd rfl (mm_gdt (mm_and2 h1 h2)) mm_nn
theorem mx_iast (ht : mm_mt[y]? = some t) {a : Nat} {i x : Int32} (hd : decode t.2.1 pc = .ok (.iastore, 1)) (h1 : mm_arr S a 13 = true) (h2 : mm_inb i (mm_N S a) = true) : mm_ex d y pc ls (.int x :: .int i :: .ref a :: st) S = mm_ex d y (pc + 1) ls st (mm_sM S a (mm_u (mm_M S a) i.toNatClampNeg x)) := mm_ex_go ht hd rfl (mm_gdt (mm_and2 h1 h2)) mm_nn
theorem mx_last (ht : mm_mt[y]? = some t) {a : Nat} {i : Int32} {x : Int64} (hd : decode t.2.1 pc = .ok (.lastore, 1)) (h1 : mm_arr S a 14 = true) (h2 : mm_inb i (mm_N S a) = true) : mm_ex d y pc ls (.long x :: .int i :: .ref a :: st) S = mm_ex d y (pc + 1) ls st (mm_sL S a (mm_u (mm_L S a) i.toNatClampNeg x)) := mm_ex_go ht hd rfl (mm_gdt (mm_and2 h1 h2)) mm_nn
theorem mx_zast (ht : mm_mt[y]? = some t) {a : Nat} {i x : Int32} (hd : decode t.2.1 pc = .ok (.bastore, 1)) (h1 : mm_arr S a 15 = true) (h2 : mm_inb i (mm_N S a) = true) : mm_ex d y pc ls (.int x :: .int i :: .ref a :: st) S = mm_ex d y (pc + 1) ls st (mm_sM S a (mm_u (mm_M S a) i.toNatClampNeg (vp_nar .boolean x))) := mm_ex_go ht hd rfl (mm_gdt (mm_and2 h1 h2)) mm_nn
theorem mx_qastN (ht : mm_mt[y]? = some t) {a : Nat} {i : Int32} (hd : decode t.2.1 pc = .ok (.aastore, 1)) (h1 : (mm_arr S a 16 || mm_arr S a 17 || mm_arr S a 18) = true) (h2 : mm_inb i (mm_N S a) = true) : mm_ex d y pc ls (.null :: .int i :: .ref a :: st) S = mm_ex d y (pc + 1) ls st (mm_sR S a (mm_u (mm_R S a) i.toNatClampNeg none)) := mm_ex_go ht hd rfl (mm_gdt (mm_and2 h1 h2)) mm_nn
theorem mx_qast (ht : mm_mt[y]? = some t) {a b : Nat} {i : Int32} (hd : decode t.2.1 pc = .ok (.aastore, 1)) (h1 : (mm_arr S a 16 || mm_arr S a 17 || mm_arr S a 18) = true) (h2 : mm_inb i (mm_N S a) = true) (h3 : mm_obj S b (if mm_K S a = 16 then 0 else if mm_K S a = 17 then 6 else 8) = true) : mm_ex d y pc ls (.ref b :: .int i :: .ref a :: st) S = mm_ex d y (pc + 1) ls st (mm_sR S a (mm_u (mm_R S a) i.toNatClampNeg (some b))) := mm_ex_go ht hd rfl ((mm_gdt (mm_and2 h1 h2)).trans (mm_gdt h3)) mm_nn
theorem mx_alen (ht : mm_mt[y]? = some t) {a : Nat} (hd : decode t.2.1 pc = .ok (.arraylength, 1)) (h1 : (decide (a < mm_n S) && decide (13 ≤ mm_K S a) && decide (mm_K S a < 19)) = true) : mm_ex d y pc ls (.ref a :: st) S = mm_ex d y (pc + 1) ls (.int (nI (mm_N S a)) :: st) S := mm_ex_go ht hd rfl (if_pos h1) mm_nn
theorem mx_aleni (ht : mm_mt[y]? = some t) {a : Nat} (hd : decode t.2.1 pc = .ok (.arraylength, 1)) (h1 : mm_arr S a 13 = true) : mm_ex d y pc ls (.ref a :: st) S = mm_ex d y (pc + 1) ls (.int (nI (mm_N S a)) :: st) S := mx_alen ht hd (by
  obtain ⟨h2, h3⟩ := mm_arr_sp h1
  simp [h2, h3])
theorem mx_alenB (ht : mm_mt[y]? = some t) {a : Nat} (hd : decode t.2.1 pc = .ok (.arraylength, 1)) (h1 : (decide (a < mm_n S) && decide (13 ≤ mm_K S a) && decide (mm_K S a < 19)) = false) (hB : mm_isB a = true) : mm_ex d y pc ls (.ref a :: st) S = mm_ex d y (pc + 1) ls (.int (nI (mm_by a).length) :: st) S := mm_ex_go ht hd rfl ((if_neg (by rw [h1]; decide)).trans (if_pos hB)) mm_nn
theorem mx_alenS (ht : mm_mt[y]? = some t) (hd : decode t.2.1 pc = .ok (.arraylength, 1)) (h1 : (decide (mm_SC < mm_n S) && decide (13 ≤ mm_K S mm_SC) && decide (mm_K S mm_SC < 19)) = false) (h0 : t.2.2.2.2 = 17) : mm_ex d y pc ls (.ref mm_SC :: st) S = mm_ex d y (pc + 1) ls (.int (nI (mm_N S mm_SC)) :: st) S := mm_ex_go ht hd rfl ((if_neg (by rw [h1]; decide)).trans ((if_neg (by decide)).trans (mm_gdt (by simp [h0])))) mm_nn
theorem mm_nwle {k n : Nat} : mm_n S ≤ mm_n (mm_nw S k n) ∧ mm_z S ≤ mm_z (mm_nw S k n) := ⟨Nat.le_succ _, Nat.le_add_right _ _⟩
theorem mx_newi (ht : mm_mt[y]? = some t) {n : Int32} (hd : decode t.2.1 pc = .ok (.newarray .int, 2)) (h : (!decide (n < 0) && decide (n.toNatClampNeg ≤ 1000) && decide (mm_n S < 1000000)) = true) : mm_ex d y pc ls (.int n :: st) S = mm_ex d y (pc + 2) ls (.ref (mm_n S) :: st) (mm_nw S 13 n.toNatClampNeg) := mm_ex_go ht hd rfl (mm_gdt h) mm_nwle
theorem mx_newj (ht : mm_mt[y]? = some t) {n : Int32} (hd : decode t.2.1 pc = .ok (.newarray .long, 2)) (h : (!decide (n < 0) && decide (n.toNatClampNeg ≤ 1000) && decide (mm_n S < 1000000)) = true) : mm_ex d y pc ls (.int n :: st) S = mm_ex d y (pc + 2) ls (.ref (mm_n S) :: st) (mm_nw S 14 n.toNatClampNeg) := mm_ex_go ht hd rfl (mm_gdt h) mm_nwle
theorem mx_newz (ht : mm_mt[y]? = some t) {n : Int32} (hd : decode t.2.1 pc = .ok (.newarray .boolean, 2)) (h : (!decide (n < 0) && decide (n.toNatClampNeg ≤ 1000) && decide (mm_n S < 1000000)) = true) : mm_ex d y pc ls (.int n :: st) S = mm_ex d y (pc + 2) ls (.ref (mm_n S) :: st) (mm_nw S 15 n.toNatClampNeg) := mm_ex_go ht hd rfl (mm_gdt h) mm_nwle
theorem mx_newq (ht : mm_mt[y]? = some t) {n : Int32} {i k : Nat} (hd : decode t.2.1 pc = .ok (.anewarray i, 3)) (hl : mm_fd mm_AN t.2.2.2.2 i = some k) (h : (!decide (n < 0) && decide (n.toNatClampNeg ≤ 1000) && decide (mm_n S < 1000000)) = true) : mm_ex d y pc ls (.int n :: st) S = mm_ex d y (pc + 3) ls (.ref (mm_n S) :: st) (mm_nw S k n.toNatClampNeg) := mm_ex_go ht hd rfl ((mm_gdt h).trans (by simp only [hl])) mm_nwle
theorem mx_new (ht : mm_mt[y]? = some t) {i k n : Nat} (hd : decode t.2.1 pc = .ok (.new i, 3)) (hl : mm_fd mm_NW t.2.2.2.2 i = some k) (hn : mm_NF k = n) (h : decide (mm_n S < 1000000) = true) : mm_ex d y pc ls st S = mm_ex d y (pc + 3) ls (.ref (mm_n S) :: st) (mm_nw S k n) := by
  subst hn
  exact mm_ex_go ht hd rfl ((mm_gdt h).trans (by simp only [hl])) mm_nwle
theorem mx_inst (ht : mm_mt[y]? = some t) {i a : Nat} {e : String × List Nat} (hd : decode t.2.1 pc = .ok (.instanceof i, 3)) (hl : mm_fd mm_IO t.2.2.2.2 i = some e) (h : mm_obj S a 0 = true) : mm_ex d y pc ls (.ref a :: st) S = mm_ex d y (pc + 3) ls (.int (if mm_K S a ∈ e.2 then 1 else 0) :: st) S := by
  have e1 : mm_st d t pc ls (.ref a :: st) S (.instanceof i) = mm_go (pc + 3) ls (.int (if mm_K S a ∈ e.2 then 1 else 0) :: st) S := by
    unfold mm_st mm_r1
    simp only [hl, mm_gdt h]
  exact mm_ex_go ht hd rfl e1 mm_nn
theorem mx_oinit (ht : mm_mt[y]? = some t) {i a : Nat} (hd : decode t.2.1 pc = .ok (.invokespecial i, 3)) (hl : mm_fd mm_OI t.2.2.2.2 i = some ()) (hc : mm_cs st ≤ 8) : mm_ex (d + 1) y pc ls (.ref a :: st) S = mm_ex (d + 1) y (pc + 3) ls st S := by
  have e1 : mm_st (d + 1) t pc ls (.ref a :: st) S (.invokespecial i) = mm_go (pc + 3) ls st S := by
    unfold mm_st mm_r1
    simp only [hl]
    exact mm_gdt (by simp [hc])
  exact mm_ex_go ht hd rfl e1 mm_nn
theorem mx_cpi (ht : mm_mt[y]? = some t) {i a a0 : Nat} {sp dp n : Int32} (hd : decode t.2.1 pc = .ok (.invokestatic i, 3)) (hl : mm_fd mm_AC t.2.2.2.2 i = some ()) (hc : mm_cs st ≤ 8) (h1 : mm_arr S a0 13 = true) (h2 : mm_arr S a 13 = true) (h3 : mm_cpOk sp dp n (mm_N S a0) (mm_N S a) = true) : mm_ex (d + 1) y pc ls (.int n :: .int dp :: .ref a :: .int sp :: .ref a0 :: st) S = mm_ex (d + 1) y (pc + 3) ls st (mm_sM S a (va_cpy (mm_M S a0) (mm_M S a) sp.toNatClampNeg dp.toNatClampNeg n.toNatClampNeg)) := by
  have e1 : mm_st (d + 1) t pc ls (.int n :: .int dp :: .ref a :: .int sp :: .ref a0 :: st) S (.invokestatic i) = mm_go (pc + 3) ls st (mm_sM S a (va_cpy (mm_M S a0) (mm_M S a) sp.toNatClampNeg dp.toNatClampNeg n.toNatClampNeg)) := by
    unfold mm_st mm_i2 mm_r1 mm_i1
    simp only [hl]
    refine (mm_gdt (by simp [hc])).trans (if_pos ?_)
    rw [h1, h2, h3]; rfl
  exact mm_ex_go ht hd rfl e1 mm_nn
theorem mx_cpl (ht : mm_mt[y]? = some t) {i a a0 : Nat} {sp dp n : Int32} (hd : decode t.2.1 pc = .ok (.invokestatic i, 3)) (hl : mm_fd mm_AC t.2.2.2.2 i = some ()) (hc : mm_cs st ≤ 8) (h1 : mm_arr S a0 14 = true) (h2 : mm_arr S a 14 = true) (h3 : mm_cpOk sp dp n (mm_N S a0) (mm_N S a) = true) : mm_ex (d + 1) y pc ls (.int n :: .int dp :: .ref a :: .int sp :: .ref a0 :: st) S = mm_ex (d + 1) y (pc + 3) ls st (mm_sL S a (va_cpy (mm_L S a0) (mm_L S a) sp.toNatClampNeg dp.toNatClampNeg n.toNatClampNeg)) := by
  have e1 : mm_st (d + 1) t pc ls (.int n :: .int dp :: .ref a :: .int sp :: .ref a0 :: st) S (.invokestatic i) = mm_go (pc + 3) ls st (mm_sL S a (va_cpy (mm_L S a0) (mm_L S a) sp.toNatClampNeg dp.toNatClampNeg n.toNatClampNeg)) := by
    unfold mm_st mm_i2 mm_r1 mm_i1
    simp only [hl]
    have h0 : mm_arr S a0 13 = false := by
      obtain ⟨-, hk⟩ := mm_arr_sp h1
      unfold mm_arr
      simp [hk]
    refine (mm_gdt (by simp [hc])).trans ((if_neg ?_).trans (if_pos ?_))
    · rw [h0]; simp
    · rw [h1, h2, h3]; rfl
  exact mm_ex_go ht hd rfl e1 mm_nn
theorem mx_math (ht : mm_mt[y]? = some t) {i k : Nat} {a b : Int32} (hd : decode t.2.1 pc = .ok (.invokestatic i, 3)) (hl0 : mm_fd mm_AC t.2.2.2.2 i = none) (hl : mm_fd mm_MX t.2.2.2.2 i = some k) (hc : mm_cs st ≤ 8) : mm_ex (d + 1) y pc ls (.int b :: .int a :: st) S = mm_ex (d + 1) y (pc + 3) ls (.int (if k = 0 then (if b < a then b else a) else (if a < b then b else a)) :: st) S := by
  have e1 : mm_st (d + 1) t pc ls (.int b :: .int a :: st) S (.invokestatic i) = mm_go (pc + 3) ls (.int (if k = 0 then (if b < a then b else a) else (if a < b then b else a)) :: st) S := by
    unfold mm_st mm_i2
    simp only [hl0, hl]
    exact mm_gdt (by simp [hc])
  exact mm_ex_go ht hd rfl e1 mm_nn
theorem mx_stat (ht : mm_mt[y]? = some t) {i na z : Nat} (as : List Value) (hd : decode t.2.1 pc = .ok (.invokestatic i, 3)) (hl0 : mm_fd mm_AC t.2.2.2.2 i = none) (hl1 : mm_fd mm_MX t.2.2.2.2 i = none) (hl : mm_fd mm_ST t.2.2.2.2 i = some (na, z)) (hn : as.length = na) (hz : z < mm_nc) (hc : mm_cs st ≤ 8) : mm_ex (d + 1) y pc ls (as.reverse ++ st) S = mm_bd (mm_cl d z as S) (fun v S2 => mm_ex (d + 1) y (pc + 3) ls (v.toList ++ st) S2) := by
  have hr : as.reverse.length = na := by rw [List.length_reverse]; exact hn
  have e1 : mm_st (d + 1) t pc ls (as.reverse ++ st) S (.invokestatic i) = mm_ca z as st S := by
    unfold mm_st
    simp only [hl0, hl1, hl]
    rw [List.take_left' hr, List.drop_left' hr, List.reverse_reverse]
    exact mm_gdt (by simp [hc]; omega)
  exact mm_ex_ca ht hd rfl e1 rfl mm_nn hz
theorem mx_virt (ht : mm_mt[y]? = some t) {i na z k a : Nat} {l : List (Nat × Nat)} (as : List Value) (hd : decode t.2.1 pc = .ok (.invokevirtual i, 3)) (hl : mm_fd mm_VT t.2.2.2.2 i = some (na, l)) (hk : mm_lu l k = some z) (hn : as.length = na) (hz : z < mm_nc) (hc : mm_cs st ≤ 8) (hr : mm_rk S a = k) : mm_ex (d + 1) y pc ls (as.reverse ++ .ref a :: st) S = mm_bd (mm_cl d z (.ref a :: as) S) (fun v S2 => mm_ex (d + 1) y (pc + 3) ls (v.toList ++ st) S2) := by
  have hr1 : as.reverse.length = na := by rw [List.length_reverse]; exact hn
  have e1 : mm_st (d + 1) t pc ls (as.reverse ++ .ref a :: st) S (.invokevirtual i) = mm_ca z (.ref a :: as) st S := by
    unfold mm_st
    simp only [hl]
    rw [List.take_left' hr1, List.drop_left' hr1, List.reverse_reverse]
    refine (mm_gdt (by simp; omega)).trans ?_
    simp only [mm_r1, hr, hk]
    exact mm_gdt (by simp [hc])
  exact mm_ex_ca ht hd rfl e1 rfl mm_nn hz
theorem mx_spec (ht : mm_mt[y]? = some t) {i na z srt a : Nat} (as : List Value) (hd : decode t.2.1 pc = .ok (.invokespecial i, 3)) (hl0 : mm_fd mm_OI t.2.2.2.2 i = none) (hl : mm_fd mm_SP t.2.2.2.2 i = some (na, z, srt)) (hn : as.length = na) (hz : z < mm_nc) (hc : mm_cs st ≤ 8) (hr : (decide (a < mm_n S) && decide (mm_K S a < 13)) = true) : mm_ex (d + 1) y pc ls (as.reverse ++ .ref a :: st) S = mm_bd (mm_cl d z (.ref a :: as) S) (fun v S2 => mm_ex (d + 1) y (pc + 3) ls (v.toList ++ st) S2) := by
  have hr1 : as.reverse.length = na := by rw [List.length_reverse]; exact hn
  have e1 : mm_st (d + 1) t pc ls (as.reverse ++ .ref a :: st) S (.invokespecial i) = mm_ca z (.ref a :: as) st S := by
    unfold mm_st
    simp only [hl0, hl]
    rw [List.take_left' hr1, List.drop_left' hr1, List.reverse_reverse]
    refine (mm_gdt (by simp; omega)).trans ?_
    simp only [mm_r1]
    rw [Bool.and_eq_true] at hr
    exact mm_gdt (by simp only [hc, decide_true, Bool.true_and]; rw [hr.1, hr.2]; rfl)
  exact mm_ex_ca ht hd rfl e1 rfl mm_nn hz
theorem mx_iret (ht : mm_mt[y]? = some t) {ty : FieldType} {x : Int32} (hd : decode t.2.1 pc = .ok (.ireturn, 1)) (hr : t.2.2.2.1 = some ty) (h : narrow ty (.int x) = .int x) (hy : ty ≠ .long) : mm_ex d y pc ls [.int x] S = some (some (.int x), S) := by
  have e1 : mm_st d t pc ls [.int x] S .ireturn = mm_rt (some (.int x)) S := by
    show mm_ire [.int x] t.2.2.2.1 S = _
    rw [hr]
    exact if_pos ⟨h, hy⟩
  exact mm_ex_rt ht hd rfl e1 rfl mm_nn
theorem mx_lret (ht : mm_mt[y]? = some t) {x : Int64} (hd : decode t.2.1 pc = .ok (.lreturn, 1)) (hr : t.2.2.2.1 = some .long) : mm_ex d y pc ls [.long x] S = some (some (.long x), S) := by
  have e1 : mm_st d t pc ls [.long x] S .lreturn = mm_rt (some (.long x)) S := by
    show mm_lre [.long x] t.2.2.2.1 S = _
    rw [hr]; rfl
  exact mm_ex_rt ht hd rfl e1 rfl mm_nn
theorem mx_aret (ht : mm_mt[y]? = some t) {n : String} {a : Nat} (hd : decode t.2.1 pc = .ok (.areturn, 1)) (hr : t.2.2.2.1 = some (.object n)) : mm_ex d y pc ls [.ref a] S = some (some (.ref a), S) := by
  have e1 : mm_st d t pc ls [.ref a] S .areturn = mm_rt (some (.ref a)) S := by
    show mm_are [.ref a] t.2.2.2.1 S = _
    rw [hr]; rfl
  exact mm_ex_rt ht hd rfl e1 rfl mm_nn
theorem mx_vret (ht : mm_mt[y]? = some t) (hd : decode t.2.1 pc = .ok (.return_, 1)) (hr : t.2.2.2.1 = none) : mm_ex d y pc ls [] S = some (none, S) := by
  have e1 : mm_st d t pc ls [] S .return_ = mm_rt none S := by
    show mm_vre [] t.2.2.2.1 S = _
    rw [hr]; rfl
  exact mm_ex_rt ht hd rfl e1 rfl mm_nn
theorem mm_cl_eq (ht : mm_mt[y]? = some t) {as ls' : List Value} (hf : (mm_as as).length ≤ t.2.2.1) (he : mm_en t.2.2.1 as = ls') : mm_cl d y as S = mm_ex d y 0 ls' [] S := by
  subst he
  unfold mm_cl
  simp only [ht]
  exact if_pos hf
theorem mm_nz {x : Int32} (h : x = 0 ∨ x = 1) : narrow .boolean (.int x) = .int x := by rcases h with rfl | rfl <;> rfl
end MX
