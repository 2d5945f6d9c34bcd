/-! ===== a frame's run; a method's contract; calls ===== -/
theorem mo_stuck {i : Instr} (h : ∀ d t pc ls st S, mm_st d t pc ls st S i = none) : mm_Ok i := by
  intro p l e R s m args below meth c Q D ca z A t XS d pc len ls st S pc2 ls2 st2 S2 aa H locs lm cells slots F I X hd hl hs hc hz K
  rw [h] at hs
  cases hs
theorem mm_ire_inv {st : List Value} {rt : Option FieldType} {S : mm_S} {A : (Nat × List Value × List Value × mm_S) ⊕ ((Nat × List Value × List Value × mm_S) ⊕ (Option Value × mm_S))} (h : mm_ire st rt S = some A) : ∃ (x : Int32) (ty : FieldType), st = [.int x] ∧ rt = some ty ∧ narrow ty (.int x) = .int x ∧ ty ≠ .long ∧ A = .inr (.inr (some (.int x), S)) := by
  unfold mm_ire at h
  split at h
  · split at h
    · rename_i x ty hq
      exact ⟨x, ty, rfl, rfl, hq.1, hq.2, (Option.some.inj h).symm⟩
    · cases h
  · cases h
theorem mm_lre_inv {st : List Value} {rt : Option FieldType} {S : mm_S} {A : (Nat × List Value × List Value × mm_S) ⊕ ((Nat × List Value × List Value × mm_S) ⊕ (Option Value × mm_S))} (h : mm_lre st rt S = some A) : ∃ (x : Int64), st = [.long x] ∧ rt = some .long ∧ A = .inr (.inr (some (.long x), S)) := by
  unfold mm_lre at h
  split at h
  · exact ⟨_, rfl, rfl, (Option.some.inj h).symm⟩
  · cases h
theorem mm_are_inv {st : List Value} {rt : Option FieldType} {S : mm_S} {A : (Nat × List Value × List Value × mm_S) ⊕ ((Nat × List Value × List Value × mm_S) ⊕ (Option Value × mm_S))} (h : mm_are st rt S = some A) : ∃ (a : Nat) (n : String), st = [.ref a] ∧ rt = some (.object n) ∧ A = .inr (.inr (some (.ref a), S)) := by
  unfold mm_are at h
  split at h
  · exact ⟨_, _, rfl, rfl, (Option.some.inj h).symm⟩
  · cases h
theorem mm_vre_inv {st : List Value} {rt : Option FieldType} {S : mm_S} {A : (Nat × List Value × List Value × mm_S) ⊕ ((Nat × List Value × List Value × mm_S) ⊕ (Option Value × mm_S))} (h : mm_vre st rt S = some A) : st = [] ∧ rt = none ∧ A = .inr (.inr (none, S)) := by
  unfold mm_vre at h
  split at h
  · exact ⟨rfl, rfl, (Option.some.inj h).symm⟩
  · cases h
theorem mm_ok_all (i : Instr) : mm_Ok i := by
  cases i with
  | iconst n => exact mo_iconst n
  | bipush n => exact mo_bipush n
  | sipush n => exact mo_sipush n
  | lconst n => exact mo_lconst n
  | ldc n => exact mo_ldc n
  | ldc_w n => exact mo_ldc_w n
  | ldc2_w n => exact mo_ldc2_w n
  | iload_n k => exact mo_iload_n k
  | iload k => exact mo_iload k
  | lload_n k => exact mo_lload_n k
  | lload k => exact mo_lload k
  | aload_n k => exact mo_aload_n k
  | aload k => exact mo_aload k
  | istore_n k => exact mo_istore_n k
  | istore k => exact mo_istore k
  | lstore_n k => exact mo_lstore_n k
  | lstore k => exact mo_lstore k
  | astore_n k => exact mo_astore_n k
  | astore k => exact mo_astore k
  | iinc k n => exact mo_iinc k n
  | iadd => exact mo_iadd
  | isub => exact mo_isub
  | imul => exact mo_imul
  | iand => exact mo_iand
  | ior => exact mo_ior
  | ixor => exact mo_ixor
  | idiv => exact mo_idiv
  | irem => exact mo_irem
  | ishl => exact mo_ishl
  | ishr => exact mo_ishr
  | iushr => exact mo_iushr
  | ineg => exact mo_ineg
  | i2l => exact mo_i2l
  | i2b => exact mo_i2b
  | i2s => exact mo_i2s
  | i2c => exact mo_i2c
  | l2i => exact mo_l2i
  | ladd => exact mo_ladd
  | lsub => exact mo_lsub
  | lmul => exact mo_lmul
  | land => exact mo_land
  | lor => exact mo_lor
  | ldiv => exact mo_ldiv
  | lrem => exact mo_lrem
  | lshl => exact mo_lshl
  | lcmp => exact mo_lcmp
  | dup => exact mo_dup
  | pop => exact mo_pop
  | pop2 => exact mo_pop2
  | dup2 => exact mo_dup2
  | goto off => exact mo_goto off
  | ifCond c off => exact mo_ifCond c off
  | if_icmp c off => exact mo_if_icmp c off
  | tableswitch df lo hi offs => exact mo_tableswitch df lo hi offs
  | lookupswitch df ps => exact mo_lookupswitch df ps
  | getstatic i => exact mo_getstatic i
  | getfield i => exact mo_getfield i
  | putfield i => exact mo_putfield i
  | iaload => exact mo_iaload
  | laload => exact mo_laload
  | baload => exact mo_baload
  | aaload => exact mo_aaload
  | iastore => exact mo_iastore
  | lastore => exact mo_lastore
  | bastore => exact mo_bastore
  | aastore => exact mo_aastore
  | arraylength => exact mo_arraylength
  | newarray ty => exact mo_newarray ty
  | anewarray i => exact mo_anewarray i
  | new i => exact mo_new i
  | instanceof i => exact mo_instanceof i
  | invokestatic i => exact mo_invokestatic i
  | invokevirtual i => exact mo_invokevirtual i
  | invokespecial i => exact mo_invokespecial i
  | ireturn =>
    intro p l e R s m args below meth c Q D ca z A t XS d pc len ls st S pc2 ls2 st2 S2 aa H locs lm cells slots F I X hd hl hs hc hz K
    have hs : mm_ire st t.2.2.2.1 S = some _ := hs
    obtain ⟨_, _, _, _, _, _, h⟩ := mm_ire_inv hs
    cases h
  | lreturn =>
    intro p l e R s m args below meth c Q D ca z A t XS d pc len ls st S pc2 ls2 st2 S2 aa H locs lm cells slots F I X hd hl hs hc hz K
    have hs : mm_lre st t.2.2.2.1 S = some _ := hs
    obtain ⟨_, _, _, h⟩ := mm_lre_inv hs
    cases h
  | areturn =>
    intro p l e R s m args below meth c Q D ca z A t XS d pc len ls st S pc2 ls2 st2 S2 aa H locs lm cells slots F I X hd hl hs hc hz K
    have hs : mm_are st t.2.2.2.1 S = some _ := hs
    obtain ⟨_, _, _, _, h⟩ := mm_are_inv hs
    cases h
  | return_ =>
    intro p l e R s m args below meth c Q D ca z A t XS d pc len ls st S pc2 ls2 st2 S2 aa H locs lm cells slots F I X hd hl hs hc hz K
    have hs : mm_vre st t.2.2.2.1 S = some _ := hs
    obtain ⟨_, _, h⟩ := mm_vre_inv hs
    cases h
  | _ => exact mo_stuck fun _ _ _ _ _ _ => rfl
