/-! ===== each instruction of the small machine is one of the machine's ===== -/
def mm_sl : List Nat := (List.range 12).map fun k => (mm_sx k).2.2.length
def mm_sb : List (List Int32) := (List.range 12).map fun k => (mm_sx k).2.2
def mm_Ev (z : Value) (aa : Nat → Nat) (A : Nat → Prop) (U : State) (H : Heap) : Prop :=
  vk_S 12 mm_sl mm_sb (fun k => aa (1000000 + 2 * k)) (fun k => aa (1000000 + 2 * k + 1)) A U H ∧
  (∀ k, k < 12 → vk_R "PennyMore$Reader" (mm_sx k).1 (mm_sx k).2.1 (aa (1000000 + 2 * k)) U) ∧
  va_Z "java/lang/String" "COMPACT_STRINGS" "Z" (.int 1) A U H ∧
  va_Z "jdk/internal/util/Preconditions" "SIOOBE_FORMATTER" "Ljava/util/function/BiFunction;" z A U H ∧
  z.category = 1 ∧ (∀ q ∈ mm_NC, va_Nc q.1 q.2 U) ∧ (∀ q ∈ mm_E1, va_Nw (.castable q.1 q.2) U) ∧ (∀ q ∈ mm_E2, va_AO q U) ∧ (∀ q ∈ mm_E3, va_Nw (.methodLinkNest q.1 q.2.1 q.2.2.1 q.2.2.2) U)
/-- what stays the same in a frame -/
def mm_Fx (p : Program) (R : Room) (s : State) (m : MethodId) (args : Array Value) (meth : Method) (c : Code) (D : va_G) (ca : Nat → ClassId) (A : Nat → Prop) (d : Nat) (t : mm_mT) : Prop :=
  p.tables.exec = Jvm.exec ∧ c.code = t.2.1 ∧ c.maxLocals = t.2.2.1 ∧ s.vm.findClass (mm_cn t.2.2.2.2) = some m.cls ∧ (∀ w ∈ mm_G, w.before args s = true) ∧ (t.1.name = "<init>" → meth.name = "<init>") ∧ t.1.cls = mm_cn t.2.2.2.2 ∧ va_K D mm_cl_s (mm_ats ca) s ∧ (∀ q, s.heap.size ≤ q → A q) ∧ d ≤ R.frames ∧ 60 * d ≤ R.locals
/-- the world as it is -/
def mm_Ix (s : State) (D : va_G) (ca : Nat → ClassId) (z : Value) (A : Nat → Prop) (t : mm_mT) (XS : Nat × (Nat → Int32)) (aa : Nat → Nat) (S : mm_S) (H : Heap) (locs : List Loc) : Prop :=
  va_P D mm_cl_s (mm_ws ca aa S) H ∧ va_D A (mm_ws ca aa S) ∧ va_S A s.heap H locs ∧ mm_wf S ∧ mm_Ev z aa A s s.heap ∧ mm_N S mm_SC = XS.1 ∧ mm_M S mm_SC = XS.2 ∧ (t.2.2.2.2 = 17 → va_X (aa mm_SC) XS.1 XS.2 s s.heap ∧ aa mm_SC < s.heap.size ∧ ¬ A (aa mm_SC))
/-- locals and stack -/
def mm_Sx (aa : Nat → Nat) (z : Value) (S : mm_S) (t : mm_mT) (ls : List Value) (lm : Array Slot) (st : List Value) : Prop := (∀ v ∈ ls, mm_vok S v) ∧ (∀ v ∈ st, mm_vok S v) ∧ mm_Lr aa z ls lm t.2.2.1
def mm_Kx (p : Program) (l : Launch) (e : Env) (R : Room) (s : State) (m : MethodId) (args : Array Value) (below : List Frame) (meth : Method) (c : Code) (Q : State → Prop) (D : va_G) (ca : Nat → ClassId) (z : Value) (A : Nat → Prop) (t : mm_mT) (XS : Nat × (Nat → Int32)) (aa : Nat → Nat) (S : mm_S) (cells slots : Nat) (pc' : Nat) (ls' st' : List Value) (S' : mm_S) : Prop :=
  ∀ (aa' : Nat → Nat) (H' : Heap) (locs' : List Loc) (lm' : Array Slot) (cells' slots' : Nat), cells' + mm_n S = cells + mm_n S' → slots' + mm_z S = slots + mm_z S' → (∀ i, i < mm_n S ∨ 1000000 ≤ i → aa' i = aa i) → mm_Ix s D ca z A t XS aa' S' H' locs' → mm_Sx aa' z S' t ls' lm' st' → W p l e R s m args below meth c H' locs' cells' slots' Q (F0 m pc' lm' (st'.map (mm_ad aa' z)))
def mm_Ok (i : Instr) : Prop := ∀ (p : Program) (l : Launch) (e : Env) (R : Room) (s : State) (m : MethodId) (args : Array Value) (below : List Frame) (meth : Method) (c : Code) (Q : State → Prop) (D : va_G) (ca : Nat → ClassId) (z : Value) (A : Nat → Prop) (t : mm_mT) (XS : Nat × (Nat → Int32)) (d pc len : Nat) (ls st : List Value) (S : mm_S) (pc' : Nat) (ls' st' : List Value) (S' : mm_S) (aa : Nat → Nat) (H : Heap) (locs : List Loc) (lm : Array Slot) (cells slots : Nat),
  mm_Fx p R s m args meth c D ca A d t → mm_Ix s D ca z A t XS aa S H locs → mm_Sx aa z S t ls lm st → decode t.2.1 pc = .ok (i, len) → mm_lk i len = true → mm_st d t pc ls st S i = mm_go pc' ls' st' S' → cells + mm_n S' ≤ R.cells + mm_n S → slots + mm_z S' ≤ R.slots + mm_z S → mm_Kx p l e R s m args below meth c Q D ca z A t XS aa S cells slots pc' ls' st' S' → W p l e R s m args below meth c H locs cells slots Q (F0 m pc lm (st.map (mm_ad aa z)))
theorem mm_lk_eq {i : Instr} {len k : Nat} (h : mm_lk i len = true) (hk : mm_ln i = k) (h0 : k ≠ 0) : len = k := by
  unfold mm_lk at h
  rw [hk] at h
  simp only [Bool.or_eq_true, decide_eq_true_eq] at h
  rcases h with h | h
  · exact absurd h h0
  · exact h.symm
theorem mm_go_inv {pc pc' : Nat} {ls ls' st st' : List Value} {S S' : mm_S} (h : mm_go pc ls st S = mm_go pc' ls' st' S') : pc = pc' ∧ ls = ls' ∧ st = st' ∧ S = S' := by
  unfold mm_go at h
  simp only [Option.some.injEq, Sum.inl.injEq, Prod.mk.injEq] at h
  exact h
theorem mm_i1_inv {st : List Value} {f : Int32 → List Value → mm_Act} {pc : Nat} {ls st' : List Value} {S : mm_S} (h : mm_i1 st f = mm_go pc ls st' S) : ∃ x r, st = .int x :: r ∧ f x r = mm_go pc ls st' S := by
  unfold mm_i1 at h
  split at h
  · exact ⟨_, _, rfl, h⟩
  · cases h
theorem mm_i2_inv {st : List Value} {f : Int32 → Int32 → List Value → mm_Act} {pc : Nat} {ls st' : List Value} {S : mm_S} (h : mm_i2 st f = mm_go pc ls st' S) : ∃ x y r, st = .int y :: .int x :: r ∧ f x y r = mm_go pc ls st' S := by
  unfold mm_i2 at h
  split at h
  · exact ⟨_, _, _, rfl, h⟩
  · cases h
theorem mm_j1_inv {st : List Value} {f : Int64 → List Value → mm_Act} {pc : Nat} {ls st' : List Value} {S : mm_S} (h : mm_j1 st f = mm_go pc ls st' S) : ∃ x r, st = .long x :: r ∧ f x r = mm_go pc ls st' S := by
  unfold mm_j1 at h
  split at h
  · exact ⟨_, _, rfl, h⟩
  · cases h
theorem mm_j2_inv {st : List Value} {f : Int64 → Int64 → List Value → mm_Act} {pc : Nat} {ls st' : List Value} {S : mm_S} (h : mm_j2 st f = mm_go pc ls st' S) : ∃ x y r, st = .long y :: .long x :: r ∧ f x y r = mm_go pc ls st' S := by
  unfold mm_j2 at h
  split at h
  · exact ⟨_, _, _, rfl, h⟩
  · cases h
theorem mm_r1_inv {st : List Value} {f : Nat → List Value → mm_Act} {pc : Nat} {ls st' : List Value} {S : mm_S} (h : mm_r1 st f = mm_go pc ls st' S) : ∃ (x : Nat) (r : List Value), st = .ref x :: r ∧ f x r = mm_go pc ls st' S := by
  unfold mm_r1 at h
  split at h
  · exact ⟨_, _, rfl, h⟩
  · cases h
theorem mm_pr_inv {st : List Value} {f : Value → Nat → List Value → mm_Act} {pc : Nat} {ls st' : List Value} {S : mm_S} (h : mm_pr st f = mm_go pc ls st' S) : ∃ (v : Value) (a : Nat) (r : List Value), st = v :: .ref a :: r ∧ f v a r = mm_go pc ls st' S := by
  unfold mm_pr at h
  split at h
  · exact ⟨_, _, _, rfl, h⟩
  · cases h
theorem mm_v1_inv {st : List Value} {f : Value → List Value → mm_Act} {pc : Nat} {ls st' : List Value} {S : mm_S} (h : mm_v1 st f = mm_go pc ls st' S) : ∃ v r, st = v :: r ∧ f v r = mm_go pc ls st' S := by
  unfold mm_v1 at h
  split at h
  · exact ⟨_, _, rfl, h⟩
  · cases h
theorem mm_gd_inv {b : Bool} {B : mm_Act} {pc : Nat} {ls st' : List Value} {S : mm_S} (h : mm_gd b B = mm_go pc ls st' S) : b = true ∧ B = mm_go pc ls st' S := by
  unfold mm_gd at h
  split at h
  · exact ⟨by assumption, h⟩
  · cases h
theorem mm_jp_inv {pc : Nat} {off : Int} {ls st : List Value} {S : mm_S} {pc' : Nat} {ls' st' : List Value} {S' : mm_S} (h : mm_jp pc off ls st S = mm_go pc' ls' st' S') : (pc : Int) + off = (pc' : Int) ∧ ls = ls' ∧ st = st' ∧ S = S' := by
  unfold mm_jp at h
  split at h
  · cases h
  · rename_i hn
    obtain ⟨rfl, h2, h3, h4⟩ := mm_go_inv h
    exact ⟨by omega, h2, h3, h4⟩
theorem mm_cj_inv {b : Bool} {pc : Nat} {off : Int} {ls st : List Value} {S : mm_S} {pc' : Nat} {ls' st' : List Value} {S' : mm_S} (h : mm_cj b pc off ls st S = mm_go pc' ls' st' S') : ∃ tgt : Nat, (pc : Int) + off = (tgt : Int) ∧ ls = ls' ∧ st = st' ∧ S = S' ∧ ((b = true ∧ pc' = tgt) ∨ (b = false ∧ pc' = pc + 3)) := by
  unfold mm_cj at h
  split at h
  · cases h
  · rename_i hn
    split at h
    · rename_i hb
      obtain ⟨rfl, h2, h3, h4⟩ := mm_go_inv h
      exact ⟨((pc : Int) + off).toNat, by omega, h2, h3, h4, Or.inl ⟨hb, rfl⟩⟩
    · rename_i hb
      obtain ⟨rfl, h2, h3, h4⟩ := mm_go_inv h
      exact ⟨((pc : Int) + off).toNat, by omega, h2, h3, h4, Or.inr ⟨by simpa using hb, rfl⟩⟩
theorem mm_t1 {S : mm_S} {v : Value} {l : List Value} (h : ∀ w ∈ v :: l, mm_vok S w) : ∀ w ∈ l, mm_vok S w := fun w hw => h w (List.mem_cons_of_mem _ hw)
theorem mm_p1 {S : mm_S} {v : Value} {l : List Value} (hv : mm_vok S v) (h : ∀ w ∈ l, mm_vok S w) : ∀ w ∈ v :: l, mm_vok S w := List.forall_mem_cons.mpr ⟨hv, h⟩
theorem mm_inb_in {i : Int32} {n : Nat} (h : mm_inb i n = true) : vp_in i n := by
  unfold mm_inb at h
  unfold vp_in
  simpa using h

theorem mo_iconst (n : Int) : mm_Ok (.iconst n) := by
  intro p l e R s m args below meth c Q D ca z A t XS d pc len ls st S pc2 ls2 st2 S2 aa H locs lm cells slots F I X hd hl hs hc hz K
  obtain ⟨hx, hb, hml, hown, hts, hnm, hcn, hK, hA, hdf, hdl⟩ := F
  obtain rfl : len = 1 := mm_lk_eq hl rfl (by decide)
  have hs : mm_go (pc + 1) ls (.int (Int32.ofInt n) :: st) S = _ := hs
  obtain ⟨rfl, rfl, rfl, rfl⟩ := mm_go_inv hs
  have K0 : (∀ v ∈ .int (Int32.ofInt n) :: st, mm_vok S v) → W p l e R s m args below meth c H locs cells slots Q (F0 m (pc + 1) lm ((.int (Int32.ofInt n) :: st).map (mm_ad aa z))) := fun hv => K aa H locs lm cells slots rfl rfl (fun _ _ => rfl) I ⟨X.1, hv, X.2.2⟩
  exact lv_iconst hx hb hd rfl (K0 (mm_p1 trivial X.2.1))

theorem mo_bipush (n : Int) : mm_Ok (.bipush n) := by
  intro p l e R s m args below meth c Q D ca z A t XS d pc len ls st S pc2 ls2 st2 S2 aa H locs lm cells slots F I X hd hl hs hc hz K
  obtain ⟨hx, hb, hml, hown, hts, hnm, hcn, hK, hA, hdf, hdl⟩ := F
  obtain rfl : len = 2 := mm_lk_eq hl rfl (by decide)
  have hs : mm_go (pc + 2) ls (.int (Int8.ofInt n).toInt32 :: st) S = _ := hs
  obtain ⟨rfl, rfl, rfl, rfl⟩ := mm_go_inv hs
  have K0 : (∀ v ∈ .int (Int8.ofInt n).toInt32 :: st, mm_vok S v) → W p l e R s m args below meth c H locs cells slots Q (F0 m (pc + 2) lm ((.int (Int8.ofInt n).toInt32 :: st).map (mm_ad aa z))) := fun hv => K aa H locs lm cells slots rfl rfl (fun _ _ => rfl) I ⟨X.1, hv, X.2.2⟩
  exact lv_bipush hx hb hd rfl (K0 (mm_p1 trivial X.2.1))

theorem mo_sipush (n : Int) : mm_Ok (.sipush n) := by
  intro p l e R s m args below meth c Q D ca z A t XS d pc len ls st S pc2 ls2 st2 S2 aa H locs lm cells slots F I X hd hl hs hc hz K
  obtain ⟨hx, hb, hml, hown, hts, hnm, hcn, hK, hA, hdf, hdl⟩ := F
  obtain rfl : len = 3 := mm_lk_eq hl rfl (by decide)
  have hs : mm_go (pc + 3) ls (.int (Int16.ofInt n).toInt32 :: st) S = _ := hs
  obtain ⟨rfl, rfl, rfl, rfl⟩ := mm_go_inv hs
  have K0 : (∀ v ∈ .int (Int16.ofInt n).toInt32 :: st, mm_vok S v) → W p l e R s m args below meth c H locs cells slots Q (F0 m (pc + 3) lm ((.int (Int16.ofInt n).toInt32 :: st).map (mm_ad aa z))) := fun hv => K aa H locs lm cells slots rfl rfl (fun _ _ => rfl) I ⟨X.1, hv, X.2.2⟩
  exact lv_sipush hx hb hd rfl (K0 (mm_p1 trivial X.2.1))

theorem mo_lconst (n : Fin 2) : mm_Ok (.lconst n) := by
  intro p l e R s m args below meth c Q D ca z A t XS d pc len ls st S pc2 ls2 st2 S2 aa H locs lm cells slots F I X hd hl hs hc hz K
  obtain ⟨hx, hb, hml, hown, hts, hnm, hcn, hK, hA, hdf, hdl⟩ := F
  obtain rfl : len = 1 := mm_lk_eq hl rfl (by decide)
  have hs : mm_go (pc + 1) ls (.long (Int64.ofNat (n : Nat)) :: st) S = _ := hs
  obtain ⟨rfl, rfl, rfl, rfl⟩ := mm_go_inv hs
  have K0 : (∀ v ∈ .long (Int64.ofNat (n : Nat)) :: st, mm_vok S v) → W p l e R s m args below meth c H locs cells slots Q (F0 m (pc + 1) lm ((.long (Int64.ofNat (n : Nat)) :: st).map (mm_ad aa z))) := fun hv => K aa H locs lm cells slots rfl rfl (fun _ _ => rfl) I ⟨X.1, hv, X.2.2⟩
  exact lv_lconst hx hb hd rfl (K0 (mm_p1 trivial X.2.1))

theorem mo_iload (k : Nat) : mm_Ok (.iload k) := by
  intro p l e R s m args below meth c Q D ca z A t XS d pc len ls st S pc2 ls2 st2 S2 aa H locs lm cells slots F I X hd hl hs hc hz K
  obtain ⟨hx, hb, hml, hown, hts, hnm, hcn, hK, hA, hdf, hdl⟩ := F
  obtain rfl : len = 2 := mm_lk_eq hl rfl (by decide)
  have hs : mm_i1 [mm_lg ls k] (fun x _ => mm_go (pc + 2) ls (.int x :: st) S) = _ := hs
  obtain ⟨x, r, hv, hs⟩ := mm_i1_inv hs
  have hv : mm_lg ls k = .int x := (List.cons.inj hv).1
  obtain ⟨rfl, rfl, rfl, rfl⟩ := mm_go_inv hs
  have K0 : (∀ v ∈ .int x :: st, mm_vok S v) → W p l e R s m args below meth c H locs cells slots Q (F0 m (pc + 2) lm ((.int x :: st).map (mm_ad aa z))) := fun hv => K aa H locs lm cells slots rfl rfl (fun _ _ => rfl) I ⟨X.1, hv, X.2.2⟩
  exact lv_iload hx hb hd (mm_Lr_get X.2.2 hv (by simp)) (K0 (mm_p1 trivial X.2.1))

theorem mo_iload_n (k : Fin 4) : mm_Ok (.iload_n k) := by
  intro p l e R s m args below meth c Q D ca z A t XS d pc len ls st S pc2 ls2 st2 S2 aa H locs lm cells slots F I X hd hl hs hc hz K
  obtain ⟨hx, hb, hml, hown, hts, hnm, hcn, hK, hA, hdf, hdl⟩ := F
  obtain rfl : len = 1 := mm_lk_eq hl rfl (by decide)
  have hs : mm_i1 [mm_lg ls (k : Nat)] (fun x _ => mm_go (pc + 1) ls (.int x :: st) S) = _ := hs
  obtain ⟨x, r, hv, hs⟩ := mm_i1_inv hs
  have hv : mm_lg ls (k : Nat) = .int x := (List.cons.inj hv).1
  obtain ⟨rfl, rfl, rfl, rfl⟩ := mm_go_inv hs
  have K0 : (∀ v ∈ .int x :: st, mm_vok S v) → W p l e R s m args below meth c H locs cells slots Q (F0 m (pc + 1) lm ((.int x :: st).map (mm_ad aa z))) := fun hv => K aa H locs lm cells slots rfl rfl (fun _ _ => rfl) I ⟨X.1, hv, X.2.2⟩
  exact lv_iload_n hx hb hd rfl (mm_Lr_get X.2.2 hv (by simp)) (K0 (mm_p1 trivial X.2.1))

theorem mo_lload (k : Nat) : mm_Ok (.lload k) := by
  intro p l e R s m args below meth c Q D ca z A t XS d pc len ls st S pc2 ls2 st2 S2 aa H locs lm cells slots F I X hd hl hs hc hz K
  obtain ⟨hx, hb, hml, hown, hts, hnm, hcn, hK, hA, hdf, hdl⟩ := F
  obtain rfl : len = 2 := mm_lk_eq hl rfl (by decide)
  have hs : mm_j1 [mm_lg ls k] (fun x _ => mm_go (pc + 2) ls (.long x :: st) S) = _ := hs
  obtain ⟨x, r, hv, hs⟩ := mm_j1_inv hs
  have hv : mm_lg ls k = .long x := (List.cons.inj hv).1
  obtain ⟨rfl, rfl, rfl, rfl⟩ := mm_go_inv hs
  have K0 : (∀ v ∈ .long x :: st, mm_vok S v) → W p l e R s m args below meth c H locs cells slots Q (F0 m (pc + 2) lm ((.long x :: st).map (mm_ad aa z))) := fun hv => K aa H locs lm cells slots rfl rfl (fun _ _ => rfl) I ⟨X.1, hv, X.2.2⟩
  exact lv_lload hx hb hd (mm_Lr_get X.2.2 hv (by simp)) (K0 (mm_p1 trivial X.2.1))

theorem mo_lload_n (k : Fin 4) : mm_Ok (.lload_n k) := by
  intro p l e R s m args below meth c Q D ca z A t XS d pc len ls st S pc2 ls2 st2 S2 aa H locs lm cells slots F I X hd hl hs hc hz K
  obtain ⟨hx, hb, hml, hown, hts, hnm, hcn, hK, hA, hdf, hdl⟩ := F
  obtain rfl : len = 1 := mm_lk_eq hl rfl (by decide)
  have hs : mm_j1 [mm_lg ls (k : Nat)] (fun x _ => mm_go (pc + 1) ls (.long x :: st) S) = _ := hs
  obtain ⟨x, r, hv, hs⟩ := mm_j1_inv hs
  have hv : mm_lg ls (k : Nat) = .long x := (List.cons.inj hv).1
  obtain ⟨rfl, rfl, rfl, rfl⟩ := mm_go_inv hs
  have K0 : (∀ v ∈ .long x :: st, mm_vok S v) → W p l e R s m args below meth c H locs cells slots Q (F0 m (pc + 1) lm ((.long x :: st).map (mm_ad aa z))) := fun hv => K aa H locs lm cells slots rfl rfl (fun _ _ => rfl) I ⟨X.1, hv, X.2.2⟩
  exact lv_lload_n hx hb hd rfl (mm_Lr_get X.2.2 hv (by simp)) (K0 (mm_p1 trivial X.2.1))

theorem mo_aload (k : Nat) : mm_Ok (.aload k) := by
  intro p l e R s m args below meth c Q D ca z A t XS d pc len ls st S pc2 ls2 st2 S2 aa H locs lm cells slots F I X hd hl hs hc hz K
  obtain ⟨hx, hb, hml, hown, hts, hnm, hcn, hK, hA, hdf, hdl⟩ := F
  obtain rfl : len = 2 := mm_lk_eq hl rfl (by decide)
  have hs : mm_r1 [mm_lg ls k] (fun x _ => mm_go (pc + 2) ls (.ref x :: st) S) = _ := hs
  obtain ⟨x, r, hv, hs⟩ := mm_r1_inv hs
  have hv : mm_lg ls k = .ref x := (List.cons.inj hv).1
  obtain ⟨rfl, rfl, rfl, rfl⟩ := mm_go_inv hs
  have K0 : (∀ v ∈ .ref x :: st, mm_vok S v) → W p l e R s m args below meth c H locs cells slots Q (F0 m (pc + 2) lm ((.ref x :: st).map (mm_ad aa z))) := fun hv => K aa H locs lm cells slots rfl rfl (fun _ _ => rfl) I ⟨X.1, hv, X.2.2⟩
  exact lv_aload hx hb hd (mm_Lr_get X.2.2 hv (by simp)) (K0 (mm_p1 (hv ▸ mm_lg_vok X.1 k) X.2.1))

theorem mo_aload_n (k : Fin 4) : mm_Ok (.aload_n k) := by
  intro p l e R s m args below meth c Q D ca z A t XS d pc len ls st S pc2 ls2 st2 S2 aa H locs lm cells slots F I X hd hl hs hc hz K
  obtain ⟨hx, hb, hml, hown, hts, hnm, hcn, hK, hA, hdf, hdl⟩ := F
  obtain rfl : len = 1 := mm_lk_eq hl rfl (by decide)
  have hs : mm_r1 [mm_lg ls (k : Nat)] (fun x _ => mm_go (pc + 1) ls (.ref x :: st) S) = _ := hs
  obtain ⟨x, r, hv, hs⟩ := mm_r1_inv hs
  have hv : mm_lg ls (k : Nat) = .ref x := (List.cons.inj hv).1
  obtain ⟨rfl, rfl, rfl, rfl⟩ := mm_go_inv hs
  have K0 : (∀ v ∈ .ref x :: st, mm_vok S v) → W p l e R s m args below meth c H locs cells slots Q (F0 m (pc + 1) lm ((.ref x :: st).map (mm_ad aa z))) := fun hv => K aa H locs lm cells slots rfl rfl (fun _ _ => rfl) I ⟨X.1, hv, X.2.2⟩
  exact lv_aload_n hx hb hd rfl (mm_Lr_get X.2.2 hv (by simp)) (K0 (mm_p1 (hv ▸ mm_lg_vok X.1 (k : Nat)) X.2.1))

theorem mo_istore (k : Nat) : mm_Ok (.istore k) := by
  intro p l e R s m args below meth c Q D ca z A t XS d pc len ls st S pc2 ls2 st2 S2 aa H locs lm cells slots F I X hd hl hs hc hz K
  obtain ⟨hx, hb, hml, hown, hts, hnm, hcn, hK, hA, hdf, hdl⟩ := F
  obtain rfl : len = 2 := mm_lk_eq hl rfl (by decide)
  have hs : mm_i1 st (fun x r => mm_gd (decide (k < ls.length)) (mm_go (pc + 2) (mm_l1 ls k (.int x)) r S)) = _ := hs
  obtain ⟨x, r, rfl, hs⟩ := mm_i1_inv hs
  obtain ⟨hf, hs⟩ := mm_gd_inv hs
  have hk := of_decide_eq_true hf
  obtain ⟨rfl, rfl, rfl, rfl⟩ := mm_go_inv hs
  rw [X.2.2.1] at hk
  have hzc : z.category = 1 := I.2.2.2.2.1.2.2.2.2.1
  refine lv_istore hx hb hd  X.2.2.2 hk rfl (fun lm2 h => ?_)
  exact K aa H locs lm2 cells slots rfl rfl (fun _ _ => rfl) I ⟨mm_l1_vok X.1 trivial, mm_t1 X.2.1, mm_Lr_1 hzc X.2.2 h⟩

theorem mo_istore_n (k : Fin 4) : mm_Ok (.istore_n k) := by
  intro p l e R s m args below meth c Q D ca z A t XS d pc len ls st S pc2 ls2 st2 S2 aa H locs lm cells slots F I X hd hl hs hc hz K
  obtain ⟨hx, hb, hml, hown, hts, hnm, hcn, hK, hA, hdf, hdl⟩ := F
  obtain rfl : len = 1 := mm_lk_eq hl rfl (by decide)
  have hs : mm_i1 st (fun x r => mm_gd (decide ((k : Nat) < ls.length)) (mm_go (pc + 1) (mm_l1 ls (k : Nat) (.int x)) r S)) = _ := hs
  obtain ⟨x, r, rfl, hs⟩ := mm_i1_inv hs
  obtain ⟨hf, hs⟩ := mm_gd_inv hs
  have hk := of_decide_eq_true hf
  obtain ⟨rfl, rfl, rfl, rfl⟩ := mm_go_inv hs
  rw [X.2.2.1] at hk
  have hzc : z.category = 1 := I.2.2.2.2.1.2.2.2.2.1
  refine lv_istore_n hx hb hd rfl  X.2.2.2 hk rfl (fun lm2 h => ?_)
  exact K aa H locs lm2 cells slots rfl rfl (fun _ _ => rfl) I ⟨mm_l1_vok X.1 trivial, mm_t1 X.2.1, mm_Lr_1 hzc X.2.2 h⟩

theorem mo_lstore (k : Nat) : mm_Ok (.lstore k) := by
  intro p l e R s m args below meth c Q D ca z A t XS d pc len ls st S pc2 ls2 st2 S2 aa H locs lm cells slots F I X hd hl hs hc hz K
  obtain ⟨hx, hb, hml, hown, hts, hnm, hcn, hK, hA, hdf, hdl⟩ := F
  obtain rfl : len = 2 := mm_lk_eq hl rfl (by decide)
  have hs : mm_j1 st (fun x r => mm_gd (decide (k + 1 < ls.length)) (mm_go (pc + 2) (mm_l2 ls k (.long x)) r S)) = _ := hs
  obtain ⟨x, r, rfl, hs⟩ := mm_j1_inv hs
  obtain ⟨hf, hs⟩ := mm_gd_inv hs
  have hk := of_decide_eq_true hf
  obtain ⟨rfl, rfl, rfl, rfl⟩ := mm_go_inv hs
  rw [X.2.2.1] at hk
  have hzc : z.category = 1 := I.2.2.2.2.1.2.2.2.2.1
  refine lv_lstore hx hb hd  X.2.2.2 hk rfl (fun lm2 h => ?_)
  exact K aa H locs lm2 cells slots rfl rfl (fun _ _ => rfl) I ⟨mm_l2_vok X.1 trivial, mm_t1 X.2.1, mm_Lr_2 hzc X.2.2 h⟩

theorem mo_lstore_n (k : Fin 4) : mm_Ok (.lstore_n k) := by
  intro p l e R s m args below meth c Q D ca z A t XS d pc len ls st S pc2 ls2 st2 S2 aa H locs lm cells slots F I X hd hl hs hc hz K
  obtain ⟨hx, hb, hml, hown, hts, hnm, hcn, hK, hA, hdf, hdl⟩ := F
  obtain rfl : len = 1 := mm_lk_eq hl rfl (by decide)
  have hs : mm_j1 st (fun x r => mm_gd (decide ((k : Nat) + 1 < ls.length)) (mm_go (pc + 1) (mm_l2 ls (k : Nat) (.long x)) r S)) = _ := hs
  obtain ⟨x, r, rfl, hs⟩ := mm_j1_inv hs
  obtain ⟨hf, hs⟩ := mm_gd_inv hs
  have hk := of_decide_eq_true hf
  obtain ⟨rfl, rfl, rfl, rfl⟩ := mm_go_inv hs
  rw [X.2.2.1] at hk
  have hzc : z.category = 1 := I.2.2.2.2.1.2.2.2.2.1
  refine lv_lstore_n hx hb hd rfl  X.2.2.2 hk rfl (fun lm2 h => ?_)
  exact K aa H locs lm2 cells slots rfl rfl (fun _ _ => rfl) I ⟨mm_l2_vok X.1 trivial, mm_t1 X.2.1, mm_Lr_2 hzc X.2.2 h⟩

theorem mo_astore (k : Nat) : mm_Ok (.astore k) := by
  intro p l e R s m args below meth c Q D ca z A t XS d pc len ls st S pc2 ls2 st2 S2 aa H locs lm cells slots F I X hd hl hs hc hz K
  obtain ⟨hx, hb, hml, hown, hts, hnm, hcn, hK, hA, hdf, hdl⟩ := F
  obtain rfl : len = 2 := mm_lk_eq hl rfl (by decide)
  have hs : mm_r1 st (fun x r => mm_gd (decide (k < ls.length)) (mm_go (pc + 2) (mm_l1 ls k (.ref x)) r S)) = _ := hs
  obtain ⟨x, r, rfl, hs⟩ := mm_r1_inv hs
  obtain ⟨hf, hs⟩ := mm_gd_inv hs
  have hk := of_decide_eq_true hf
  obtain ⟨rfl, rfl, rfl, rfl⟩ := mm_go_inv hs
  rw [X.2.2.1] at hk
  have h0 : mm_vok S (.ref x) := X.2.1 _ List.mem_cons_self
  have hzc : z.category = 1 := I.2.2.2.2.1.2.2.2.2.1
  refine lv_astore hx hb hd  X.2.2.2 hk rfl (fun lm2 h => ?_)
  exact K aa H locs lm2 cells slots rfl rfl (fun _ _ => rfl) I ⟨mm_l1_vok X.1 h0, mm_t1 X.2.1, mm_Lr_1 hzc X.2.2 h⟩

theorem mo_astore_n (k : Fin 4) : mm_Ok (.astore_n k) := by
  intro p l e R s m args below meth c Q D ca z A t XS d pc len ls st S pc2 ls2 st2 S2 aa H locs lm cells slots F I X hd hl hs hc hz K
  obtain ⟨hx, hb, hml, hown, hts, hnm, hcn, hK, hA, hdf, hdl⟩ := F
  obtain rfl : len = 1 := mm_lk_eq hl rfl (by decide)
  have hs : mm_r1 st (fun x r => mm_gd (decide ((k : Nat) < ls.length)) (mm_go (pc + 1) (mm_l1 ls (k : Nat) (.ref x)) r S)) = _ := hs
  obtain ⟨x, r, rfl, hs⟩ := mm_r1_inv hs
  obtain ⟨hf, hs⟩ := mm_gd_inv hs
  have hk := of_decide_eq_true hf
  obtain ⟨rfl, rfl, rfl, rfl⟩ := mm_go_inv hs
  rw [X.2.2.1] at hk
  have h0 : mm_vok S (.ref x) := X.2.1 _ List.mem_cons_self
  have hzc : z.category = 1 := I.2.2.2.2.1.2.2.2.2.1
  refine lv_astore_n hx hb hd rfl  X.2.2.2 hk rfl (fun lm2 h => ?_)
  exact K aa H locs lm2 cells slots rfl rfl (fun _ _ => rfl) I ⟨mm_l1_vok X.1 h0, mm_t1 X.2.1, mm_Lr_1 hzc X.2.2 h⟩

theorem mo_iinc (k : Nat) (n : Int) : mm_Ok (.iinc k n) := by
  intro p l e R s m args below meth c Q D ca z A t XS d pc len ls st S pc2 ls2 st2 S2 aa H locs lm cells slots F I X hd hl hs hc hz K
  obtain ⟨hx, hb, hml, hown, hts, hnm, hcn, hK, hA, hdf, hdl⟩ := F
  obtain rfl : len = 3 := mm_lk_eq hl rfl (by decide)
  have hs : mm_i1 [mm_lg ls k] (fun x _ => mm_gd (decide (k < ls.length)) (mm_go (pc + 3) (mm_l1 ls k (.int (x + Int32.ofInt n))) st S)) = _ := hs
  obtain ⟨x, r, hv, hs⟩ := mm_i1_inv hs
  have hv : mm_lg ls k = .int x := (List.cons.inj hv).1
  obtain ⟨hf, hs⟩ := mm_gd_inv hs
  have hk := of_decide_eq_true hf
  obtain ⟨rfl, rfl, rfl, rfl⟩ := mm_go_inv hs
  have hm : (k, mm_ad aa z (.int x)) ∈ mm_la aa z ls := mm_la_mem.mpr ⟨_, hk, hv, by simp, rfl⟩
  obtain ⟨j, hj⟩ := List.getElem?_of_mem hm
  rw [X.2.2.1] at hk
  have hzc : z.category = 1 := I.2.2.2.2.1.2.2.2.2.1
  refine lv_iinc hx hb hd X.2.2.2 (k := j) hj rfl hk rfl (fun lm2 h => ?_)
  exact K aa H locs lm2 cells slots rfl rfl (fun _ _ => rfl) I ⟨mm_l1_vok X.1 trivial, X.2.1, mm_Lr_1 hzc X.2.2 h⟩

theorem mo_iadd : mm_Ok (.iadd) := by
  intro p l e R s m args below meth c Q D ca z A t XS d pc len ls st S pc2 ls2 st2 S2 aa H locs lm cells slots F I X hd hl hs hc hz K
  obtain ⟨hx, hb, hml, hown, hts, hnm, hcn, hK, hA, hdf, hdl⟩ := F
  obtain rfl : len = 1 := mm_lk_eq hl rfl (by decide)
  have hs : mm_i2 st (fun x y r => mm_go (pc + 1) ls (.int (x + y) :: r) S) = _ := hs
  obtain ⟨x, y, r, rfl, hs⟩ := mm_i2_inv hs
  obtain ⟨rfl, rfl, rfl, rfl⟩ := mm_go_inv hs
  have K0 : (∀ v ∈ .int (x + y) :: r, mm_vok S v) → W p l e R s m args below meth c H locs cells slots Q (F0 m (pc + 1) lm ((.int (x + y) :: r).map (mm_ad aa z))) := fun hv => K aa H locs lm cells slots rfl rfl (fun _ _ => rfl) I ⟨X.1, hv, X.2.2⟩
  exact lv_iadd hx hb hd (K0 (mm_p1 trivial (mm_t1 (mm_t1 X.2.1))))

theorem mo_isub : mm_Ok (.isub) := by
  intro p l e R s m args below meth c Q D ca z A t XS d pc len ls st S pc2 ls2 st2 S2 aa H locs lm cells slots F I X hd hl hs hc hz K
  obtain ⟨hx, hb, hml, hown, hts, hnm, hcn, hK, hA, hdf, hdl⟩ := F
  obtain rfl : len = 1 := mm_lk_eq hl rfl (by decide)
  have hs : mm_i2 st (fun x y r => mm_go (pc + 1) ls (.int (x - y) :: r) S) = _ := hs
  obtain ⟨x, y, r, rfl, hs⟩ := mm_i2_inv hs
  obtain ⟨rfl, rfl, rfl, rfl⟩ := mm_go_inv hs
  have K0 : (∀ v ∈ .int (x - y) :: r, mm_vok S v) → W p l e R s m args below meth c H locs cells slots Q (F0 m (pc + 1) lm ((.int (x - y) :: r).map (mm_ad aa z))) := fun hv => K aa H locs lm cells slots rfl rfl (fun _ _ => rfl) I ⟨X.1, hv, X.2.2⟩
  exact lv_isub hx hb hd (K0 (mm_p1 trivial (mm_t1 (mm_t1 X.2.1))))

theorem mo_imul : mm_Ok (.imul) := by
  intro p l e R s m args below meth c Q D ca z A t XS d pc len ls st S pc2 ls2 st2 S2 aa H locs lm cells slots F I X hd hl hs hc hz K
  obtain ⟨hx, hb, hml, hown, hts, hnm, hcn, hK, hA, hdf, hdl⟩ := F
  obtain rfl : len = 1 := mm_lk_eq hl rfl (by decide)
  have hs : mm_i2 st (fun x y r => mm_go (pc + 1) ls (.int (x * y) :: r) S) = _ := hs
  obtain ⟨x, y, r, rfl, hs⟩ := mm_i2_inv hs
  obtain ⟨rfl, rfl, rfl, rfl⟩ := mm_go_inv hs
  have K0 : (∀ v ∈ .int (x * y) :: r, mm_vok S v) → W p l e R s m args below meth c H locs cells slots Q (F0 m (pc + 1) lm ((.int (x * y) :: r).map (mm_ad aa z))) := fun hv => K aa H locs lm cells slots rfl rfl (fun _ _ => rfl) I ⟨X.1, hv, X.2.2⟩
  exact lv_imul hx hb hd (K0 (mm_p1 trivial (mm_t1 (mm_t1 X.2.1))))

theorem mo_iand : mm_Ok (.iand) := by
  intro p l e R s m args below meth c Q D ca z A t XS d pc len ls st S pc2 ls2 st2 S2 aa H locs lm cells slots F I X hd hl hs hc hz K
  obtain ⟨hx, hb, hml, hown, hts, hnm, hcn, hK, hA, hdf, hdl⟩ := F
  obtain rfl : len = 1 := mm_lk_eq hl rfl (by decide)
  have hs : mm_i2 st (fun x y r => mm_go (pc + 1) ls (.int (x &&& y) :: r) S) = _ := hs
  obtain ⟨x, y, r, rfl, hs⟩ := mm_i2_inv hs
  obtain ⟨rfl, rfl, rfl, rfl⟩ := mm_go_inv hs
  have K0 : (∀ v ∈ .int (x &&& y) :: r, mm_vok S v) → W p l e R s m args below meth c H locs cells slots Q (F0 m (pc + 1) lm ((.int (x &&& y) :: r).map (mm_ad aa z))) := fun hv => K aa H locs lm cells slots rfl rfl (fun _ _ => rfl) I ⟨X.1, hv, X.2.2⟩
  exact lv_iand hx hb hd (K0 (mm_p1 trivial (mm_t1 (mm_t1 X.2.1))))

theorem mo_ior : mm_Ok (.ior) := by
  intro p l e R s m args below meth c Q D ca z A t XS d pc len ls st S pc2 ls2 st2 S2 aa H locs lm cells slots F I X hd hl hs hc hz K
  obtain ⟨hx, hb, hml, hown, hts, hnm, hcn, hK, hA, hdf, hdl⟩ := F
  obtain rfl : len = 1 := mm_lk_eq hl rfl (by decide)
  have hs : mm_i2 st (fun x y r => mm_go (pc + 1) ls (.int (x ||| y) :: r) S) = _ := hs
  obtain ⟨x, y, r, rfl, hs⟩ := mm_i2_inv hs
  obtain ⟨rfl, rfl, rfl, rfl⟩ := mm_go_inv hs
  have K0 : (∀ v ∈ .int (x ||| y) :: r, mm_vok S v) → W p l e R s m args below meth c H locs cells slots Q (F0 m (pc + 1) lm ((.int (x ||| y) :: r).map (mm_ad aa z))) := fun hv => K aa H locs lm cells slots rfl rfl (fun _ _ => rfl) I ⟨X.1, hv, X.2.2⟩
  exact lv_ior hx hb hd (K0 (mm_p1 trivial (mm_t1 (mm_t1 X.2.1))))

theorem mo_ixor : mm_Ok (.ixor) := by
  intro p l e R s m args below meth c Q D ca z A t XS d pc len ls st S pc2 ls2 st2 S2 aa H locs lm cells slots F I X hd hl hs hc hz K
  obtain ⟨hx, hb, hml, hown, hts, hnm, hcn, hK, hA, hdf, hdl⟩ := F
  obtain rfl : len = 1 := mm_lk_eq hl rfl (by decide)
  have hs : mm_i2 st (fun x y r => mm_go (pc + 1) ls (.int (x ^^^ y) :: r) S) = _ := hs
  obtain ⟨x, y, r, rfl, hs⟩ := mm_i2_inv hs
  obtain ⟨rfl, rfl, rfl, rfl⟩ := mm_go_inv hs
  have K0 : (∀ v ∈ .int (x ^^^ y) :: r, mm_vok S v) → W p l e R s m args below meth c H locs cells slots Q (F0 m (pc + 1) lm ((.int (x ^^^ y) :: r).map (mm_ad aa z))) := fun hv => K aa H locs lm cells slots rfl rfl (fun _ _ => rfl) I ⟨X.1, hv, X.2.2⟩
  exact lv_ixor hx hb hd (K0 (mm_p1 trivial (mm_t1 (mm_t1 X.2.1))))

theorem mo_idiv : mm_Ok (.idiv) := by
  intro p l e R s m args below meth c Q D ca z A t XS d pc len ls st S pc2 ls2 st2 S2 aa H locs lm cells slots F I X hd hl hs hc hz K
  obtain ⟨hx, hb, hml, hown, hts, hnm, hcn, hK, hA, hdf, hdl⟩ := F
  obtain rfl : len = 1 := mm_lk_eq hl rfl (by decide)
  have hs : mm_i2 st (fun x y r => mm_gd (!decide (y = 0)) (mm_go (pc + 1) ls (.int (x / y) :: r) S)) = _ := hs
  obtain ⟨x, y, r, rfl, hs⟩ := mm_i2_inv hs
  obtain ⟨hf, hs⟩ := mm_gd_inv hs
  have hne : ¬ y = 0 := by simpa using hf
  obtain ⟨rfl, rfl, rfl, rfl⟩ := mm_go_inv hs
  have K0 : (∀ v ∈ .int (x / y) :: r, mm_vok S v) → W p l e R s m args below meth c H locs cells slots Q (F0 m (pc + 1) lm ((.int (x / y) :: r).map (mm_ad aa z))) := fun hv => K aa H locs lm cells slots rfl rfl (fun _ _ => rfl) I ⟨X.1, hv, X.2.2⟩
  exact lv_idiv hx hb hd hne (K0 (mm_p1 trivial (mm_t1 (mm_t1 X.2.1))))

theorem mo_irem : mm_Ok (.irem) := by
  intro p l e R s m args below meth c Q D ca z A t XS d pc len ls st S pc2 ls2 st2 S2 aa H locs lm cells slots F I X hd hl hs hc hz K
  obtain ⟨hx, hb, hml, hown, hts, hnm, hcn, hK, hA, hdf, hdl⟩ := F
  obtain rfl : len = 1 := mm_lk_eq hl rfl (by decide)
  have hs : mm_i2 st (fun x y r => mm_gd (!decide (y = 0)) (mm_go (pc + 1) ls (.int (x - x / y * y) :: r) S)) = _ := hs
  obtain ⟨x, y, r, rfl, hs⟩ := mm_i2_inv hs
  obtain ⟨hf, hs⟩ := mm_gd_inv hs
  have hne : ¬ y = 0 := by simpa using hf
  obtain ⟨rfl, rfl, rfl, rfl⟩ := mm_go_inv hs
  have K0 : (∀ v ∈ .int (x - x / y * y) :: r, mm_vok S v) → W p l e R s m args below meth c H locs cells slots Q (F0 m (pc + 1) lm ((.int (x - x / y * y) :: r).map (mm_ad aa z))) := fun hv => K aa H locs lm cells slots rfl rfl (fun _ _ => rfl) I ⟨X.1, hv, X.2.2⟩
  exact lv_irem hx hb hd hne (K0 (mm_p1 trivial (mm_t1 (mm_t1 X.2.1))))

theorem mo_ishl : mm_Ok (.ishl) := by
  intro p l e R s m args below meth c Q D ca z A t XS d pc len ls st S pc2 ls2 st2 S2 aa H locs lm cells slots F I X hd hl hs hc hz K
  obtain ⟨hx, hb, hml, hown, hts, hnm, hcn, hK, hA, hdf, hdl⟩ := F
  obtain rfl : len = 1 := mm_lk_eq hl rfl (by decide)
  have hs : mm_i2 st (fun x y r => mm_go (pc + 1) ls (.int (x <<< (y &&& 31)) :: r) S) = _ := hs
  obtain ⟨x, y, r, rfl, hs⟩ := mm_i2_inv hs
  obtain ⟨rfl, rfl, rfl, rfl⟩ := mm_go_inv hs
  have K0 : (∀ v ∈ .int (x <<< (y &&& 31)) :: r, mm_vok S v) → W p l e R s m args below meth c H locs cells slots Q (F0 m (pc + 1) lm ((.int (x <<< (y &&& 31)) :: r).map (mm_ad aa z))) := fun hv => K aa H locs lm cells slots rfl rfl (fun _ _ => rfl) I ⟨X.1, hv, X.2.2⟩
  exact lv_ishl hx hb hd (K0 (mm_p1 trivial (mm_t1 (mm_t1 X.2.1))))

theorem mo_ishr : mm_Ok (.ishr) := by
  intro p l e R s m args below meth c Q D ca z A t XS d pc len ls st S pc2 ls2 st2 S2 aa H locs lm cells slots F I X hd hl hs hc hz K
  obtain ⟨hx, hb, hml, hown, hts, hnm, hcn, hK, hA, hdf, hdl⟩ := F
  obtain rfl : len = 1 := mm_lk_eq hl rfl (by decide)
  have hs : mm_i2 st (fun x y r => mm_go (pc + 1) ls (.int (x >>> (y &&& 31)) :: r) S) = _ := hs
  obtain ⟨x, y, r, rfl, hs⟩ := mm_i2_inv hs
  obtain ⟨rfl, rfl, rfl, rfl⟩ := mm_go_inv hs
  have K0 : (∀ v ∈ .int (x >>> (y &&& 31)) :: r, mm_vok S v) → W p l e R s m args below meth c H locs cells slots Q (F0 m (pc + 1) lm ((.int (x >>> (y &&& 31)) :: r).map (mm_ad aa z))) := fun hv => K aa H locs lm cells slots rfl rfl (fun _ _ => rfl) I ⟨X.1, hv, X.2.2⟩
  exact lv_ishr hx hb hd (K0 (mm_p1 trivial (mm_t1 (mm_t1 X.2.1))))

theorem mo_iushr : mm_Ok (.iushr) := by
  intro p l e R s m args below meth c Q D ca z A t XS d pc len ls st S pc2 ls2 st2 S2 aa H locs lm cells slots F I X hd hl hs hc hz K
  obtain ⟨hx, hb, hml, hown, hts, hnm, hcn, hK, hA, hdf, hdl⟩ := F
  obtain rfl : len = 1 := mm_lk_eq hl rfl (by decide)
  have hs : mm_i2 st (fun x y r => mm_go (pc + 1) ls (.int (x.toUInt32 >>> (y.toUInt32 &&& Int32.toUInt32 31)).toInt32 :: r) S) = _ := hs
  obtain ⟨x, y, r, rfl, hs⟩ := mm_i2_inv hs
  obtain ⟨rfl, rfl, rfl, rfl⟩ := mm_go_inv hs
  have K0 : (∀ v ∈ .int (x.toUInt32 >>> (y.toUInt32 &&& Int32.toUInt32 31)).toInt32 :: r, mm_vok S v) → W p l e R s m args below meth c H locs cells slots Q (F0 m (pc + 1) lm ((.int (x.toUInt32 >>> (y.toUInt32 &&& Int32.toUInt32 31)).toInt32 :: r).map (mm_ad aa z))) := fun hv => K aa H locs lm cells slots rfl rfl (fun _ _ => rfl) I ⟨X.1, hv, X.2.2⟩
  exact lv_iushr hx hb hd rfl (K0 (mm_p1 trivial (mm_t1 (mm_t1 X.2.1))))

theorem mo_ladd : mm_Ok (.ladd) := by
  intro p l e R s m args below meth c Q D ca z A t XS d pc len ls st S pc2 ls2 st2 S2 aa H locs lm cells slots F I X hd hl hs hc hz K
  obtain ⟨hx, hb, hml, hown, hts, hnm, hcn, hK, hA, hdf, hdl⟩ := F
  obtain rfl : len = 1 := mm_lk_eq hl rfl (by decide)
  have hs : mm_j2 st (fun x y r => mm_go (pc + 1) ls (.long (x + y) :: r) S) = _ := hs
  obtain ⟨x, y, r, rfl, hs⟩ := mm_j2_inv hs
  obtain ⟨rfl, rfl, rfl, rfl⟩ := mm_go_inv hs
  have K0 : (∀ v ∈ .long (x + y) :: r, mm_vok S v) → W p l e R s m args below meth c H locs cells slots Q (F0 m (pc + 1) lm ((.long (x + y) :: r).map (mm_ad aa z))) := fun hv => K aa H locs lm cells slots rfl rfl (fun _ _ => rfl) I ⟨X.1, hv, X.2.2⟩
  exact lv_ladd hx hb hd (K0 (mm_p1 trivial (mm_t1 (mm_t1 X.2.1))))

theorem mo_lsub : mm_Ok (.lsub) := by
  intro p l e R s m args below meth c Q D ca z A t XS d pc len ls st S pc2 ls2 st2 S2 aa H locs lm cells slots F I X hd hl hs hc hz K
  obtain ⟨hx, hb, hml, hown, hts, hnm, hcn, hK, hA, hdf, hdl⟩ := F
  obtain rfl : len = 1 := mm_lk_eq hl rfl (by decide)
  have hs : mm_j2 st (fun x y r => mm_go (pc + 1) ls (.long (x - y) :: r) S) = _ := hs
  obtain ⟨x, y, r, rfl, hs⟩ := mm_j2_inv hs
  obtain ⟨rfl, rfl, rfl, rfl⟩ := mm_go_inv hs
  have K0 : (∀ v ∈ .long (x - y) :: r, mm_vok S v) → W p l e R s m args below meth c H locs cells slots Q (F0 m (pc + 1) lm ((.long (x - y) :: r).map (mm_ad aa z))) := fun hv => K aa H locs lm cells slots rfl rfl (fun _ _ => rfl) I ⟨X.1, hv, X.2.2⟩
  exact lv_lsub hx hb hd (K0 (mm_p1 trivial (mm_t1 (mm_t1 X.2.1))))

theorem mo_lmul : mm_Ok (.lmul) := by
  intro p l e R s m args below meth c Q D ca z A t XS d pc len ls st S pc2 ls2 st2 S2 aa H locs lm cells slots F I X hd hl hs hc hz K
  obtain ⟨hx, hb, hml, hown, hts, hnm, hcn, hK, hA, hdf, hdl⟩ := F
  obtain rfl : len = 1 := mm_lk_eq hl rfl (by decide)
  have hs : mm_j2 st (fun x y r => mm_go (pc + 1) ls (.long (x * y) :: r) S) = _ := hs
  obtain ⟨x, y, r, rfl, hs⟩ := mm_j2_inv hs
  obtain ⟨rfl, rfl, rfl, rfl⟩ := mm_go_inv hs
  have K0 : (∀ v ∈ .long (x * y) :: r, mm_vok S v) → W p l e R s m args below meth c H locs cells slots Q (F0 m (pc + 1) lm ((.long (x * y) :: r).map (mm_ad aa z))) := fun hv => K aa H locs lm cells slots rfl rfl (fun _ _ => rfl) I ⟨X.1, hv, X.2.2⟩
  exact lv_lmul hx hb hd (K0 (mm_p1 trivial (mm_t1 (mm_t1 X.2.1))))

theorem mo_land : mm_Ok (.land) := by
  intro p l e R s m args below meth c Q D ca z A t XS d pc len ls st S pc2 ls2 st2 S2 aa H locs lm cells slots F I X hd hl hs hc hz K
  obtain ⟨hx, hb, hml, hown, hts, hnm, hcn, hK, hA, hdf, hdl⟩ := F
  obtain rfl : len = 1 := mm_lk_eq hl rfl (by decide)
  have hs : mm_j2 st (fun x y r => mm_go (pc + 1) ls (.long (x &&& y) :: r) S) = _ := hs
  obtain ⟨x, y, r, rfl, hs⟩ := mm_j2_inv hs
  obtain ⟨rfl, rfl, rfl, rfl⟩ := mm_go_inv hs
  have K0 : (∀ v ∈ .long (x &&& y) :: r, mm_vok S v) → W p l e R s m args below meth c H locs cells slots Q (F0 m (pc + 1) lm ((.long (x &&& y) :: r).map (mm_ad aa z))) := fun hv => K aa H locs lm cells slots rfl rfl (fun _ _ => rfl) I ⟨X.1, hv, X.2.2⟩
  exact lv_land hx hb hd (K0 (mm_p1 trivial (mm_t1 (mm_t1 X.2.1))))

theorem mo_lor : mm_Ok (.lor) := by
  intro p l e R s m args below meth c Q D ca z A t XS d pc len ls st S pc2 ls2 st2 S2 aa H locs lm cells slots F I X hd hl hs hc hz K
  obtain ⟨hx, hb, hml, hown, hts, hnm, hcn, hK, hA, hdf, hdl⟩ := F
  obtain rfl : len = 1 := mm_lk_eq hl rfl (by decide)
  have hs : mm_j2 st (fun x y r => mm_go (pc + 1) ls (.long (x ||| y) :: r) S) = _ := hs
  obtain ⟨x, y, r, rfl, hs⟩ := mm_j2_inv hs
  obtain ⟨rfl, rfl, rfl, rfl⟩ := mm_go_inv hs
  have K0 : (∀ v ∈ .long (x ||| y) :: r, mm_vok S v) → W p l e R s m args below meth c H locs cells slots Q (F0 m (pc + 1) lm ((.long (x ||| y) :: r).map (mm_ad aa z))) := fun hv => K aa H locs lm cells slots rfl rfl (fun _ _ => rfl) I ⟨X.1, hv, X.2.2⟩
  exact lv_lor hx hb hd (K0 (mm_p1 trivial (mm_t1 (mm_t1 X.2.1))))

theorem mo_ldiv : mm_Ok (.ldiv) := by
  intro p l e R s m args below meth c Q D ca z A t XS d pc len ls st S pc2 ls2 st2 S2 aa H locs lm cells slots F I X hd hl hs hc hz K
  obtain ⟨hx, hb, hml, hown, hts, hnm, hcn, hK, hA, hdf, hdl⟩ := F
  obtain rfl : len = 1 := mm_lk_eq hl rfl (by decide)
  have hs : mm_j2 st (fun x y r => mm_gd (!decide (y = 0)) (mm_go (pc + 1) ls (.long (x / y) :: r) S)) = _ := hs
  obtain ⟨x, y, r, rfl, hs⟩ := mm_j2_inv hs
  obtain ⟨hf, hs⟩ := mm_gd_inv hs
  have hne : ¬ y = 0 := by simpa using hf
  obtain ⟨rfl, rfl, rfl, rfl⟩ := mm_go_inv hs
  have K0 : (∀ v ∈ .long (x / y) :: r, mm_vok S v) → W p l e R s m args below meth c H locs cells slots Q (F0 m (pc + 1) lm ((.long (x / y) :: r).map (mm_ad aa z))) := fun hv => K aa H locs lm cells slots rfl rfl (fun _ _ => rfl) I ⟨X.1, hv, X.2.2⟩
  exact lv_ldiv hx hb hd hne (K0 (mm_p1 trivial (mm_t1 (mm_t1 X.2.1))))

theorem mo_lrem : mm_Ok (.lrem) := by
  intro p l e R s m args below meth c Q D ca z A t XS d pc len ls st S pc2 ls2 st2 S2 aa H locs lm cells slots F I X hd hl hs hc hz K
  obtain ⟨hx, hb, hml, hown, hts, hnm, hcn, hK, hA, hdf, hdl⟩ := F
  obtain rfl : len = 1 := mm_lk_eq hl rfl (by decide)
  have hs : mm_j2 st (fun x y r => mm_gd (!decide (y = 0)) (mm_go (pc + 1) ls (.long (x - x / y * y) :: r) S)) = _ := hs
  obtain ⟨x, y, r, rfl, hs⟩ := mm_j2_inv hs
  obtain ⟨hf, hs⟩ := mm_gd_inv hs
  have hne : ¬ y = 0 := by simpa using hf
  obtain ⟨rfl, rfl, rfl, rfl⟩ := mm_go_inv hs
  have K0 : (∀ v ∈ .long (x - x / y * y) :: r, mm_vok S v) → W p l e R s m args below meth c H locs cells slots Q (F0 m (pc + 1) lm ((.long (x - x / y * y) :: r).map (mm_ad aa z))) := fun hv => K aa H locs lm cells slots rfl rfl (fun _ _ => rfl) I ⟨X.1, hv, X.2.2⟩
  exact lv_lrem hx hb hd hne (K0 (mm_p1 trivial (mm_t1 (mm_t1 X.2.1))))

theorem mo_lcmp : mm_Ok (.lcmp) := by
  intro p l e R s m args below meth c Q D ca z A t XS d pc len ls st S pc2 ls2 st2 S2 aa H locs lm cells slots F I X hd hl hs hc hz K
  obtain ⟨hx, hb, hml, hown, hts, hnm, hcn, hK, hA, hdf, hdl⟩ := F
  obtain rfl : len = 1 := mm_lk_eq hl rfl (by decide)
  have hs : mm_j2 st (fun x y r => mm_go (pc + 1) ls (.int (lg_cmp x y) :: r) S) = _ := hs
  obtain ⟨x, y, r, rfl, hs⟩ := mm_j2_inv hs
  obtain ⟨rfl, rfl, rfl, rfl⟩ := mm_go_inv hs
  have K0 : (∀ v ∈ .int (lg_cmp x y) :: r, mm_vok S v) → W p l e R s m args below meth c H locs cells slots Q (F0 m (pc + 1) lm ((.int (lg_cmp x y) :: r).map (mm_ad aa z))) := fun hv => K aa H locs lm cells slots rfl rfl (fun _ _ => rfl) I ⟨X.1, hv, X.2.2⟩
  exact W.lcmp hx hb hd (K0 (mm_p1 trivial (mm_t1 (mm_t1 X.2.1))))

theorem mo_lshl : mm_Ok (.lshl) := by
  intro p l e R s m args below meth c Q D ca z A t XS d pc len ls st S pc2 ls2 st2 S2 aa H locs lm cells slots F I X hd hl hs hc hz K
  obtain ⟨hx, hb, hml, hown, hts, hnm, hcn, hK, hA, hdf, hdl⟩ := F
  obtain rfl : len = 1 := mm_lk_eq hl rfl (by decide)
  have hs : mm_i1 st (fun y r => mm_j1 r fun x r => mm_go (pc + 1) ls (.long (x <<< (y.toInt64 &&& 63)) :: r) S) = _ := hs
  obtain ⟨y, r, rfl, hs⟩ := mm_i1_inv hs
  obtain ⟨x, r, rfl, hs⟩ := mm_j1_inv hs
  obtain ⟨rfl, rfl, rfl, rfl⟩ := mm_go_inv hs
  have K0 : (∀ v ∈ .long (x <<< (y.toInt64 &&& 63)) :: r, mm_vok S v) → W p l e R s m args below meth c H locs cells slots Q (F0 m (pc + 1) lm ((.long (x <<< (y.toInt64 &&& 63)) :: r).map (mm_ad aa z))) := fun hv => K aa H locs lm cells slots rfl rfl (fun _ _ => rfl) I ⟨X.1, hv, X.2.2⟩
  exact lv_lshl hx hb hd rfl (K0 (mm_p1 trivial (mm_t1 (mm_t1 X.2.1))))

theorem mo_ineg : mm_Ok (.ineg) := by
  intro p l e R s m args below meth c Q D ca z A t XS d pc len ls st S pc2 ls2 st2 S2 aa H locs lm cells slots F I X hd hl hs hc hz K
  obtain ⟨hx, hb, hml, hown, hts, hnm, hcn, hK, hA, hdf, hdl⟩ := F
  obtain rfl : len = 1 := mm_lk_eq hl rfl (by decide)
  have hs : mm_i1 st (fun x r => mm_go (pc + 1) ls (.int (-x) :: r) S) = _ := hs
  obtain ⟨x, r, rfl, hs⟩ := mm_i1_inv hs
  obtain ⟨rfl, rfl, rfl, rfl⟩ := mm_go_inv hs
  have K0 : (∀ v ∈ .int (-x) :: r, mm_vok S v) → W p l e R s m args below meth c H locs cells slots Q (F0 m (pc + 1) lm ((.int (-x) :: r).map (mm_ad aa z))) := fun hv => K aa H locs lm cells slots rfl rfl (fun _ _ => rfl) I ⟨X.1, hv, X.2.2⟩
  exact lv_ineg hx hb hd (K0 (mm_p1 trivial (mm_t1 X.2.1)))

theorem mo_i2l : mm_Ok (.i2l) := by
  intro p l e R s m args below meth c Q D ca z A t XS d pc len ls st S pc2 ls2 st2 S2 aa H locs lm cells slots F I X hd hl hs hc hz K
  obtain ⟨hx, hb, hml, hown, hts, hnm, hcn, hK, hA, hdf, hdl⟩ := F
  obtain rfl : len = 1 := mm_lk_eq hl rfl (by decide)
  have hs : mm_i1 st (fun x r => mm_go (pc + 1) ls (.long x.toInt64 :: r) S) = _ := hs
  obtain ⟨x, r, rfl, hs⟩ := mm_i1_inv hs
  obtain ⟨rfl, rfl, rfl, rfl⟩ := mm_go_inv hs
  have K0 : (∀ v ∈ .long x.toInt64 :: r, mm_vok S v) → W p l e R s m args below meth c H locs cells slots Q (F0 m (pc + 1) lm ((.long x.toInt64 :: r).map (mm_ad aa z))) := fun hv => K aa H locs lm cells slots rfl rfl (fun _ _ => rfl) I ⟨X.1, hv, X.2.2⟩
  exact lv_i2l hx hb hd rfl (K0 (mm_p1 trivial (mm_t1 X.2.1)))

theorem mo_i2b : mm_Ok (.i2b) := by
  intro p l e R s m args below meth c Q D ca z A t XS d pc len ls st S pc2 ls2 st2 S2 aa H locs lm cells slots F I X hd hl hs hc hz K
  obtain ⟨hx, hb, hml, hown, hts, hnm, hcn, hK, hA, hdf, hdl⟩ := F
  obtain rfl : len = 1 := mm_lk_eq hl rfl (by decide)
  have hs : mm_i1 st (fun x r => mm_go (pc + 1) ls (.int x.toInt8.toInt32 :: r) S) = _ := hs
  obtain ⟨x, r, rfl, hs⟩ := mm_i1_inv hs
  obtain ⟨rfl, rfl, rfl, rfl⟩ := mm_go_inv hs
  have K0 : (∀ v ∈ .int x.toInt8.toInt32 :: r, mm_vok S v) → W p l e R s m args below meth c H locs cells slots Q (F0 m (pc + 1) lm ((.int x.toInt8.toInt32 :: r).map (mm_ad aa z))) := fun hv => K aa H locs lm cells slots rfl rfl (fun _ _ => rfl) I ⟨X.1, hv, X.2.2⟩
  exact lv_i2b hx hb hd rfl (K0 (mm_p1 trivial (mm_t1 X.2.1)))

theorem mo_i2s : mm_Ok (.i2s) := by
  intro p l e R s m args below meth c Q D ca z A t XS d pc len ls st S pc2 ls2 st2 S2 aa H locs lm cells slots F I X hd hl hs hc hz K
  obtain ⟨hx, hb, hml, hown, hts, hnm, hcn, hK, hA, hdf, hdl⟩ := F
  obtain rfl : len = 1 := mm_lk_eq hl rfl (by decide)
  have hs : mm_i1 st (fun x r => mm_go (pc + 1) ls (.int x.toInt16.toInt32 :: r) S) = _ := hs
  obtain ⟨x, r, rfl, hs⟩ := mm_i1_inv hs
  obtain ⟨rfl, rfl, rfl, rfl⟩ := mm_go_inv hs
  have K0 : (∀ v ∈ .int x.toInt16.toInt32 :: r, mm_vok S v) → W p l e R s m args below meth c H locs cells slots Q (F0 m (pc + 1) lm ((.int x.toInt16.toInt32 :: r).map (mm_ad aa z))) := fun hv => K aa H locs lm cells slots rfl rfl (fun _ _ => rfl) I ⟨X.1, hv, X.2.2⟩
  exact lv_i2s hx hb hd rfl (K0 (mm_p1 trivial (mm_t1 X.2.1)))

theorem mo_i2c : mm_Ok (.i2c) := by
  intro p l e R s m args below meth c Q D ca z A t XS d pc len ls st S pc2 ls2 st2 S2 aa H locs lm cells slots F I X hd hl hs hc hz K
  obtain ⟨hx, hb, hml, hown, hts, hnm, hcn, hK, hA, hdf, hdl⟩ := F
  obtain rfl : len = 1 := mm_lk_eq hl rfl (by decide)
  have hs : mm_i1 st (fun x r => mm_go (pc + 1) ls (.int (x.toUInt32 % 65536).toInt32 :: r) S) = _ := hs
  obtain ⟨x, r, rfl, hs⟩ := mm_i1_inv hs
  obtain ⟨rfl, rfl, rfl, rfl⟩ := mm_go_inv hs
  have K0 : (∀ v ∈ .int (x.toUInt32 % 65536).toInt32 :: r, mm_vok S v) → W p l e R s m args below meth c H locs cells slots Q (F0 m (pc + 1) lm ((.int (x.toUInt32 % 65536).toInt32 :: r).map (mm_ad aa z))) := fun hv => K aa H locs lm cells slots rfl rfl (fun _ _ => rfl) I ⟨X.1, hv, X.2.2⟩
  exact lv_i2c hx hb hd rfl (K0 (mm_p1 trivial (mm_t1 X.2.1)))

theorem mo_l2i : mm_Ok (.l2i) := by
  intro p l e R s m args below meth c Q D ca z A t XS d pc len ls st S pc2 ls2 st2 S2 aa H locs lm cells slots F I X hd hl hs hc hz K
  obtain ⟨hx, hb, hml, hown, hts, hnm, hcn, hK, hA, hdf, hdl⟩ := F
  obtain rfl : len = 1 := mm_lk_eq hl rfl (by decide)
  have hs : mm_j1 st (fun x r => mm_go (pc + 1) ls (.int x.toInt32 :: r) S) = _ := hs
  obtain ⟨x, r, rfl, hs⟩ := mm_j1_inv hs
  obtain ⟨rfl, rfl, rfl, rfl⟩ := mm_go_inv hs
  have K0 : (∀ v ∈ .int x.toInt32 :: r, mm_vok S v) → W p l e R s m args below meth c H locs cells slots Q (F0 m (pc + 1) lm ((.int x.toInt32 :: r).map (mm_ad aa z))) := fun hv => K aa H locs lm cells slots rfl rfl (fun _ _ => rfl) I ⟨X.1, hv, X.2.2⟩
  exact lv_l2i hx hb hd rfl (K0 (mm_p1 trivial (mm_t1 X.2.1)))

theorem mo_dup : mm_Ok (.dup) := by
  intro p l e R s m args below meth c Q D ca z A t XS d pc len ls st S pc2 ls2 st2 S2 aa H locs lm cells slots F I X hd hl hs hc hz K
  obtain ⟨hx, hb, hml, hown, hts, hnm, hcn, hK, hA, hdf, hdl⟩ := F
  obtain rfl : len = 1 := mm_lk_eq hl rfl (by decide)
  have hzc : z.category = 1 := I.2.2.2.2.1.2.2.2.2.1
  match st, X, hs with
  | v :: r, X, hs =>
    have hs : mm_gd (decide (v.category = 1)) (mm_go (pc + 1) ls (v :: v :: r) S) = _ := hs
    obtain ⟨hf, hs⟩ := mm_gd_inv hs
    have hf := of_decide_eq_true hf
    obtain ⟨rfl, rfl, rfl, rfl⟩ := mm_go_inv hs
    exact lv_dup hx hb hd ((mm_ad_cat hzc).trans hf) (K aa H locs lm cells slots rfl rfl (fun _ _ => rfl) I ⟨X.1, mm_p1 (X.2.1 _ List.mem_cons_self) X.2.1, X.2.2⟩)

theorem mo_pop : mm_Ok (.pop) := by
  intro p l e R s m args below meth c Q D ca z A t XS d pc len ls st S pc2 ls2 st2 S2 aa H locs lm cells slots F I X hd hl hs hc hz K
  obtain ⟨hx, hb, hml, hown, hts, hnm, hcn, hK, hA, hdf, hdl⟩ := F
  obtain rfl : len = 1 := mm_lk_eq hl rfl (by decide)
  have hzc : z.category = 1 := I.2.2.2.2.1.2.2.2.2.1
  match st, X, hs with
  | v :: r, X, hs =>
    have hs : mm_gd (decide (v.category = 1)) (mm_go (pc + 1) ls r S) = _ := hs
    obtain ⟨hf, hs⟩ := mm_gd_inv hs
    have hf := of_decide_eq_true hf
    obtain ⟨rfl, rfl, rfl, rfl⟩ := mm_go_inv hs
    exact lv_pop hx hb hd ((mm_ad_cat hzc).trans hf) (K aa H locs lm cells slots rfl rfl (fun _ _ => rfl) I ⟨X.1, mm_t1 X.2.1, X.2.2⟩)

theorem mo_pop2 : mm_Ok (.pop2) := by
  intro p l e R s m args below meth c Q D ca z A t XS d pc len ls st S pc2 ls2 st2 S2 aa H locs lm cells slots F I X hd hl hs hc hz K
  obtain ⟨hx, hb, hml, hown, hts, hnm, hcn, hK, hA, hdf, hdl⟩ := F
  obtain rfl : len = 1 := mm_lk_eq hl rfl (by decide)
  match st, X, hs with
  | .long x :: r, X, hs =>
    obtain ⟨rfl, rfl, rfl, rfl⟩ := mm_go_inv hs
    exact lv_pop2_2 hx hb hd rfl (K aa H locs lm cells slots rfl rfl (fun _ _ => rfl) I ⟨X.1, mm_t1 X.2.1, X.2.2⟩)

theorem mo_dup2 : mm_Ok (.dup2) := by
  intro p l e R s m args below meth c Q D ca z A t XS d pc len ls st S pc2 ls2 st2 S2 aa H locs lm cells slots F I X hd hl hs hc hz K
  obtain ⟨hx, hb, hml, hown, hts, hnm, hcn, hK, hA, hdf, hdl⟩ := F
  obtain rfl : len = 1 := mm_lk_eq hl rfl (by decide)
  have hzc : z.category = 1 := I.2.2.2.2.1.2.2.2.2.1
  have h2 : ∀ (v w : Value) (r : List Value), mm_Sx aa z S t ls lm (v :: w :: r) → mm_gd (decide (v.category = 1) && decide (w.category = 1)) (mm_go (pc + 1) ls (v :: w :: v :: w :: r) S) = mm_go pc2 ls2 st2 S2 → W p l e R s m args below meth c H locs cells slots Q (F0 m pc lm ((v :: w :: r).map (mm_ad aa z))) := by
    intro v w r X hs
    obtain ⟨hf, hs⟩ := mm_gd_inv hs
    rw [Bool.and_eq_true, decide_eq_true_eq, decide_eq_true_eq] at hf
    obtain ⟨rfl, rfl, rfl, rfl⟩ := mm_go_inv hs
    exact lv_dup2_11 hx hb hd ((mm_ad_cat hzc).trans hf.1) ((mm_ad_cat hzc).trans hf.2) (K aa H locs lm cells slots rfl rfl (fun _ _ => rfl) I ⟨X.1, mm_p1 (X.2.1 _ List.mem_cons_self) (mm_p1 (X.2.1 _ (List.mem_cons_of_mem _ List.mem_cons_self)) X.2.1), X.2.2⟩)
  match st, X, hs with
  | .long x :: r, X, hs =>
    obtain ⟨rfl, rfl, rfl, rfl⟩ := mm_go_inv hs
    exact lv_dup2_2 hx hb hd rfl (K aa H locs lm cells slots rfl rfl (fun _ _ => rfl) I ⟨X.1, mm_p1 trivial X.2.1, X.2.2⟩)
  | .int x :: w :: r, X, hs => exact h2 _ _ _ X hs
  | .ref x :: w :: r, X, hs => exact h2 _ _ _ X hs
  | .null :: w :: r, X, hs => exact h2 _ _ _ X hs
  | .float x :: w :: r, X, hs => exact h2 _ _ _ X hs
  | .double x :: w :: r, X, hs => exact h2 _ _ _ X hs
  | .retAddr x :: w :: r, X, hs => exact h2 _ _ _ X hs

theorem mo_goto (off : Int) : mm_Ok (.goto off) := by
  intro p l e R s m args below meth c Q D ca z A t XS d pc len ls st S pc2 ls2 st2 S2 aa H locs lm cells slots F I X hd hl hs hc hz K
  obtain ⟨hx, hb, hml, hown, hts, hnm, hcn, hK, hA, hdf, hdl⟩ := F
  obtain rfl : len = 3 := mm_lk_eq hl rfl (by decide)
  have hs : mm_jp pc off ls st S = _ := hs
  obtain ⟨ht, rfl, rfl, rfl⟩ := mm_jp_inv hs
  exact lv_goto hx hb hd ht (K aa H locs lm cells slots rfl rfl (fun _ _ => rfl) I X)

theorem mo_ifCond (cc : ClassFile.Cond) (off : Int) : mm_Ok (.ifCond cc off) := by
  intro p l e R s m args below meth c Q D ca z A t XS d pc len ls st S pc2 ls2 st2 S2 aa H locs lm cells slots F I X hd hl hs hc hz K
  obtain ⟨hx, hb, hml, hown, hts, hnm, hcn, hK, hA, hdf, hdl⟩ := F
  obtain rfl : len = 3 := mm_lk_eq hl rfl (by decide)
  have hs : mm_i1 st (fun x r => mm_cj (mm_c1 cc x) pc off ls r S) = _ := hs
  obtain ⟨x, r, rfl, hs⟩ := mm_i1_inv hs
  have X2 : mm_Sx aa z S t ls lm r := ⟨X.1, mm_t1 X.2.1, X.2.2⟩
  obtain ⟨tgt, ht, rfl, rfl, rfl, hq⟩ := mm_cj_inv hs
  have K2 : W p l e R s m args below meth c H locs cells slots Q (F0 m pc2 lm (r.map (mm_ad aa z))) := K aa H locs lm cells slots rfl rfl (fun _ _ => rfl) I X2
  cases cc with
  | eq =>
    have hq : ((decide (x = 0)) = true ∧ pc2 = tgt) ∨ ((decide (x = 0)) = false ∧ pc2 = pc + 3) := hq
    refine lv_if_eq hx hb hd ht (fun hT => ?_) (fun hT => ?_)
    · rcases hq with ⟨-, rfl⟩ | ⟨q, -⟩
      · exact K2
      · exact absurd q (by simp [hT])
    · rcases hq with ⟨q, -⟩ | ⟨-, rfl⟩
      · exact absurd q (by simp [hT])
      · exact K2
  | ne =>
    have hq : ((!decide (x = 0)) = true ∧ pc2 = tgt) ∨ ((!decide (x = 0)) = false ∧ pc2 = pc + 3) := hq
    refine lv_if_ne hx hb hd ht (fun hT => ?_) (fun hT => ?_)
    · rcases hq with ⟨-, rfl⟩ | ⟨q, -⟩
      · exact K2
      · exact absurd q (by simp [hT])
    · rcases hq with ⟨q, -⟩ | ⟨-, rfl⟩
      · exact absurd q (by simp [hT])
      · exact K2
  | lt =>
    have hq : ((decide (x < 0)) = true ∧ pc2 = tgt) ∨ ((decide (x < 0)) = false ∧ pc2 = pc + 3) := hq
    refine lv_if_lt hx hb hd ht (fun hT => ?_) (fun hT => ?_)
    · rcases hq with ⟨-, rfl⟩ | ⟨q, -⟩
      · exact K2
      · exact absurd q (by simp [hT])
    · rcases hq with ⟨q, -⟩ | ⟨-, rfl⟩
      · exact absurd q (by simp [hT])
      · exact K2
  | ge =>
    have hq : ((decide (0 ≤ x)) = true ∧ pc2 = tgt) ∨ ((decide (0 ≤ x)) = false ∧ pc2 = pc + 3) := hq
    refine lv_if_ge hx hb hd ht (fun hT => ?_) (fun hT => ?_)
    · rcases hq with ⟨-, rfl⟩ | ⟨q, -⟩
      · exact K2
      · exact absurd q (by simp [hT])
    · rcases hq with ⟨q, -⟩ | ⟨-, rfl⟩
      · exact absurd q (by simp [hT])
      · exact K2
  | gt =>
    have hq : ((decide (0 < x)) = true ∧ pc2 = tgt) ∨ ((decide (0 < x)) = false ∧ pc2 = pc + 3) := hq
    refine lv_if_gt hx hb hd ht (fun hT => ?_) (fun hT => ?_)
    · rcases hq with ⟨-, rfl⟩ | ⟨q, -⟩
      · exact K2
      · exact absurd q (by simp [hT])
    · rcases hq with ⟨q, -⟩ | ⟨-, rfl⟩
      · exact absurd q (by simp [hT])
      · exact K2
  | le =>
    have hq : ((decide (x ≤ 0)) = true ∧ pc2 = tgt) ∨ ((decide (x ≤ 0)) = false ∧ pc2 = pc + 3) := hq
    refine lv_if_le hx hb hd ht (fun hT => ?_) (fun hT => ?_)
    · rcases hq with ⟨-, rfl⟩ | ⟨q, -⟩
      · exact K2
      · exact absurd q (by simp [hT])
    · rcases hq with ⟨q, -⟩ | ⟨-, rfl⟩
      · exact absurd q (by simp [hT])
      · exact K2

theorem mo_if_icmp (cc : ClassFile.Cond) (off : Int) : mm_Ok (.if_icmp cc off) := by
  intro p l e R s m args below meth c Q D ca z A t XS d pc len ls st S pc2 ls2 st2 S2 aa H locs lm cells slots F I X hd hl hs hc hz K
  obtain ⟨hx, hb, hml, hown, hts, hnm, hcn, hK, hA, hdf, hdl⟩ := F
  obtain rfl : len = 3 := mm_lk_eq hl rfl (by decide)
  have hs : mm_i2 st (fun x y r => mm_cj (mm_c2 cc x y) pc off ls r S) = _ := hs
  obtain ⟨x, y, r, rfl, hs⟩ := mm_i2_inv hs
  have X2 : mm_Sx aa z S t ls lm r := ⟨X.1, mm_t1 (mm_t1 X.2.1), X.2.2⟩
  obtain ⟨tgt, ht, rfl, rfl, rfl, hq⟩ := mm_cj_inv hs
  have K2 : W p l e R s m args below meth c H locs cells slots Q (F0 m pc2 lm (r.map (mm_ad aa z))) := K aa H locs lm cells slots rfl rfl (fun _ _ => rfl) I X2
  cases cc with
  | eq =>
    have hq : ((decide (x = y)) = true ∧ pc2 = tgt) ∨ ((decide (x = y)) = false ∧ pc2 = pc + 3) := hq
    refine lv_icmp_eq hx hb hd ht (fun hT => ?_) (fun hT => ?_)
    · rcases hq with ⟨-, rfl⟩ | ⟨q, -⟩
      · exact K2
      · exact absurd q (by simp [hT])
    · rcases hq with ⟨q, -⟩ | ⟨-, rfl⟩
      · exact absurd q (by simp [hT])
      · exact K2
  | ne =>
    have hq : ((!decide (x = y)) = true ∧ pc2 = tgt) ∨ ((!decide (x = y)) = false ∧ pc2 = pc + 3) := hq
    refine lv_icmp_ne hx hb hd ht (fun hT => ?_) (fun hT => ?_)
    · rcases hq with ⟨-, rfl⟩ | ⟨q, -⟩
      · exact K2
      · exact absurd q (by simp [hT])
    · rcases hq with ⟨q, -⟩ | ⟨-, rfl⟩
      · exact absurd q (by simp [hT])
      · exact K2
  | lt =>
    have hq : ((decide (x < y)) = true ∧ pc2 = tgt) ∨ ((decide (x < y)) = false ∧ pc2 = pc + 3) := hq
    refine lv_icmp_lt hx hb hd ht (fun hT => ?_) (fun hT => ?_)
    · rcases hq with ⟨-, rfl⟩ | ⟨q, -⟩
      · exact K2
      · exact absurd q (by simp [hT])
    · rcases hq with ⟨q, -⟩ | ⟨-, rfl⟩
      · exact absurd q (by simp [hT])
      · exact K2
  | ge =>
    have hq : ((decide (y ≤ x)) = true ∧ pc2 = tgt) ∨ ((decide (y ≤ x)) = false ∧ pc2 = pc + 3) := hq
    refine lv_icmp_ge hx hb hd ht (fun hT => ?_) (fun hT => ?_)
    · rcases hq with ⟨-, rfl⟩ | ⟨q, -⟩
      · exact K2
      · exact absurd q (by simp [hT])
    · rcases hq with ⟨q, -⟩ | ⟨-, rfl⟩
      · exact absurd q (by simp [hT])
      · exact K2
  | gt =>
    have hq : ((decide (y < x)) = true ∧ pc2 = tgt) ∨ ((decide (y < x)) = false ∧ pc2 = pc + 3) := hq
    refine lv_icmp_gt hx hb hd ht (fun hT => ?_) (fun hT => ?_)
    · rcases hq with ⟨-, rfl⟩ | ⟨q, -⟩
      · exact K2
      · exact absurd q (by simp [hT])
    · rcases hq with ⟨q, -⟩ | ⟨-, rfl⟩
      · exact absurd q (by simp [hT])
      · exact K2
  | le =>
    have hq : ((decide (x ≤ y)) = true ∧ pc2 = tgt) ∨ ((decide (x ≤ y)) = false ∧ pc2 = pc + 3) := hq
    refine lv_icmp_le hx hb hd ht (fun hT => ?_) (fun hT => ?_)
    · rcases hq with ⟨-, rfl⟩ | ⟨q, -⟩
      · exact K2
      · exact absurd q (by simp [hT])
    · rcases hq with ⟨q, -⟩ | ⟨-, rfl⟩
      · exact absurd q (by simp [hT])
      · exact K2
