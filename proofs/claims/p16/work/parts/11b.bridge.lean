/-! THE CLAIM OUT OF ONE WALK OF THE LAW'S BODY. Your part is whole_start (and what it stands on); all else here is the same for every law, but numbers. -/
def R_law : String := "PennyMoreLaw"
def lw_P (b : Addr) (xs : List Int32) (args : Array Value) (s : State) : Prop := args = #[.ref b] ∧ s.IntsAt b xs ∧ xs.length ≤ 3072 ∧ (Jvm.Cond.and given_1 narrow_1).before args s = true
def lw_Q (_ : Array Value) (s : State) (o : Outcome) (t : State) : Prop := o = .returned (some (.int 1)) ∧ Framed s o t [] 600000 7302250
def lw_Z (below : List Frame) (a : Array Value) (s : State) : State → Prop := fun t => ∃ o, t.status = .running ∧ Ended t below o ∧ lw_Q a s o t
/-- the law's own end, with 1 on the stack, nothing written that was there before, its room as the claim has it -/
theorem lw_ret {p : Program} {l : Launch} {e : Env} {s : State} {m : MethodId} {below : List Frame} {meth : Method} {c : Code} {b : Nat} (hx : p.tables.exec = Jvm.exec) (hb : c.code = code) (hr : meth.sig.returnType = ret) (hlocks : meth.locks = false) {pc : Nat} {H : Heap} {ls : Array Slot} (hdg : decode code pc = .ok (.ireturn, 1)) : W p l e room_1 s m #[Value.ref b] below meth c H [] 600000 7302250 (lw_Z below #[Value.ref b] s) (F0 m pc ls [.int 1]) := by
  intro T hT X
  obtain ⟨fs, hret, hrun, hended, hW, hframe⟩ := X.leave (v := some (.int 1)) (hlocks := hlocks) (fun h => by rw [hr] at h; cases h)
  have hmeth' : T.vm.method? m = some meth := X.method'
  refine ⟨T.setFrames fs, ?_, .returned (some (.int 1)), hrun, hended, rfl, ⟨_, rfl⟩, hW, hframe⟩
  jvm_step X.here [X.here.top, hx, hb, hdg, hmeth', hr, ret, narrow_b1]
  (try refine ⟨rfl, ?_⟩); (try refine ⟨rfl, ?_⟩)
  first | (intro acts; rw [hret _ acts rfl rfl rfl]) | rw [hret _ _ rfl rfl rfl]
  exact Steps.refl _
/-- what holds at the law's entry: the machine, the code, the tables' words (any of lw_tbl by 'hts w (by decide +kernel)'), the script of L ints xs at the cell b, what the Statement gives of the start (any of its parts by flat_of_before) -/
def lw_At (p : Program) (s : State) (m : MethodId) (meth : Method) (c : Code) (b L : Nat) (xs : Nat → Int32) : Prop :=
  p.tables.exec = Jvm.exec ∧ c.code = code ∧ meth.sig.returnType = ret ∧ c.maxLocals = 4 ∧ s.vm.findClass R_law = some m.cls ∧ (∀ w ∈ lw_tbl, w.before #[Value.ref b] s = true) ∧ va_X b L xs s s.heap ∧ b < s.heap.size ∧ meth.locks = false ∧ (Jvm.Cond.and given_1 narrow_1).before #[Value.ref b] s = true
/-- the small machine's start: no cell but the script -/
def mm_S0 (L : Nat) (xs : Nat → Int32) : mm_S := (fun a => if a = mm_SC then xs else fun _ => 0, fun _ _ => 0, fun _ _ => none, fun _ => 99, fun a => if a = mm_SC then L else 0, 0, 0)
theorem mm_start (hlaw : ∀ (xs : Nat → Int32) (L : Nat), L ≤ 3072 → ∃ S', mm_ex 30 mm_nc 0 [.ref mm_SC, .null, .null, .null] [] (mm_S0 L xs) = some (some (.int 1), S') ∧ mm_n S' ≤ 600000 ∧ mm_z S' ≤ 7302250) {p : Program} {e : Env} {s : State} {m : MethodId} {below : List Frame} {meth : Method} {c : Code} (l : Launch) {b L : Nat} {xs : Nat → Int32} (hL : L ≤ 3072) (C0 : lw_At p s m meth c b L xs) : W p l e room_1 s m #[Value.ref b] below meth c s.heap [] 0 0 (lw_Z below #[Value.ref b] s) (entryFrame m ([Value.ref b] : List Value).toArray 4) := by
  obtain ⟨hx, hb, hr, hml, hown, hts, hX, hbl, hlocks, hgv⟩ := id C0
  have htsG : ∀ w ∈ mm_G, w.before #[Value.ref b] s = true := fun w hw => hts w (List.mem_filter.mp hw).1
  have hnl : ∀ w ∈ mm_nl, w.before #[Value.ref b] s = true := fun w hw => flat_of_before _ hgv w (show w ∈ flatC given_1 ++ flatC narrow_1 from List.mem_append_right _ (by rw [mm_flat]; exact hw))
  have hA : ∀ a : Nat, a < s.heap.size → ¬ (fun q : Nat => s.heap.size ≤ q) a := fun a h => Nat.not_le.mpr h
  obtain ⟨adK, adV, hSt, hev⟩ := vk_Sof (s := s) (args := #[Value.ref b]) (N := 12) (tm := fun i => .string "PennyMore$Reader" (mm_sx i).1) (len := mm_sl) (byt := mm_sb) (A := fun q : Nat => s.heap.size ≤ q) (by decide +kernel) (mm_s1 hnl) (mm_s2 hnl) (mm_s3 hnl) (mm_s4 hnl) (mm_s5 hnl) (fun i j hi hj hij => mm_s6 hnl i hi j hj hij) hA
  obtain ⟨z, hz, hzc⟩ : ∃ z : Value, va_Z "jdk/internal/util/Preconditions" "SIOOBE_FORMATTER" "Ljava/util/function/BiFunction;" z (fun q : Nat => s.heap.size ≤ q) s s.heap ∧ z.category = 1 := by
    rcases va_Zqof (hts _ mm_gs6) (htsG _ mm_gi2) (mm_s9 hnl) hA with h | ⟨t, h⟩
    · exact ⟨_, h, rfl⟩
    · exact ⟨_, h, rfl⟩
  obtain ⟨aa, ha1, ha2, ha3⟩ : ∃ aa : Nat → Nat, (∀ k, k < 12 → aa (1000000 + 2 * k) = adK k) ∧ (∀ k, k < 12 → aa (1000000 + 2 * k + 1) = adV k) ∧ aa mm_SC = b := by
    refine ⟨fun a => if a = mm_SC then b else if a % 2 = 0 then adK (a % 1000000 / 2) else adV (a % 1000000 / 2), fun k hk => ?_, fun k hk => ?_, ?_⟩
    · have e1 : ¬ (1000000 + 2 * k = mm_SC) := by show ¬ (1000000 + 2 * k = 3000000); omega
      have e2 : (1000000 + 2 * k) % 2 = 0 := by rw [Nat.add_mul_mod_self_left]
      have e3 : (1000000 + 2 * k) % 1000000 / 2 = k := by rw [Nat.add_mod_left, Nat.mod_eq_of_lt (by omega)]; omega
      simp only [if_neg e1, if_pos e2, e3]
    · have e1 : ¬ (1000000 + 2 * k + 1 = mm_SC) := by show ¬ (1000000 + 2 * k + 1 = 3000000); omega
      have e2 : ¬ (1000000 + 2 * k + 1) % 2 = 0 := by rw [Nat.add_right_comm, Nat.add_mul_mod_self_left]; decide
      have e3 : (1000000 + 2 * k + 1) % 1000000 / 2 = k := by rw [Nat.add_assoc, Nat.add_mod_left, Nat.mod_eq_of_lt (by omega)]; omega
      simp only [if_neg e1, if_neg e2, e3]
    · simp
  have hEv : mm_Ev z aa (fun q : Nat => s.heap.size ≤ q) s s.heap := by
    refine ⟨⟨fun i hi => ?_, fun i j hi hj h => ?_⟩, fun k hk => ?_, va_Zof (hts _ mm_gs5) (htsG _ mm_gi1) (va_eqi (mm_s8 hnl)) hA, hz, hzc, mm_s7 hnl, fun q hq => va_Nw.of rfl (hts _ (mm_E1_ok q hq)), fun q hq => va_AO.of (hts _ (mm_E2_ok q hq)), fun q hq => va_Nw.of rfl (hts _ (mm_E3_ok q hq))⟩
    · have h := hSt.1 i hi
      simp only [ha1 i hi, ha2 i hi]
      exact h
    · simp only [ha1 i hi, ha1 j hj] at h
      exact hSt.2 i j hi hj h
    · rw [ha1 k hk]
      exact vk_R.of (hts _ (mm_strw k hk)) (hev k hk)
  have hkn : ∀ k, ∃ q : ClassId × (Nat → Nat), k < 13 → u_Kn s (mm_ck k) (mm_T k) (mm_NF k) q.1 q.2 := by
    intro k
    by_cases hk : k < 13
    · obtain ⟨n, hn⟩ := mm_inst k hk
      obtain ⟨cC, iS, h⟩ := u_known (C := mm_ck k) (T := mm_T k) (N := mm_NF k) (n := n) htsG (mm_uws k hk) (htsG _ hn)
      exact ⟨(cC, iS), fun _ => h⟩
    · exact ⟨(0, fun _ => 0), fun h => absurd h hk⟩
  obtain ⟨D, hD⟩ : ∃ D : va_G, ∀ k, k < 13 → u_Kn s (mm_ck k) (mm_T k) (mm_NF k) (D.1 k) (D.2 k) := ⟨(fun k => (Classical.choose (hkn k)).1, fun k => (Classical.choose (hkn k)).2), fun k hk => Classical.choose_spec (hkn k) hk⟩
  have harr : ∀ ty : FieldType, (Cond.arrayClass ty).before #[Value.ref b] s = true → ∃ cA : ClassId, ArrOfT s cA ty ∧ s.vm.findClass ("[" ++ ty.toString) = some cA := by
    intro ty h
    obtain ⟨c, k, comp, h1, h2, h3⟩ := Cond.arrayClass_spec h
    exact ⟨c, fun n v => ⟨fun k h => (by cases h), k, h2, comp, h3⟩, h1⟩
  have harq : ∀ C : String, (Cond.arrayOver (.object C)).before #[Value.ref b] s = true → ∃ cA : ClassId, ArrOfT s cA (.object C) ∧ va_RA s cA (.object C) := by
    intro C h
    obtain ⟨comp, c, k, h1, -, h3, h4, h5⟩ := Cond.arrayOver_spec h
    exact ⟨c, fun n v => ⟨fun k h => (by cases h), k, h3, comp, h4⟩, k, comp, h3, h4, h1, h5⟩
  obtain ⟨ci, hi1, hi2⟩ := harr .int (htsG _ mm_ar_i)
  obtain ⟨cj, hj1, hj2⟩ := harr .long (htsG _ mm_ar_j)
  obtain ⟨cz, hz1, hz2⟩ := harr .boolean (htsG _ mm_ar_z)
  obtain ⟨cb, hb1, hb2⟩ := harq "PennyMore$Buyer" (hts _ (mm_E2_ok _ (by decide)))
  obtain ⟨cs, hs1, hs2⟩ := harq "PennyMore$Shop" (hts _ (mm_E2_ok _ (by decide)))
  obtain ⟨ct, ht1, ht2⟩ := harq "PennyMore$Tape" (hts _ (mm_E2_ok _ (by decide)))
  obtain ⟨ca, hca⟩ : ∃ ca : Nat → ClassId, mm_ats ca = [(ci, .int), (cj, .long), (cz, .boolean), (cb, .object "PennyMore$Buyer"), (cs, .object "PennyMore$Shop"), (ct, .object "PennyMore$Tape")] := ⟨fun k => if k = 13 then ci else if k = 14 then cj else if k = 15 then cz else if k = 16 then cb else if k = 17 then cs else ct, rfl⟩
  have hK : va_K D mm_cl_s (mm_ats ca) s := by
    refine ⟨fun k q hq => ?_, fun k q hq => ?_⟩
    · have hk : k < 13 := (List.getElem?_eq_some_iff.mp hq).1
      rw [mm_cls_get k hk] at hq
      cases hq
      exact hD k hk
    · rw [hca] at hq
      match k, hq with
      | 0, hq => cases hq; exact ⟨hi1, hi2⟩
      | 1, hq => cases hq; exact ⟨hj1, hj2⟩
      | 2, hq => cases hq; exact ⟨hz1, hz2⟩
      | 3, hq => cases hq; exact ⟨hb1, hb2⟩
      | 4, hq => cases hq; exact ⟨hs1, hs2⟩
      | 5, hq => cases hq; exact ⟨ht1, ht2⟩
      | k + 6, hq => simp at hq
  obtain ⟨S', hex, hn1, hz1'⟩ := hlaw xs L hL
  obtain ⟨f, hf⟩ := mm_ex_iff.mp hex
  rw [lg_entry_eq]
  have hle := mm_en_Lr (aa := aa) (z := z) hzc (as := [.ref mm_SC]) (n := 4) (by decide)
  have hmap : ([.ref mm_SC] : List Value).map (mm_ad aa z) = [.ref b] := by
    rw [List.map_cons, mm_ad_ref, ha3]; rfl
  rw [hmap] at hle
  have hnil : mm_ws ca aa (mm_S0 L xs) = [] := rfl
  refine mm_frame f p l e room_1 s m #[Value.ref b] below meth c _ D ca z (fun q : Nat => s.heap.size ≤ q) mm_tl (L, xs) 30 mm_nc 0 [.ref mm_SC, .null, .null, .null] [] (mm_S0 L xs) (some (.int 1)) S' aa s.heap [] _ 0 0 rfl hf
    ⟨hx, hb, hml, hown, htsG, fun h => absurd h (by decide), rfl, hK, fun q h => h, by decide, by decide⟩
    ⟨by rw [hnil]; exact fun k q h => by simp at h, by rw [hnil]; exact ⟨fun i j p q h => by simp at h, fun k q h => by simp at h⟩, va_S.rf, ⟨fun i hi => absurd hi (Nat.not_lt_zero i), Nat.zero_le _⟩, hEv, rfl, rfl, fun _ => by rw [ha3]; exact ⟨hX, hbl, Nat.not_le.mpr hbl⟩⟩
    ⟨mm_p1 (Or.inr (by decide)) (mm_p1 trivial (mm_p1 trivial (mm_p1 trivial (fun w h => by cases h)))), (fun w h => by cases h), hle⟩ (by show 0 + mm_n S' ≤ 600000 + 0; omega) (by show 0 + mm_z S' ≤ 7302250 + 0; omega) ?_
  intro pc' aa' H' locs' lm' cells' slots' h1 h2 h3 h4 h5 h6
  have h1 : cells' + 0 = 0 + mm_n S' := h1
  have h2 : slots' + 0 = 0 + mm_z S' := h2
  refine W.widen (k := 600000) (n := 7302250) (by omega) (by omega) ?_
  refine va_forget (fun q hq => h5.2.2.1.2.2 q hq) ?_
  exact lw_ret hx hb hr hlocks h4.1
