/-! ===== contracts of whole runs ===== -/
def mm_Rk (t : mm_mT) (pc : Nat) (v : Option Value) : Prop := match v with
  | none => decode t.2.1 pc = .ok (.return_, 1) ∧ t.2.2.2.1 = none
  | some (.int x) => decode t.2.1 pc = .ok (.ireturn, 1) ∧ ∃ ty, t.2.2.2.1 = some ty ∧ narrow ty (.int x) = .int x
  | some (.long _) => decode t.2.1 pc = .ok (.lreturn, 1) ∧ t.2.2.2.1 = some .long
  | some (.ref a) => decode t.2.1 pc = .ok (.areturn, 1) ∧ ∃ n, t.2.2.2.1 = some (.object n)
  | _ => False
def mm_Fm (f : Nat) : Prop := ∀ (p : Program) (l : Launch) (e : Env) (R : Room) (s : State) (m : MethodId) (args : Array Value) (below : List Frame) (meth : Method) (c : Code) (Q : State → Prop) (D : va_G) (ca : Nat → ClassId) (z : Value) (A : Nat → Prop) (t : mm_mT) (XS : Nat × (Nat → Int32)) (d y pc : Nat) (ls st : List Value) (S : mm_S) (v : Option Value) (S' : mm_S) (aa : Nat → Nat) (H : Heap) (locs : List Loc) (lm : Array Slot) (cells slots : Nat),
  mm_mt[y]? = some t → mm_run f d y pc ls st S = some (v, S') → mm_Fx p R s m args meth c D ca A d t → mm_Ix s D ca z A t XS aa S H locs → mm_Sx aa z S t ls lm st → cells + mm_n S' ≤ R.cells + mm_n S → slots + mm_z S' ≤ R.slots + mm_z S →
  (∀ (pc' : Nat) (aa' : Nat → Nat) (H' : Heap) (locs' : List Loc) (lm' : Array Slot) (cells' slots' : Nat), cells' + mm_n S = cells + mm_n S' → slots' + mm_z S = slots + mm_z S' → (∀ i, i < mm_n S ∨ 1000000 ≤ i → aa' i = aa i) → mm_Rk t pc' v → mm_Ix s D ca z A t XS aa' S' H' locs' → (∀ w ∈ v.toList, mm_vok S' w) → W p l e R s m args below meth c H' locs' cells' slots' Q (F0 m pc' lm' (v.toList.map (mm_ad aa' z)))) →
  W p l e R s m args below meth c H locs cells slots Q (F0 m pc lm (st.map (mm_ad aa z)))
theorem mm_run_mono : ∀ (f d y pc : Nat) (ls st : List Value) (S : mm_S) (v : Option Value) (S' : mm_S), mm_run f d y pc ls st S = some (v, S') → mm_n S ≤ mm_n S' ∧ mm_z S ≤ mm_z S' := by
  intro f
  induction f with
  | zero => intro d y pc ls st S v S' h; cases h
  | succ f ih =>
    intro d y pc ls st S v S' h
    unfold mm_run at h
    cases ht : mm_mt[y]? with
    | none => rw [ht] at h; cases h
    | some t =>
      simp only [ht] at h
      cases hd : decode t.2.1 pc with
      | error x => rw [hd] at h; cases h
      | ok il =>
        obtain ⟨i, len⟩ := il
        simp only [hd] at h
        by_cases hl : (mm_lk i len && mm_mo i S (mm_st d t pc ls st S i)) = true
        · simp only [if_pos hl] at h
          rw [Bool.and_eq_true] at hl
          obtain ⟨-, hm⟩ := hl
          cases ha : mm_st d t pc ls st S i with
          | none => rw [ha] at h; cases h
          | some B =>
            rw [ha] at hm
            rcases B with q | q | q
            · simp only [ha] at h
              simp only [mm_mo, Bool.and_eq_true, decide_eq_true_eq] at hm
              have := ih _ _ _ _ _ _ _ _ h
              omega
            · simp only [ha] at h
              simp only [mm_mo, Bool.and_eq_true, decide_eq_true_eq] at hm
              cases d with
              | zero => cases h
              | succ d =>
                simp only at h
                by_cases hq : q.1 < mm_nc
                · simp only [if_pos hq] at h
                  cases hu : mm_mt[q.1]? with
                  | none => rw [hu] at h; cases h
                  | some u =>
                    simp only [hu] at h
                    by_cases hf : (mm_as q.2.1).length ≤ u.2.2.1
                    · simp only [if_pos hf] at h
                      cases hr : mm_run f d q.1 0 (mm_en u.2.2.1 q.2.1) [] q.2.2.2 with
                      | none => rw [hr] at h; cases h
                      | some w =>
                        rw [hr] at h
                        have h1 := ih _ _ _ _ _ _ _ _ hr
                        have h2 := ih _ _ _ _ _ _ _ _ h
                        omega
                    · rw [if_neg hf] at h; cases h
                · rw [if_neg hq] at h; cases h
            · simp only [ha] at h
              simp only [mm_mo, Bool.and_eq_true, decide_eq_true_eq] at hm
              cases h
              exact hm.1
        · rw [if_neg hl] at h; cases h
theorem mm_Ev_vm {z : Value} {aa : Nat → Nat} {A : Nat → Prop} {u U : State} {H : Heap} (hv : U.vm = u.vm) (E : mm_Ev z aa A u H) : mm_Ev z aa A U H := by
  have al : u.vm.Alike U.vm := by rw [hv]; exact Vm.Alike.refl _
  exact ⟨vk_S.moved al E.1, fun k hk => vk_R.same hv (E.2.1 k hk), va_Z.moved al E.2.2.1, va_Z.moved al E.2.2.2.1, E.2.2.2.2.1, fun q hq => va_Nc.moved al (E.2.2.2.2.2.1 q hq), fun q hq => va_Nw.same rfl hv.symm (E.2.2.2.2.2.2.1 q hq), fun q hq => va_AO.moved al (E.2.2.2.2.2.2.2.1 q hq), fun q hq => va_Nw.same rfl hv.symm (E.2.2.2.2.2.2.2.2 q hq)⟩
theorem mm_Ev_warm {z : Value} {aa : Nat → Nat} {A : Nat → Prop} {s U : State} {H : Heap} (hW : s.WarmedH U.vm) (E : mm_Ev z aa A s H) : mm_Ev z aa A U H := by
  have al := hW.alike
  exact ⟨vk_S.moved al E.1, fun k hk => vk_R.warm hW (E.2.1 k hk), va_Z.moved al E.2.2.1, va_Z.moved al E.2.2.2.1, E.2.2.2.2.1, fun q hq => va_Nc.moved al (E.2.2.2.2.2.1 q hq), fun q hq => va_Nw.warmC hW (E.2.2.2.2.2.2.1 q hq), fun q hq => va_AO.moved al (E.2.2.2.2.2.2.2.1 q hq), fun q hq => va_Nw.warmM hW (E.2.2.2.2.2.2.2.2 q hq)⟩
theorem mm_Ev_kept {z : Value} {aa : Nat → Nat} {A B : Nat → Prop} {U : State} {H H1 : Heap} (hq : ∀ a : Nat, a < H.size → ¬ A a → H1[a]? = H[a]?) (hAB : ∀ q, B q → A q) (E : mm_Ev z aa A U H) : mm_Ev z aa B U H1 :=
  ⟨(E.1.kept hq).narrow hAB, E.2.1, (E.2.2.1.kept hq).narrow hAB, (E.2.2.2.1.kept hq).narrow hAB, E.2.2.2.2⟩
theorem mm_free {A : Nat → Prop} {ws : va_W} {H0 H : Heap} {locs : List Loc} (hD : va_D A ws) (hS : va_S A H0 H locs) (hA : ∀ q, H0.size ≤ q → A q) : ∀ q, va_A ws H.size q → A q := by
  intro q h
  rcases h with ⟨k, e, h⟩ | h
  · exact hD.2 k (q, e) h
  · exact hA q (Nat.le_trans hS.1 h)
def mm_rm (d k n : Nat) : Room := { frames := d, cells := k, slots := n, locals := 60 * d }
def mm_Pc (D : va_G) (ca : Nat → ClassId) (z : Value) (aa : Nat → Nat) (S : mm_S) (sz : Nat) (U : State) : Prop := U.heap.size = sz ∧ va_P D mm_cl_s (mm_ws ca aa S) U.heap ∧ va_K D mm_cl_s (mm_ats ca) U ∧ va_D (fun _ => True) (mm_ws ca aa S) ∧ mm_Ev z aa (va_A (mm_ws ca aa S) sz) U U.heap
def mm_Qc (D : va_G) (ca : Nat → ClassId) (z : Value) (aa : Nat → Nat) (XS : Nat × (Nat → Int32)) (S : mm_S) (sz : Nat) (v : Option Value) (S' : mm_S) : Array Value → State → Outcome → State → Prop := fun _ st o t =>
  (∃ aa' : Nat → Nat, o = .returned (v.map (mm_ad aa' z)) ∧ (∀ i, i < mm_n S ∨ 1000000 ≤ i → aa' i = aa i) ∧ va_P D mm_cl_s (mm_ws ca aa' S') t.heap ∧ va_D (va_A (mm_ws ca aa S) sz) (mm_ws ca aa' S') ∧ mm_wf S' ∧ mm_N S' mm_SC = XS.1 ∧ mm_M S' mm_SC = XS.2 ∧ ∀ w ∈ v.toList, mm_vok S' w) ∧ va_F (va_A (mm_ws ca aa S) sz) st t
theorem mm_en_vok {S : mm_S} {n : Nat} {as : List Value} (h : ∀ w ∈ as, mm_vok S w) : ∀ w ∈ mm_en n as, mm_vok S w := by
  have h2 : ∀ (l : List Value), (∀ w ∈ l, mm_vok S w) → ∀ w ∈ mm_as l, mm_vok S w := by
    intro l
    induction l with
    | nil => intro _ w hw; cases hw
    | cons v l ih =>
      intro hl w hw
      unfold mm_as at hw
      split at hw
      · rcases List.mem_cons.mp hw with rfl | hw
        · exact hl _ List.mem_cons_self
        · rcases List.mem_cons.mp hw with rfl | hw
          · exact trivial
          · exact ih (mm_t1 hl) w hw
      · rcases List.mem_cons.mp hw with rfl | hw
        · exact hl _ List.mem_cons_self
        · exact ih (mm_t1 hl) w hw
  intro w hw
  rcases List.mem_append.mp hw with hw | hw
  · exact h2 as h w hw
  · rw [(List.mem_replicate.mp hw).2]; exact trivial
theorem mm_met {f : Nat} (hF : mm_Fm f) {y : Nat} {u : mm_mT} (hy : mm_mc[y]? = some u) {d : Nat} {as : List Value} {S : mm_S} {v : Option Value} {S' : mm_S} (hlen : (mm_as as).length ≤ u.2.2.1) (hr : mm_run f d y 0 (mm_en u.2.2.1 as) [] S = some (v, S')) (l : Launch) (D : va_G) (ca : Nat → ClassId) (z : Value) (aa : Nat → Nat) (XS : Nat × (Nat → Int32)) (sz : Nat) (hwf : mm_wf S) (hvok : ∀ w ∈ as, mm_vok S w) (hN : mm_N S mm_SC = XS.1) (hM : mm_M S mm_SC = XS.2) :
    Met l u.1 (.code u.1 u.2.1 u.2.2.1 u.2.2.2.1 :: mm_G) (mm_rm d (mm_n S' - mm_n S) (mm_z S' - mm_z S)) (va_Pc (as.map (mm_ad aa z)) (mm_Pc D ca z aa S sz)) (mm_Qc D ca z aa XS S sz v S') (mm_n S' - mm_n S) (mm_z S' - mm_z S) (va_A (mm_ws ca aa S) sz) := by
  obtain ⟨u1, u2, u3, u4, u5, u6⟩ := mm_mc_ok u (List.mem_of_getElem? hy)
  have hmono := mm_run_mono _ _ _ _ _ _ _ _ _ hr
  have hyt : mm_mt[y]? = some u := by
    unfold mm_mt
    rw [List.getElem?_append_left (List.getElem?_eq_some_iff.mp hy).1]
    exact hy
  refine Met.ofW (cc := u.2.1) (maxL := u.2.2.1) (ret := u.2.2.2.1) u2 rfl ?_
  intro p e s m args below meth c s₁ B hml hv
  obtain ⟨rfl, hsz, hP, hK, hD0, hE⟩ := hv
  have hx := B.exec
  have hb := B.bytes
  have hrt := B.returns
  have hts0 := atoms_spec (ws := .code u.1 u.2.1 u.2.2.1 u.2.2.2.1 :: mm_G) B.pre
  have hts : ∀ w ∈ mm_G, w.before (as.map (mm_ad aa z)).toArray s = true := fun w hw => hts0 w (List.mem_cons_of_mem _ hw)
  have hown : s.vm.findClass u.1.cls = some m.cls := findClass_of_methodNamed B.named
  have hlocks := B.notSynchronized
  have hin : meth.name = u.1.name := (name_of_methodNamed B.named B.method).1
  have hzc : z.category = 1 := hE.2.2.2.2.1
  subst hsz
  rw [lg_entry_eq]
  rw [u4] at hown
  refine hF p l e (mm_rm d (mm_n S' - mm_n S) (mm_z S' - mm_z S)) s m _ below meth c _ D ca z (va_A (mm_ws ca aa S) s.heap.size) u XS d y 0 (mm_en u.2.2.1 as) [] S v S' aa s.heap [] _ 0 0 hyt hr
    ⟨hx, hb, hml, hown, hts, fun h => hin.trans h, u4, hK, fun q h => Or.inr h, Nat.le_refl _, Nat.le_refl _⟩
    ⟨hP, hD0.self, va_S.rf, hwf, hE, hN, hM, fun h => absurd h u5⟩
    ⟨mm_en_vok hvok, fun w h => (by cases h), mm_en_Lr hzc hlen⟩ (by show 0 + mm_n S' ≤ (mm_n S' - mm_n S) + mm_n S; omega) (by show 0 + mm_z S' ≤ (mm_z S' - mm_z S) + mm_z S; omega) ?_
  intro pc' aa' H' locs' lm' cells' slots' hc1 hz1 hag hk I' hvk
  obtain rfl : cells' = mm_n S' - mm_n S := by omega
  obtain rfl : slots' = mm_z S' - mm_z S := by omega
  have hfree : ∀ q ∈ locs', va_A (mm_ws ca aa S) s.heap.size q.base := I'.2.2.1.2.2
  have hq : ∀ (w : Option Value), w = v.map (mm_ad aa' z) → ∀ t : State, t.heap = H' → s.WarmedH t.vm → mm_Qc D ca z aa XS S s.heap.size v S' (as.map (mm_ad aa z)).toArray s (.returned w) t := by
    intro w hw t ht _
    exact ⟨⟨aa', by rw [hw], hag, by rw [ht]; exact I'.1, I'.2.1, I'.2.2.2.1, I'.2.2.2.2.2.1, I'.2.2.2.2.2.2.1, hvk⟩, I'.2.2.1.F ht⟩
  match v, hk, hq with
  | none, hk, hq => exact W.vret hx hb (hrt.trans hk.2) (hq none rfl) hfree hk.1 hlocks
  | some (.int x), hk, hq =>
    obtain ⟨h1, ty, h2, h3⟩ := hk
    exact W.zret hx hb (hrt.trans h2) h3 (hq _ rfl) hfree h1 hlocks
  | some (.long x), hk, hq => exact W.lret hx hb (hrt.trans hk.2) (hq _ rfl) hfree hk.1 hlocks
  | some (.ref a), hk, hq =>
    obtain ⟨h1, n, h2⟩ := hk
    exact W.aret hx hb (hrt.trans h2) (Or.inl ⟨n, rfl⟩) (Or.inr ⟨aa' a, mm_ad_ref⟩) (hq _ rfl) hfree h1 hlocks
theorem mm_blind {D : va_G} {ca : Nat → ClassId} {z : Value} {aa : Nat → Nat} {S : mm_S} {sz : Nat} {av : List Value} : FrameBlind (va_Pc av (mm_Pc D ca z aa S sz)) := by
  intro a U g mk h
  obtain ⟨h1, h2, h3, h4, h5, h6⟩ := h
  exact ⟨h1, h2, h3, va_K.moved (u := U) (U := U.calling g mk a) (Vm.Alike.refl U.vm) h4, h5, mm_Ev_vm (u := U) (U := U.calling g mk a) rfl h6⟩
section MMC
variable {p : Program} {l : Launch} {e : Env} {R : Room} {s : State} {m : MethodId} {args : Array Value} {below : List Frame} {meth : Method} {c : Code} {H : Heap} {locs : List Loc} {cells slots : Nat} {Q : State → Prop}
theorem mm_callg {D : va_G} {ca : Nat → ClassId} {z : Value} {aa : Nat → Nat} {XS : Nat × (Nat → Int32)} {S S' : mm_S} {v : Option Value} {pc mc ms : Nat} {lm : Array Slot} {st0 rest : List Value} {a : Array Value} {A0 : Nat → Prop} {H0 : Heap}
    (hr : va_Run p l e R s m args below meth c H locs cells slots mc ms (F0 m pc lm st0) rest (mm_Qc D ca z aa XS S H.size v S' a) (va_A (mm_ws ca aa S) H.size)) (hS : va_S A0 H0 H locs) (hf : ∀ q, va_A (mm_ws ca aa S) H.size q → A0 q)
    (kk : ∀ (aa' : Nat → Nat) (H1 : Heap) (locs1 : List Loc), (∀ i, i < mm_n S ∨ 1000000 ≤ i → aa' i = aa i) → va_P D mm_cl_s (mm_ws ca aa' S') H1 → va_D A0 (mm_ws ca aa' S') → mm_wf S' → mm_N S' mm_SC = XS.1 → mm_M S' mm_SC = XS.2 → (∀ w ∈ v.toList, mm_vok S' w) → va_S A0 H0 H1 locs1 → W p l e R s m args below meth c H1 locs1 (cells + mc) (slots + ms) Q (F0 m (pc + 3) lm ((v.toList.map (mm_ad aa' z)) ++ rest))) :
    W p l e R s m args below meth c H locs cells slots Q (F0 m pc lm st0) := by
  intro T hT X
  obtain ⟨w, st₀, t, T', L, h0, X', hL, e1, e2, ⟨⟨aa', hv, hag, hP1, hD1, hw1, hN1, hM1, hvk⟩, hz, hk⟩, st⟩ := hr T hT X
  cases hv
  rw [h0] at hz hk
  obtain ⟨t2, a1, b1⟩ := kk aa' T'.heap (locs ++ L) hag (by rw [e1]; exact hP1) (hD1.weaken fun _ q _ h => hf q.1 h) hw1 hN1 hM1 hvk
    ⟨Nat.le_trans hS.1 (by rw [e1]; exact hz), fun q h1 h2 => by rw [e1, hk q (Nat.lt_of_lt_of_le h1 hS.1) (fun z => h2 (hf q z))]; exact hS.2.1 q h1 h2, fun q hq => by
      rcases List.mem_append.mp hq with h | h
      · exact hS.2.2 q h
      · exact hf _ (hL q h)⟩ T' rfl X'
  refine ⟨t2, st t2 ?_, b1⟩
  have e3 : (v.map (mm_ad aa' z)).toList ++ rest = v.toList.map (mm_ad aa' z) ++ rest := by cases v <;> rfl
  rw [e3]
  exact a1
end MMC
