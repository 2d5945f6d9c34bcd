/-! ===== calls ===== -/
theorem mm_i1_some {st : List Value} {f : Int32 → List Value → mm_Act} {B : (Nat × List Value × List Value × mm_S) ⊕ ((Nat × List Value × List Value × mm_S) ⊕ (Option Value × mm_S))} (h : mm_i1 st f = some B) : ∃ x r, st = .int x :: r ∧ f x r = some B := by
  unfold mm_i1 at h
  split at h
  · exact ⟨_, _, rfl, h⟩
  · cases h
theorem mm_i2_some {st : List Value} {f : Int32 → Int32 → List Value → mm_Act} {B : (Nat × List Value × List Value × mm_S) ⊕ ((Nat × List Value × List Value × mm_S) ⊕ (Option Value × mm_S))} (h : mm_i2 st f = some B) : ∃ x y r, st = .int y :: .int x :: r ∧ f x y r = some B := by
  unfold mm_i2 at h
  split at h
  · exact ⟨_, _, _, rfl, h⟩
  · cases h
theorem mm_r1_some {st : List Value} {f : Nat → List Value → mm_Act} {B : (Nat × List Value × List Value × mm_S) ⊕ ((Nat × List Value × List Value × mm_S) ⊕ (Option Value × mm_S))} (h : mm_r1 st f = some B) : ∃ (x : Nat) (r : List Value), st = .ref x :: r ∧ f x r = some B := by
  unfold mm_r1 at h
  split at h
  · exact ⟨_, _, rfl, h⟩
  · cases h
theorem mm_gd_some {b : Bool} {C : mm_Act} {B : (Nat × List Value × List Value × mm_S) ⊕ ((Nat × List Value × List Value × mm_S) ⊕ (Option Value × mm_S))} (h : mm_gd b C = some B) : b = true ∧ C = some B := by
  unfold mm_gd at h
  split at h
  · exact ⟨by assumption, h⟩
  · cases h
theorem mm_ca_inv {y z : Nat} {as st as' st' : List Value} {S S' : mm_S} (h : mm_ca y as st S = some (.inr (.inl (z, as', st', S')))) : y = z ∧ as = as' ∧ st = st' ∧ S = S' := by
  unfold mm_ca at h
  simp only [Option.some.injEq, Sum.inr.injEq, Sum.inl.injEq, Prod.mk.injEq] at h
  exact h
theorem mm_td (st : List Value) (n : Nat) : (st.take n).reverse.reverse ++ st.drop n = st := by rw [List.reverse_reverse, List.take_append_drop]
/-- a call through an inherited name of a superclass's method -/
theorem mm_callSU {p : Program} {l : Launch} {e : Env} {R : Room} {s : State} {m : MethodId} {args : Array Value} {below : List Frame} {meth : Method} {c : Code} {T : State} {locs : List Loc} {cells slots : Nat} (X : Stand p l e R s m args below meth c T locs cells slots) (hexec : p.tables.exec = Jvm.exec) {own : String} {index : Nat} {x y : MethodName} {bytes : ByteArray} {maxL : Nat} {ret : Option FieldType}
    (hown : s.vm.findClass own = some m.cls) (hlink : (Cond.methodLink own index x).before args s = true) (hsame : (Cond.sameMethod x.cls y.cls x.name x.desc).before args s = true) (hsup : (Cond.superclass own x.cls).before args s = true) (hup : x.cls = y.cls ∨ (Cond.superclass x.cls y.cls).before args s = true) (hyx : y = ⟨y.cls, x.name, x.desc⟩)
    (hinst : (Cond.instanceMethod y).before args s = true) (hcode : (Cond.code y bytes maxL ret).before args s = true) (hno : x.name ≠ "<init>")
    {W : Nat} {Pre : Pt → Array Value → Prop} {Post : Pt → Array Value → Option Value → Pt → Prop} (hK : Back l R p e below s args y 3 W Pre Post)
    {b : Addr} {cellB : Cell} {kB : Class} (hcell : T.heap[b]? = some cellB) (hobj : cellB.vm.isStatics = false) (hkB : s.vm.classes[cellB.cls]? = some kB)
    {g : JFrame} (hg : g.method = m) (hsize : g.locals.size = c.maxLocals) {argsL rest : List Value} (hlen : ∀ sig, parseMethodDescriptor x.desc = some sig → argsL.length = sig.parameters.length)
    (hstack : g.stack = argsL.reverse ++ .ref b :: rest) (hW : 2 * g.monitorRoom + (rest.map fun v => v.category).sum ≤ W) (hdg : decode c.code g.pc = .ok (.invokespecial index, 3))
    (hpre : ∀ vm₁, s.WarmedH vm₁ → Pre ⟨T.setVm vm₁, locs, cells, slots⟩ (Value.ref b :: argsL).toArray) :
    ∃ (v : Option Value) (vm₁ : Vm) (B : Pt), s.WarmedH vm₁ ∧ Stand p l e R s m args below meth c B.U B.locs B.cells B.slots ∧ Post ⟨T.setVm vm₁, locs, cells, slots⟩ (Value.ref b :: argsL).toArray v B ∧
      ∀ target, Steps p.tables e below (B.U.setTop { g with pc := g.pc + 3, stack := v.toList ++ rest }) target → Steps p.tables e below (T.setTop g) target := by
  obtain ⟨mk, methM, hnamed, hmethM, hstM, habM⟩ := Cond.instanceMethod_spec hinst
  obtain ⟨methM', cM, hmethM', -, -, -, -, -, -, hsigM⟩ := Cond.code_spec hnamed hcode
  cases hmethM.symm.trans hmethM'
  obtain ⟨ps, dk, kp, hps, hdk, hkp, hsuper, -, -, hnid⟩ := Cond.superclass_spec hown hsup
  have hn : s.methodNamed? ⟨y.cls, x.name, x.desc⟩ = some mk := by rw [← hyx]; exact hnamed
  have hsigX : parseMethodDescriptor x.desc = some methM.sig := by
    rw [hyx] at hsigM
    exact hsigM
  have hmc := findClass_of_methodNamed hnamed
  have hsub : s.vm.isSubclass ps mk.cls = true := by
    rcases hup with h | h
    · rw [h] at hps
      have hpm : ps = mk.cls := Option.some.inj (hps.symm.trans hmc)
      rw [hpm]; simp [Vm.isSubclass, Vm.isSubclassAux]
    · obtain ⟨ps2, dk2, kp2, hps2, hdk2, hkp2, hsuper2, -, -, -⟩ := Cond.superclass_spec hps h
      have hpm : ps2 = mk.cls := Option.some.inj (hps2.symm.trans hmc)
      rw [← hpm]
      have hsz : ∃ k, s.vm.classes.size = k + 1 := ⟨s.vm.classes.size - 1, by have := (Array.getElem?_eq_some_iff.mp hdk2).1; omega⟩
      obtain ⟨k, hk⟩ := hsz
      unfold Vm.isSubclass
      rw [hk]
      simp only [Vm.isSubclassAux, hdk2, hsuper2]
      simp
  obtain ⟨vm₁, X₁, hstep₁⟩ := X.invokespecialUp hexec hown hlink hsame hn hmethM hstM habM hno hdk hnid hps hsuper hsub (a := b) (cell := cellB) hcell
    (fun z h => by rw [h] at hobj; cases hobj) hkB (g := g) hg (argsL := argsL) (rest := rest) (hlen _ hsigX) hstack hdg
  obtain ⟨v, B, X', hpost, hsteps⟩ := hK m meth c ⟨T.setVm vm₁, locs, cells, slots⟩ { g with stack := rest } (.invokespecial index) mk (Value.ref b :: argsL).toArray X₁ hg hsize hdg hW (X₁.named hnamed) (hpre vm₁ X₁.warmed)
  exact ⟨v, vm₁, B, X₁.warmed, X', hpost, fun target h => hstep₁ _ (by rw [doInvoke_state]; exact hsteps.trans h)⟩
section MMD
variable {p : Program} {l : Launch} {e : Env} {R : Room} {s : State} {m : MethodId} {args : Array Value} {below : List Frame} {meth : Method} {c : Code} {H : Heap} {locs : List Loc} {cells slots : Nat} {Q : State → Prop} {D : va_G} {ca : Nat → ClassId} {z : Value} {A : Nat → Prop} {t u : mm_mT} {XS : Nat × (Nat → Int32)} {d pc y : Nat} {ls st as st' : List Value} {S S1 : mm_S} {aa : Nat → Nat} {lm : Array Slot} {Qc : Array Value → State → Outcome → State → Prop} {mc ms : Nat} {free : Addr → Prop}
theorem mm_preS (F : mm_Fx p R s m args meth c D ca A (d + 1) t) (I : mm_Ix s D ca z A t XS aa S H locs) : FrameBlind (va_Pc (as.map (mm_ad aa z)) (mm_Pc D ca z aa S H.size)) ∧ ∀ U : State, U.heap = H → s.WarmedH U.vm → va_Pc (as.map (mm_ad aa z)) (mm_Pc D ca z aa S H.size) (as.map (mm_ad aa z)).toArray U := by
  refine ⟨mm_blind, fun U hU hW => ⟨rfl, by rw [hU], by rw [hU]; exact I.1, va_K.moved hW.alike F.2.2.2.2.2.2.2.1, I.2.1.weaken (fun _ _ _ _ => trivial), ?_⟩⟩
  rw [hU]
  exact mm_Ev_warm hW (mm_Ev_kept (fun a h1 h2 => I.2.2.1.2.1 a h1 h2) (mm_free I.2.1 I.2.2.1 F.2.2.2.2.2.2.2.2.1) I.2.2.2.2.1)
theorem mm_cb_of (F : mm_Fx p R s m args meth c D ca A (d + 1) t) (hu : mm_okT u) {own : String} {index n : Nat} (hini : Cond.initialized u.1.cls ∈ mm_G) (hl : Cond.methodLink own index u.1 ∈ mm_G) (hds : (parseMethodDescriptor u.1.desc).map (fun d => d.parameters.length) = some n) : CallB R s args own index u.1 u.2.1 u.2.2.1 u.2.2.2.1 (.code u.1 u.2.1 u.2.2.1 u.2.2.2.1 :: mm_G) (mm_rm d mc ms) mc ms n := by
  have hts := F.2.2.2.2.1
  have h1 := F.2.2.2.2.2.2.2.2.2
  have h3 := hu.2.2.1
  refine callB_of n hts (mm_Ggood (ws := .code u.1 u.2.1 u.2.2.1 u.2.2.2.1 :: mm_G) ?_) rfl rfl rfl (hts _ hini) (hts _ hl) ⟨hu.2.2.2.2.2.1, hu.2.2.2.2.2.2, hds⟩ ⟨?_, ?_⟩
  · intro w hw
    rcases List.mem_cons.mp hw with rfl | hw
    · exact hu.1
    · exact hw
  · show d + 1 ≤ R.frames; exact h1.1
  · show 8 + (u.2.2.1 + 11) + 60 * d ≤ R.locals; omega
theorem mm_back (F : mm_Fx p R s m args meth c D ca A (d + 1) t) (hu : mm_okT u) (hini : Cond.initialized u.1.cls ∈ mm_G) (hM : Met l u.1 (.code u.1 u.2.1 u.2.2.1 u.2.2.2.1 :: mm_G) (mm_rm d mc ms) (va_Pc (as.map (mm_ad aa z)) (mm_Pc D ca z aa S H.size)) Qc mc ms free) : Back l R p e below s args u.1 3 8 (PreOf R mc ms (va_Pc (as.map (mm_ad aa z)) (mm_Pc D ca z aa S H.size))) (PostOf Qc mc ms free) := by
  have hts := F.2.2.2.2.1
  have h1 := F.2.2.2.2.2.2.2.2.2
  have h3 := hu.2.2.1
  have hg : ∀ w ∈ (Cond.code u.1 u.2.1 u.2.2.1 u.2.2.2.1 :: mm_G), w ∈ mm_G := by
    intro w hw
    rcases List.mem_cons.mp hw with rfl | hw
    · exact hu.1
    · exact hw
  exact back_of (bytes := u.2.1) (maxL := u.2.2.1) (ret := u.2.2.2.1) hM mm_blind rfl rfl (by show d + 1 ≤ R.frames; exact h1.1) (by show 8 + (u.2.2.1 + 11) + 60 * d ≤ R.locals; omega) (pay_in hts (mm_Ggood hg)) List.mem_cons_self (fun a' U hW => word_at hW (mm_Ggood hg _ (List.mem_cons_of_mem _ hini)).2 (hts _ hini))
theorem mm_ca_sp {i : Instr} (hi : mm_iv i = true) (hs : mm_st (d + 1) t pc ls st S i = some (.inr (.inl (y, as, st', S1)))) : S = S1 ∧ ((∀ v ∈ st, mm_vok S v) → (∀ v ∈ as, mm_vok S v) ∧ ∀ v ∈ st', mm_vok S v) := by
  have htake : ∀ n, (∀ v ∈ st, mm_vok S v) → (∀ v ∈ (st.take n).reverse, mm_vok S v) ∧ ∀ v ∈ st.drop n, mm_vok S v := fun n h => ⟨fun v hv => h v (List.mem_of_mem_take (List.mem_reverse.mp hv)), fun v hv => h v (List.mem_of_mem_drop hv)⟩
  cases i with
  | invokestatic k =>
    unfold mm_st at hs
    cases hv : mm_fd mm_AC t.2.2.2.2 k with
    | some q =>
      simp only [hv] at hs
      obtain ⟨_, _, _, _, hs⟩ := mm_i2_some hs
      obtain ⟨_, _, _, hs⟩ := mm_r1_some hs
      obtain ⟨_, _, _, hs⟩ := mm_i1_some hs
      obtain ⟨_, _, _, hs⟩ := mm_r1_some hs
      obtain ⟨_, hs⟩ := mm_gd_some hs
      split at hs
      · cases hs
      · split at hs
        · cases hs
        · cases hs
    | none =>
      simp only [hv] at hs
      cases hm : mm_fd mm_MX t.2.2.2.2 k with
      | some q =>
        simp only [hm] at hs
        obtain ⟨_, _, _, _, hs⟩ := mm_i2_some hs
        obtain ⟨_, hs⟩ := mm_gd_some hs
        cases hs
      | none =>
        simp only [hm] at hs
        cases hq : mm_fd mm_ST t.2.2.2.2 k with
        | none => simp only [hq] at hs; cases hs
        | some q =>
          simp only [hq] at hs
          obtain ⟨_, hs⟩ := mm_gd_some hs
          obtain ⟨rfl, rfl, rfl, rfl⟩ := mm_ca_inv hs
          exact ⟨rfl, htake _⟩
  | invokevirtual k =>
    unfold mm_st at hs
    cases hq : mm_fd mm_VT t.2.2.2.2 k with
    | none => simp only [hq] at hs; cases hs
    | some q =>
      simp only [hq] at hs
      obtain ⟨_, hs⟩ := mm_gd_some hs
      obtain ⟨a, r, hdr, hs⟩ := mm_r1_some hs
      obtain ⟨_, hs⟩ := mm_gd_some hs
      cases hy : mm_lu q.2 (mm_rk S a) with
      | none => simp only [hy] at hs; cases hs
      | some w =>
        simp only [hy] at hs
        obtain ⟨rfl, rfl, rfl, rfl⟩ := mm_ca_inv hs
        refine ⟨rfl, fun h => ?_⟩
        obtain ⟨h1, h2⟩ := htake q.1 h
        rw [hdr] at h2
        exact ⟨mm_p1 (h2 _ List.mem_cons_self) h1, mm_t1 h2⟩
  | invokespecial k =>
    unfold mm_st at hs
    cases hv : mm_fd mm_OI t.2.2.2.2 k with
    | some q =>
      simp only [hv] at hs
      obtain ⟨_, _, _, hs⟩ := mm_r1_some hs
      obtain ⟨_, hs⟩ := mm_gd_some hs
      cases hs
    | none =>
      simp only [hv] at hs
      cases hq : mm_fd mm_SP t.2.2.2.2 k with
      | none => simp only [hq] at hs; cases hs
      | some q =>
        simp only [hq] at hs
        obtain ⟨_, hs⟩ := mm_gd_some hs
        obtain ⟨a, r, hdr, hs⟩ := mm_r1_some hs
        obtain ⟨_, hs⟩ := mm_gd_some hs
        obtain ⟨rfl, rfl, rfl, rfl⟩ := mm_ca_inv hs
        refine ⟨rfl, fun h => ?_⟩
        obtain ⟨h1, h2⟩ := htake q.1 h
        rw [hdr] at h2
        exact ⟨mm_p1 (h2 _ List.mem_cons_self) h1, mm_t1 h2⟩
  | _ => cases hi
theorem mm_lu_mem : ∀ {l : List (Nat × Nat)} {k y : Nat}, mm_lu l k = some y → (k, y) ∈ l
  | [], k, y, h => by simp [mm_lu] at h
  | q :: l, k, y, h => by
    unfold mm_lu at h
    split at h
    · rename_i hc
      obtain ⟨a, b⟩ := q
      simp only [beq_iff_eq] at hc
      cases h
      rw [← hc]; exact List.mem_cons_self
    · exact List.mem_cons_of_mem _ (mm_lu_mem h)
/-- the receiver's class -/
theorem mm_rcv (F : mm_Fx p R s m args meth c D ca A (d + 1) t) (I : mm_Ix s D ca z A t XS aa S H locs) {a k : Nat} (hk : mm_rk S a = k) (h : k < 13 ∨ k = 100) : ∃ cellB : Cell, H[aa a]? = some cellB ∧ cellB.vm.isStatics = false ∧ s.vm.findClass (mm_ck k) = some cellB.cls := by
  unfold mm_rk at hk
  split at hk
  · rename_i ha
    split at hk
    · rename_i h13
      subst hk
      have hcell := mm_ws_get (ca := ca) (aa := aa) ha
      rw [mm_ce1_obj h13] at hcell
      exact va_recv F.2.2.2.2.2.2.2.1 I.1 (mm_cls_get _ h13) hcell
    · omega
  · split at hk
    · rename_i hS
      subst hk
      obtain ⟨k, hk, rfl⟩ := mm_isS_sp hS
      exact vk_recv (adK := fun k => aa (1000000 + 2 * k)) (i := k) I.2.2.2.2.1.1 hk I.2.2.1
    · omega
theorem mm_ca_run {i : Instr} {len : Nat} (hi : mm_iv i = true) (F : mm_Fx p R s m args meth c D ca A (d + 1) t) (I : mm_Ix s D ca z A t XS aa S H locs) (hlm : lm.size = t.2.2.1) (hd : decode t.2.1 pc = .ok (i, len)) (hl : mm_lk i len = true) (hs : mm_st (d + 1) t pc ls st S i = some (.inr (.inl (y, as, st', S1)))) (hu : mm_mc[y]? = some u) (hM : Met l u.1 (.code u.1 u.2.1 u.2.2.1 u.2.2.2.1 :: mm_G) (mm_rm d mc ms) (va_Pc (as.map (mm_ad aa z)) (mm_Pc D ca z aa S H.size)) Qc mc ms free) (hf : cells + mc ≤ R.cells ∧ slots + ms ≤ R.slots) : va_Run p l e R s m args below meth c H locs cells slots mc ms (F0 m pc lm (st.map (mm_ad aa z))) (st'.map (mm_ad aa z)) (Qc (as.map (mm_ad aa z)).toArray) free := by
  have hok := mm_mc_ok u (List.mem_of_getElem? hu)
  have hzc : z.category = 1 := I.2.2.2.2.1.2.2.2.2.1
  have hpre := mm_preS (as := as) F I
  obtain ⟨hx, hb, hml, hown, hts, hnm, hcn, hK, hA, hdf, hdl⟩ := id F
  have hfix : CallFix p m c t.2.1 t.2.2.1 s args mm_G (mm_cn t.2.2.2.2) := ⟨hx, hb, hml, hown, hts⟩
  have hW : ∀ {r : List Value}, mm_cs r ≤ 8 → 2 * (F0 m pc lm (st.map (mm_ad aa z))).monitorRoom + ((r.map (mm_ad aa z)).map fun v => v.category).sum ≤ 8 := fun {r} h => lv_room (m := m) (pc := pc) (ls := lm) (rest := st.map (mm_ad aa z)) (st := r.map (mm_ad aa z)) (by rw [mm_cs_map hzc]; exact h)
  have hsplit : ∀ n, st.map (mm_ad aa z) = ((st.take n).reverse.map (mm_ad aa z)).reverse ++ (st.drop n).map (mm_ad aa z) := fun n => by
    rw [← List.map_reverse, ← List.map_append, mm_td]
  cases i with
  | invokestatic k =>
    obtain rfl : len = 3 := mm_lk_eq hl rfl (by decide)
    unfold mm_st at hs
    cases hv : mm_fd mm_AC t.2.2.2.2 k with
    | some q =>
      simp only [hv] at hs
      obtain ⟨_, _, _, _, hs⟩ := mm_i2_some hs
      obtain ⟨_, _, _, hs⟩ := mm_r1_some hs
      obtain ⟨_, _, _, hs⟩ := mm_i1_some hs
      obtain ⟨_, _, _, hs⟩ := mm_r1_some hs
      obtain ⟨_, hs⟩ := mm_gd_some hs
      split at hs
      · cases hs
      · split at hs
        · cases hs
        · cases hs
    | none =>
      simp only [hv] at hs
      cases hm : mm_fd mm_MX t.2.2.2.2 k with
      | some q =>
        simp only [hm] at hs
        obtain ⟨_, _, _, _, hs⟩ := mm_i2_some hs
        obtain ⟨_, hs⟩ := mm_gd_some hs
        cases hs
      | none =>
        simp only [hm] at hs
        cases hq : mm_fd mm_ST t.2.2.2.2 k with
        | none => simp only [hq] at hs; cases hs
        | some q =>
          obtain ⟨na, z0⟩ := q
          simp only [hq] at hs
          obtain ⟨hg, hs⟩ := mm_gd_some hs
          rw [Bool.and_eq_true, decide_eq_true_eq, decide_eq_true_eq] at hg
          obtain ⟨rfl, rfl, rfl, rfl⟩ := mm_ca_inv hs
          obtain ⟨t0, x, w1, w2, w3, w4, w5, w6⟩ := mm_ST_ok _ (mm_fd_mem hq)
          simp only at w1 w2 w3 w4 w5
          cases w1.symm.trans hu
          have hn : ((st.take na).reverse.map (mm_ad aa z)).length = na := by simp; omega
          rcases w6 with rfl | ⟨w6, w7⟩
          · exact va_runS hfix hM ⟨mm_cb_of F hok w4 w2 w5, hts _ w3⟩ hpre rfl hn hlm (hsplit na) (hW hg.2) hd hf
          · intro T hT X
            have hBk : Back l R p e below s args u.1 3 8 (PreOf R mc ms (va_Pc ((st.take na).reverse.map (mm_ad aa z)) (mm_Pc D ca z aa S H.size))) (PostOf Qc mc ms free) := mm_back F hok w4 hM
            have hst : (Cond.static ⟨u.1.cls, x.name, x.desc⟩).before args s = true := by rw [← w7]; exact hts _ w3
            rw [w7] at hBk
            obtain ⟨mk, hnamed⟩ := Cond.code_named (hts _ hok.1)
            obtain ⟨methM, cM, hmethM, -, -, -, -, -, -, hsigM⟩ := Cond.code_spec hnamed (hts _ hok.1)
            have hnamed2 : s.methodNamed? ⟨u.1.cls, x.name, x.desc⟩ = some mk := by rw [← w7]; exact hnamed
            have hsig2 : parseMethodDescriptor x.desc = some methM.sig := by
              rw [w7] at hsigM
              exact hsigM
            have hlen : ∀ sig, parseMethodDescriptor x.desc = some sig → ((st.take na).reverse.map (mm_ad aa z)).length = sig.parameters.length := by
              intro sig h
              rw [h] at w5
              rw [hn]
              exact (Option.some.inj w5).symm
            obtain ⟨kP, hkP, -⟩ := className_of_methodNamed hnamed
            have hinitP : kP.init = .initialized := Cond.initialized_spec (findClass_of_methodNamed hnamed) hkP (hts _ w4)
            obtain ⟨vm₁, X₁, hstep₁⟩ := Stand.invokestaticUp X hx hown (hts _ w2) (hts _ w6) hok.2.2.2.2.2 hnamed2 hmethM (Cond.static_spec hnamed2 hmethM hst) hkP hinitP (g := F0 m pc lm (st.map (mm_ad aa z))) rfl (argsL := (st.take na).reverse.map (mm_ad aa z)) (rest := (st.drop na).map (mm_ad aa z)) (hlen _ hsig2) (hsplit na) (by rw [hb]; exact hd)
            obtain ⟨v, ⟨U', l2, c2, s2⟩, X', ⟨g', mk', t', L, e1, e2, hq', h1, hL, h2, h3⟩, hsteps⟩ := hBk m meth c ⟨T.setVm vm₁, locs, cells, slots⟩ { F0 m pc lm (st.map (mm_ad aa z)) with stack := (st.drop na).map (mm_ad aa z) } (.invokestatic k) mk ((st.take na).reverse.map (mm_ad aa z)).toArray X₁ rfl (by rw [hml]; exact hlm) (by rw [hb]; exact hd) (hW hg.2) (X₁.named hnamed2) ⟨hf.1, hf.2, hpre.2 (T.setVm vm₁) hT X₁.warmed⟩
            dsimp only [Pt.U, Pt.locs, Pt.cells, Pt.slots] at X' e1 e2 h1 h2 h3 hsteps
            subst h1; subst h2; subst h3
            exact ⟨v, (T.setVm vm₁).calling g' mk' ((st.take na).reverse.map (mm_ad aa z)).toArray, t', U', L, hT, X', hL, e1, e2, hq', fun target h => hstep₁ _ fun acts => by rw [doInvoke_state]; exact hsteps.trans h⟩
  | invokevirtual k =>
    obtain rfl : len = 3 := mm_lk_eq hl rfl (by decide)
    unfold mm_st at hs
    cases hq : mm_fd mm_VT t.2.2.2.2 k with
    | none => simp only [hq] at hs; cases hs
    | some q =>
      obtain ⟨na, lst⟩ := q
      simp only [hq] at hs
      obtain ⟨hna, hs⟩ := mm_gd_some hs
      have hna := of_decide_eq_true hna
      obtain ⟨a, r, hdr, hs⟩ := mm_r1_some hs
      obtain ⟨hcs, hs⟩ := mm_gd_some hs
      have hcs := of_decide_eq_true hcs
      cases hy : mm_lu lst (mm_rk S a) with
      | none => simp only [hy] at hs; cases hs
      | some w =>
        simp only [hy] at hs
        obtain ⟨rfl, rfl, rfl, rfl⟩ := mm_ca_inv hs
        obtain ⟨t0, x, owner, w1, w2, w3, w4, w5, w6, w7, w8, w9⟩ := mm_VT_ok _ (mm_fd_mem hq) _ (mm_lu_mem hy)
        simp only at w1 w2 w3 w4 w5 w6 w8
        cases w1.symm.trans hu
        have hrc := mm_rcv F I rfl w8
        have hn : ((st.take na).reverse.map (mm_ad aa z)).length = na := by simp; omega
        have hstk : st.map (mm_ad aa z) = ((st.take na).reverse.map (mm_ad aa z)).reverse ++ .ref (aa a) :: r.map (mm_ad aa z) := by
          rw [hsplit na, hdr, List.map_cons, mm_ad_ref]
        have has : (Value.ref a :: (st.take na).reverse).map (mm_ad aa z) = .ref (aa a) :: (st.take na).reverse.map (mm_ad aa z) := by rw [List.map_cons, mm_ad_ref]
        rw [has] at hM hpre ⊢
        have hpv : PreV s H (mm_ck (mm_rk S a)) (aa a) (va_Pc (.ref (aa a) :: (st.take na).reverse.map (mm_ad aa z)) (mm_Pc D ca z aa S H.size)) ((st.take na).reverse.map (mm_ad aa z)) := ⟨hpre.1, hrc, hpre.2⟩
        rcases w9 with rfl | ⟨w9, z0, b0, m0, r0, w10, w11, w12⟩
        · exact va_runV hfix hM ⟨mm_cb_of F hok w3 w2 w6, hts _ w4, hts _ w5⟩ hpv rfl hn hlm hstk (hW hcs) hd hf
        · have hlen : ∀ sig, parseMethodDescriptor x.desc = some sig → na = sig.parameters.length := by
            intro sig h
            rw [h] at w6
            exact (Option.some.inj w6).symm
          have hg : ∀ w ∈ (Cond.code u.1 u.2.1 u.2.2.1 u.2.2.2.1 :: mm_G), w ∈ mm_G := by
            intro w hw
            rcases List.mem_cons.mp hw with rfl | hw
            · exact hok.1
            · exact hw
          have hroom := hok.2.2.1
          refine va_runU (owner := owner) hfix hM ⟨⟨rfl, rfl, by show d + 1 ≤ R.frames; exact hdf, by show 8 + (u.2.2.1 + 11) + 60 * d ≤ R.locals; omega, pay_in hts (mm_Ggood hg), List.mem_cons_self⟩, hts _ hok.1, hts _ w3, w7, hlen, hts _ w2, hts _ w9, ?_, hts _ w5, hts _ w4⟩ hpv rfl hn hlm hstk (hW hcs) hd hf
          rw [← w10]
          exact va_Decl.of (hts _ w11) (hts _ w12)
  | invokespecial k =>
    obtain rfl : len = 3 := mm_lk_eq hl rfl (by decide)
    unfold mm_st at hs
    cases hv : mm_fd mm_OI t.2.2.2.2 k with
    | some q =>
      simp only [hv] at hs
      obtain ⟨_, _, _, hs⟩ := mm_r1_some hs
      obtain ⟨_, hs⟩ := mm_gd_some hs
      cases hs
    | none =>
      simp only [hv] at hs
      cases hq : mm_fd mm_SP t.2.2.2.2 k with
      | none => simp only [hq] at hs; cases hs
      | some q =>
        obtain ⟨na, z0, srt⟩ := q
        simp only [hq] at hs
        obtain ⟨hna, hs⟩ := mm_gd_some hs
        have hna := of_decide_eq_true hna
        obtain ⟨a, r, hdr, hs⟩ := mm_r1_some hs
        obtain ⟨hcs, hs⟩ := mm_gd_some hs
        simp only [Bool.and_eq_true, decide_eq_true_eq] at hcs
        obtain ⟨⟨hcs, han⟩, h13⟩ := hcs
        obtain ⟨rfl, rfl, rfl, rfl⟩ := mm_ca_inv hs
        obtain ⟨t0, x, w1, w2, w3, w4, w5⟩ := mm_SP_ok _ (mm_fd_mem hq)
        simp only at w1 w2 w3 w4 w5
        cases w1.symm.trans hu
        have hn : ((st.take na).reverse.map (mm_ad aa z)).length = na := by simp; omega
        have hstk : st.map (mm_ad aa z) = ((st.take na).reverse.map (mm_ad aa z)).reverse ++ .ref (aa a) :: r.map (mm_ad aa z) := by
          rw [hsplit na, hdr, List.map_cons, mm_ad_ref]
        have has : (Value.ref a :: (st.take na).reverse).map (mm_ad aa z) = .ref (aa a) :: (st.take na).reverse.map (mm_ad aa z) := by rw [List.map_cons, mm_ad_ref]
        have hM0 := hM
        rw [has] at hM hpre ⊢
        have hroom := hok.2.2.1
        have hg : ∀ w ∈ (Cond.code u.1 u.2.1 u.2.2.1 u.2.2.2.1 :: mm_G), w ∈ mm_G := by
          intro w hw
          rcases List.mem_cons.mp hw with rfl | hw
          · exact hok.1
          · exact hw
        rcases w5 with ⟨-, g1, g2, rfl, g3⟩ | ⟨-, g1, g2, g3, g4, g5, g6⟩ | ⟨-, g1, g2, rfl, host, g3⟩
        · have hcb := mm_cb_of (mc := mc) (ms := ms) F hok w3 g3 w4
          rw [g2] at hM hcb
          exact va_runI hfix hM ⟨hcb, g1, hts _ w2⟩ hpre rfl hn hlm hstk (hW hcs) hd hf
        · intro T hT X
          have hBk : Back l R p e below s args u.1 3 8 (PreOf R mc ms (va_Pc ((Value.ref a :: (st.take na).reverse).map (mm_ad aa z)) (mm_Pc D ca z aa S H.size))) (PostOf Qc mc ms free) := mm_back F hok w3 hM0
          rw [has] at hBk
          have hcell := mm_ws_get (ca := ca) (aa := aa) han
          rw [mm_ce1_obj h13] at hcell
          obtain ⟨cellB, hcB, hoB, hclB⟩ := va_recv hK I.1 (mm_cls_get _ h13) hcell
          obtain ⟨hfc, kB, hkB, -⟩ := (hK.1 (mm_K S a) _ (mm_cls_get _ h13)).2
          have hcc := Option.some.inj (hfc.symm.trans hclB)
          rw [hcc] at hkB
          have hlen : ∀ sig, parseMethodDescriptor x.desc = some sig → ((st.take na).reverse.map (mm_ad aa z)).length = sig.parameters.length := by
            intro sig h
            rw [h] at w4
            rw [hn]
            exact (Option.some.inj w4).symm
          obtain ⟨v, vm₁, ⟨U', l2, c2, s2⟩, hW₁, X', ⟨g', mk, t', L, e1, e2, hq', h1, hL, h2, h3⟩, hst⟩ := mm_callSU X hx hown (hts _ g3) (hts _ g4) (hts _ g5) (g6.imp id (hts _)) g2 (hts _ w2) (hts _ hok.1) g1 hBk (by rw [hT]; exact hcB) hoB hkB (g := F0 m pc lm (st.map (mm_ad aa z))) rfl (by rw [hml]; exact hlm) (argsL := (st.take na).reverse.map (mm_ad aa z)) (rest := r.map (mm_ad aa z)) hlen hstk (hW hcs) (by rw [hb]; exact hd) (fun vm₁ hW₁ => ⟨hf.1, hf.2, hpre.2 (T.setVm vm₁) hT hW₁⟩)
          dsimp only [Pt.U, Pt.locs, Pt.cells, Pt.slots] at X' e1 e2 h1 h2 h3 hst
          subst h1; subst h2; subst h3
          exact ⟨v, (T.setVm vm₁).calling g' mk (.ref (aa a) :: (st.take na).reverse.map (mm_ad aa z)).toArray, t', U', L, hT, X', hL, e1, e2, hq', hst⟩
        · have hl3 := I.2.2.2.2.1.2.2.2.2.2.2.2.2 _ g3
          have hlen : (parseMethodDescriptor u.1.desc).map (fun d => d.parameters.length) = some na := w4
          have hcb := va_cnB (R := R) (own := mm_cn t.2.2.2.2) (host := host) (index := k) (bytes := u.2.1) (maxL := u.2.2.1) (ret := u.2.2.2.1) (rm := mm_rm d mc ms) (mc := mc) (ms := ms) na hts (mm_Ggood hg) rfl rfl rfl hl3 (hts _ w3) ⟨hok.2.2.2.2.2.1, hok.2.2.2.2.2.2, hlen⟩ ⟨by show d + 1 ≤ R.frames; exact hdf, by show 8 + (u.2.2.1 + 11) + 60 * d ≤ R.locals; omega⟩
          rw [g2] at hM hcb
          exact va_runIN hfix hM ⟨hcb, g1, hts _ w2⟩ hpre rfl hn hlm hstk (hW hcs) hd hf
  | _ => cases hi
end MMD
theorem mm_frame : ∀ f, mm_Fm f := by
  intro f
  induction f with
  | zero => intro p l e R s m args below meth c Q D ca z A t XS d y pc ls st S v S' aa H locs lm cells slots ht h; cases h
  | succ f ih =>
    intro p l e R s m args below meth c Q D ca z A t XS d y pc ls st S v S' aa H locs lm cells slots ht h F I X hc hz hret
    have h0 := h
    unfold mm_run at h
    simp only [ht] at h
    cases hd : decode t.2.1 pc with
    | error x => rw [hd] at h; cases h
    | ok il =>
      obtain ⟨i, len⟩ := il
      simp only [hd] at h
      by_cases hl : (mm_lk i len && mm_mo i S (mm_st d t pc ls st S i)) = true
      · simp only [if_pos hl] at h
        rw [Bool.and_eq_true] at hl
        obtain ⟨hl, hm⟩ := hl
        cases ha : mm_st d t pc ls st S i with
        | none => rw [ha] at h; cases h
        | some B =>
          rw [ha] at hm
          rcases B with q | q | q
          · simp only [ha] at h
            obtain ⟨pc1, ls1, st1, S1⟩ := q
            simp only [mm_mo, Bool.and_eq_true, decide_eq_true_eq] at hm
            have hmono := mm_run_mono _ _ _ _ _ _ _ _ _ h
            simp only at hmono hm h
            refine mm_ok_all i p l e R s m args below meth c Q D ca z A t XS d pc len ls st S pc1 ls1 st1 S1 aa H locs lm cells slots F I X hd hl ha (by omega) (by omega) ?_
            intro aa1 H1 locs1 lm1 cells1 slots1 g1 g2 g3 I1 X1
            refine ih p l e R s m args below meth c Q D ca z A t XS d y pc1 ls1 st1 S1 v S' aa1 H1 locs1 lm1 cells1 slots1 ht h F I1 X1 (by omega) (by omega) ?_
            intro pc2 aa2 H2 locs2 lm2 cells2 slots2 k1 k2 k3 k4 k5 k6
            exact hret pc2 aa2 H2 locs2 lm2 cells2 slots2 (by omega) (by omega) (fun j hj => (k3 j (by omega)).trans (g3 j hj)) k4 k5 k6
          · simp only [ha] at h
            obtain ⟨y1, as, st1, S1⟩ := q
            simp only [mm_mo, Bool.and_eq_true, decide_eq_true_eq] at hm
            cases d with
            | zero => cases h
            | succ d =>
              simp only at h
              by_cases hq : y1 < mm_nc
              · simp only [if_pos hq] at h
                cases hu : mm_mt[y1]? with
                | none => rw [hu] at h; cases h
                | some u =>
                  simp only [hu] at h
                  by_cases hf : (mm_as as).length ≤ u.2.2.1
                  · simp only [if_pos hf] at h
                    cases hr : mm_run f d y1 0 (mm_en u.2.2.1 as) [] S1 with
                    | none => rw [hr] at h; cases h
                    | some w =>
                      rw [hr] at h
                      obtain ⟨v1, S2⟩ := w
                      simp only at h
                      have hu2 : mm_mc[y1]? = some u := by
                        have e1 : mm_mt[y1]? = mm_mc[y1]? := by
                          unfold mm_mt
                          rw [List.getElem?_append_left (by rw [mm_mc_len]; exact hq)]
                        rw [← e1]; exact hu
                      obtain ⟨rfl, hvk⟩ := mm_ca_sp hm.2 ha
                      obtain ⟨hv1, hv2⟩ := hvk X.2.1
                      have hmono1 := mm_run_mono _ _ _ _ _ _ _ _ _ hr
                      have hmono2 := mm_run_mono _ _ _ _ _ _ _ _ _ h
                      have hM := mm_met ih hu2 hf hr l D ca z aa XS H.size I.2.2.2.1 hv1 I.2.2.2.2.2.1 I.2.2.2.2.2.2.1
                      have hrun := mm_ca_run (e := e) (below := below) (cells := cells) (slots := slots) hm.2 F I (mm_lmsz X.2.2) hd hl ha hu2 hM ⟨by omega, by omega⟩
                      refine mm_callg hrun I.2.2.1 (mm_free I.2.1 I.2.2.1 F.2.2.2.2.2.2.2.2.1) ?_
                      intro aa1 H1 locs1 g1 g2 g3 g4 g5 g6 g7 g8
                      have hvS : ∀ w, mm_vok S w → mm_vok S2 w := by
                        intro w hw
                        cases w <;> try exact trivial
                        rcases hw with hw | hw
                        · exact Or.inl (Nat.lt_of_lt_of_le hw hmono1.1)
                        · exact Or.inr hw
                      have I1 : mm_Ix s D ca z A t XS aa1 S2 H1 locs1 := ⟨g2, g3, g8, g4, mm_Ev_aa (fun j hj => g1 j (Or.inr hj)) I.2.2.2.2.1, g5, g6, fun hh => by
                        rw [g1 mm_SC (Or.inr (by decide))]
                        exact I.2.2.2.2.2.2.2 hh⟩
                      have X1 : mm_Sx aa1 z S2 t ls lm (v1.toList ++ st1) := ⟨fun w hw => hvS w (X.1 w hw), fun w hw => by
                        rcases List.mem_append.mp hw with hw | hw
                        · exact g7 w hw
                        · exact hvS w (hv2 w hw), mm_Lr_aa X.2.2 X.1 g1⟩
                      have K1 := ih p l e R s m args below meth c Q D ca z A t XS (d + 1) y (pc + 3) ls (v1.toList ++ st1) S2 v S' aa1 H1 locs1 lm (cells + (mm_n S2 - mm_n S)) (slots + (mm_z S2 - mm_z S)) ht h F I1 X1 (by omega) (by omega) (fun pc2 aa2 H2 locs2 lm2 cells2 slots2 k1 k2 k3 k4 k5 k6 => hret pc2 aa2 H2 locs2 lm2 cells2 slots2 (by omega) (by omega) (fun j hj => (k3 j (by omega)).trans (g1 j hj)) k4 k5 k6)
                      rw [List.map_append, mm_map_aa hv2 g1] at K1
                      exact K1
                  · rw [if_neg hf] at h; cases h
              · rw [if_neg hq] at h; cases h
          · simp only [ha] at h
            cases h
            simp only [mm_mo, Bool.and_eq_true, decide_eq_true_eq] at hm
            obtain ⟨-, hi⟩ := hm
            cases i with
            | ireturn =>
              obtain rfl : len = 1 := mm_lk_eq hl rfl (by decide)
              have ha : mm_ire st t.2.2.2.1 S = some _ := ha
              obtain ⟨x, ty, rfl, h2, h3, h4, h5⟩ := mm_ire_inv ha
              cases h5
              exact hret pc aa H locs lm cells slots rfl rfl (fun _ _ => rfl) ⟨hd, ty, h2, h3⟩ I (fun w hw => X.2.1 w hw)
            | lreturn =>
              obtain rfl : len = 1 := mm_lk_eq hl rfl (by decide)
              have ha : mm_lre st t.2.2.2.1 S = some _ := ha
              obtain ⟨x, rfl, h2, h5⟩ := mm_lre_inv ha
              cases h5
              exact hret pc aa H locs lm cells slots rfl rfl (fun _ _ => rfl) ⟨hd, h2⟩ I (fun w hw => X.2.1 w hw)
            | areturn =>
              obtain rfl : len = 1 := mm_lk_eq hl rfl (by decide)
              have ha : mm_are st t.2.2.2.1 S = some _ := ha
              obtain ⟨a, n, rfl, h2, h5⟩ := mm_are_inv ha
              cases h5
              exact hret pc aa H locs lm cells slots rfl rfl (fun _ _ => rfl) ⟨hd, n, h2⟩ I (fun w hw => X.2.1 w hw)
            | return_ =>
              obtain rfl : len = 1 := mm_lk_eq hl rfl (by decide)
              have ha : mm_vre st t.2.2.2.1 S = some _ := ha
              obtain ⟨rfl, h2, h5⟩ := mm_vre_inv ha
              cases h5
              exact hret pc aa H locs lm cells slots rfl rfl (fun _ _ => rfl) ⟨hd, h2⟩ I (fun w hw => X.2.1 w hw)
            | _ => cases hi
      · rw [if_neg hl] at h; cases h
