/-! ===== calls: what they leave; numbers in a range ===== -/
def gc_0 (c _j : Nat) : Prop := c < 92 ∨ 137 ≤ c
def gm_0 (c _j : Nat) : Prop := 92 ≤ c ∧ c < 137
theorem kw_d {n m : Nat} (hm : m = n + 1) (hn : n < 2 ^ 30) (x : Int32) : (ab_kw m x = none ∧ (x < nI 0) = True ∧ (nI 0 ≤ x) = False ∧ (nI n < x) = False ∧ (x ≤ nI n) = True ∧ (nI m ≤ x) = False ∧ (x < nI m) = True) ∨ (ab_kw m x = none ∧ (x < nI 0) = False ∧ (nI 0 ≤ x) = True ∧ (nI n < x) = True ∧ (x ≤ nI n) = False ∧ (nI m ≤ x) = True ∧ (x < nI m) = False) ∨ ∃ j, j < m ∧ ab_kw m x = some j ∧ x = nI j ∧ (nI j < nI 0) = False ∧ (nI 0 ≤ nI j) = True ∧ (nI n < nI j) = False ∧ (nI j ≤ nI n) = True ∧ (nI m ≤ nI j) = False ∧ (nI j < nI m) = True := by
  subst hm
  have t0 : (nI 0).toInt = 0 := nI_toInt (by decide)
  have tn : (nI n).toInt = (n : Int) := nI_toInt (by omega)
  have tm : (nI (n + 1)).toInt = ((n + 1 : Nat) : Int) := nI_toInt (by omega)
  unfold ab_kw
  simp only [Int32.lt_iff_toInt_lt, Int32.le_iff_toInt_le, t0, tn, tm]
  by_cases h1 : x.toInt < 0
  · refine Or.inl ⟨if_pos (Or.inl h1), eq_true h1, eq_false (by omega), eq_false (by omega), eq_true (by omega), eq_false (by omega), eq_true (by omega)⟩
  · by_cases h2 : (n : Int) < x.toInt
    · refine Or.inr (Or.inl ⟨if_pos (Or.inr (by omega)), eq_false h1, eq_true (by omega), eq_true h2, eq_false (by omega), eq_true (by omega), eq_false (by omega)⟩)
    · have e : x = nI x.toInt.toNat := by
        rw [← Int32.toInt_inj, nI_toInt (by omega)]
        omega
      have tj : (nI x.toInt.toNat).toInt = (x.toInt.toNat : Int) := nI_toInt (by omega)
      refine Or.inr (Or.inr ⟨x.toInt.toNat, by omega, ?_, e, ?_⟩)
      · rw [if_neg (by omega)]; rfl
      · rw [tj]
        exact ⟨eq_false (by omega), eq_true (by omega), eq_false (by omega), eq_true (by omega), eq_false (by omega), eq_true (by omega)⟩
section RD
variable {F H : Nat → Nat → Prop} {S T : mm_S} {c j a k : Nat} {x : Int32}
theorem rdn (h : ¬ (a = c ∧ k = j)) : mm_M (mm_uM S c j x) a k = mm_M S a k := hp_MuM.trans (if_neg h)
theorem rds : mm_M (mm_uM S c j x) c j = x := hp_MuM.trans (if_pos ⟨rfl, rfl⟩)
theorem rdk : mm_M (mm_uM S c j x) c k = if k = j then x else mm_M S c k := by
  rw [hp_MuM]
  by_cases h : k = j
  · rw [if_pos ⟨rfl, h⟩, if_pos h]
  · rw [if_neg (fun e => h e.2), if_neg h]
theorem wu (hw : mm_W S) : mm_W (mm_uM S c j x) := hw
theorem wl {y : Int64} (hw : mm_W S) : mm_W (mm_uL S c j y) := hw
end RD
/-- the day now alone -/
def gc_6 (c _j : Nat) : Prop := 6 ≤ c ∧ c ≤ 14
/-- size and number of cells -/
def sz_e (S T : mm_S) : Prop := mm_n T ≤ mm_n S + 1 ∧ mm_z T ≤ mm_z S + 4
def oC (S : mm_S) (d y : Nat) (as : List Value) (v : Value) (G : gb_G) : Prop := ∃ T, mm_cl d y as S = some (some v, T) ∧ RC T G ∧ sf_f gc_0 S T ∧ sz_e S T
section GN
variable {F : Nat → Nat → Prop} {S T : mm_S} {G : gb_G} {d y : Nat} {as : List Value} {v : Value} {X : gb_X}
theorem sz_s (h1 : mm_n T = mm_n S) (h2 : mm_z T = mm_z S) : sz_e S T := ⟨by omega, by omega⟩
theorem sz_cd {a : Nat} (h : cd_fr a S T) : sz_e S T := sz_s (fr_n h) (fr_z h)
theorem g6_o : sf_o gc_6 S := by
  refine ⟨fun c j hc _ => ?_, fun s m j hs hm => ?_⟩
  · unfold gc_6; omega
  · unfold gc_6; unfold mm_sh at hs; omega
theorem g6_0 (h : sf_f gc_6 S T) : sf_f gc_0 S T := sf_mo h (fun c j h => by unfold gc_6 at h; unfold gc_0; omega)
theorem gF_0 (h : sf_f gc_F S T) : sf_f gc_0 S T := sf_mo h (fun c j h => by unfold gc_F at h; unfold gc_0; omega)
/-- the day now, and cells that are new -/
def gc_6n (n c _j : Nat) : Prop := (6 ≤ c ∧ c ≤ 14) ∨ n ≤ c
theorem g6n_o (hw : mm_W S) : sf_o (gc_6n (mm_n S)) S := by
  have := hw.1
  refine ⟨fun c j hc _ => ?_, fun s m j hs hm => ?_⟩
  · unfold gc_6n; omega
  · unfold gc_6n; unfold mm_sh at hs; omega
theorem RC_6n (ok : gb_ok G) (h : sf_f (gc_6n (mm_n S)) S T) (hw : mm_W T) (hR : RC S G) (hX : gc_X T 6 X) (hq : gc_q T 6) : RC T (X, G.2) := by
  have g6n := g6n_o hR.1
  obtain ⟨⟨hn, -⟩, h1, h2, h3, h4, h5, h6, h7, h8⟩ := hR
  refine ⟨hw, hX, hq, tr_q h (fun j => ?_) ?_ h3, tr_i h g6n ?_ (fun c j a b => ?_) h4, tr_s ok.2.2.1 h g6n ?_ h5, tr_t h ?_ (fun j => ?_) h6, tr_p h (fun c j a b => ?_) h7, tr_r h (fun j => ?_) h8⟩ <;> (unfold gc_6n; omega)
theorem RC_6 (ok : gb_ok G) (h : sf_f gc_6 S T) (hw : mm_W T) (hR : RC S G) (hX : gc_X T 6 X) (hq : gc_q T 6) : RC T (X, G.2) := by
  obtain ⟨-, h1, h2, h3, h4, h5, h6, h7, h8⟩ := hR
  refine ⟨hw, hX, hq, tr_q h (fun j => ?_) ?_ h3, tr_i h g6_o ?_ (fun c j a b => ?_) h4, tr_s ok.2.2.1 h g6_o ?_ h5, tr_t h ?_ (fun j => ?_) h6, tr_p h (fun c j a b => ?_) h7, tr_r h (fun j => ?_) h8⟩ <;> (unfold gc_6; omega)
theorem oC_id (hR : RC S G) (h : mm_cl d y as S = some (some v, S)) : oC S d y as v G := ⟨S, h, hR, sf_rf, sz_s rfl rfl⟩
theorem oC_F (ok : gb_ok G) (hR : RC S G) (h : mm_cl d y as S = some (some v, T)) (hf : sf_f gc_F S T) (hw : mm_W T) (hz : sz_e S T) : oC S d y as v G := ⟨T, h, RC_q ok hf hw hR, gF_0 hf, hz⟩
theorem oC_6 (ok : gb_ok G) (hR : RC S G) (h : mm_cl d y as S = some (some v, T)) (hf : sf_f gc_6 S T) (hw : mm_W T) (hX : gc_X T 6 X) (hq : gc_q T 6) (hz : sz_e S T) : oC S d y as v (X, G.2) := ⟨T, h, RC_6 ok hf hw hR hX hq, g6_0 hf, hz⟩
end GN
/-! ===== parts of all that an object is, changed ===== -/
def gP_fr (P : ab_P) (b : Nat) (o : Option Nat) : ab_P := (P.1, P.2.1, P.2.2.1, P.2.2.2.1, ab_up1 P.2.2.2.2.1 b o, P.2.2.2.2.2)
def gP_te (P : ab_P) (i n : Nat) : ab_P := (P.1, P.2.1, P.2.2.1, P.2.2.2.1, P.2.2.2.2.1, ab_up1 P.2.2.2.2.2.1 i n, P.2.2.2.2.2.2)
def gD_row (D : ab_D) (r : List Nat) : ab_D := (r, D.2)
def gD_pr (D : ab_D) (n : Nat) : ab_D := (D.1, D.2.1, D.2.2.1, n, D.2.2.2.2)
def gD_lo (D : ab_D) (n : Nat) : ab_D := (D.1, D.2.1, D.2.2.1, D.2.2.2.1, n, D.2.2.2.2.2)
def gX_P (X : gb_X) (P : ab_P) : gb_X := (P, X.2)
def gX_D (X : gb_X) (D : ab_D) : gb_X := (X.1, D, X.2.2)
def gX_s (X : gb_X) (s : Nat) : gb_X := (X.1, X.2.1, s, X.2.2.2)
def gX_f (X : gb_X) (f : List Nat) : gb_X := (X.1, X.2.1, X.2.2.1, f, X.2.2.2.2)
def gS_t (G : gb_G) (l : List Nat) : gb_G := (G.1, G.2.1, G.2.2.1, l, G.2.2.2.2)
def gS_p (G : gb_G) (f : Nat → Int32 × Nat × (Nat → Int64)) : gb_G := (G.1, G.2.1, G.2.2.1, G.2.2.2.1, f, G.2.2.2.2.2)
def gS_r (G : gb_G) (l : List Nat) : gb_G := (G.1, G.2.1, G.2.2.1, G.2.2.2.1, G.2.2.2.2.1, l)
/-- calls: the answer, and all that an object is then -/
def op_3 (G : gb_G) (x y : Int32) : Int32 × gb_G := match ab_kw (gK G) x with
  | none => (-1, G)
  | some b => if y = -1 then (md_fo (ab_fr (gP G) b), gX_P G.1 (gP_fr (gP G) b none), G.2) else match ab_kw (gK G) y with
    | none => (-1, G)
    | some o => if o = b then (-2, G) else (md_fo (ab_fr (gP G) b), gX_P G.1 (gP_fr (gP G) b (some o)), G.2)
def op_4 (G : gb_G) (x p n : Int32) : Int32 × gb_G := match ab_kw (gK G) x, ab_kw 3 p with
  | some b, some p => (match ab_kw 4 n with
    | none => (-2, G)
    | some n => if ab_ki (gP G) b = 6 then (nI (ab_te (gP G) (3 * b + p)), gX_P G.1 (gP_te (gP G) (3 * b + p) n), G.2) else (-3, G))
  | _, _ => (-1, G)
def op_5 (G : gb_G) (x : Int32) : Int32 × gb_G := match ab_kw (gK G) x with
  | none => (-1, G)
  | some b => if b ∈ ab_row (gD G) then (-3, G) else (nI (ab_row (gD G)).length, gX_D G.1 (gD_row (gD G) (ab_row (gD G) ++ [b])), G.2)
def op_6 (G : gb_G) (w n : Int32) : Int32 × gb_G :=
  if w = nI 0 then (match ab_kw 1000 n with
    | none => (-2, G)
    | some n => (nI (ab_pr (gD G)), gX_D G.1 (gD_pr (gD G) n), G.2))
  else if w = nI 1 then (match ab_kw 10 n with
    | none => (-2, G)
    | some n => (nI (ab_lo (gD G)), gX_D G.1 (gD_lo (gD G) n), G.2))
  else (-1, G)
def op_7 (G : gb_G) (x : Int32) : Int32 × gb_G := match ab_kw 128 x with
  | none => (-2, G)
  | some c => if (gb_t G).length = 100 then (-4, G) else (nI ((gb_t G).length + 1), gS_t G (gb_t G ++ [c]))
def an_9 (G : gb_G) (w : Int32) : Int32 := if w = nI 0 then nI (ab_up (gP G)) else if w = nI 1 then nI (ab_down (gP G)) else if w = nI 2 then nI (ab_away (gP G)) else if w = nI 3 then nI (ab_fe (gP G)) else if w = nI 4 then nI (ab_pr (gD G)) else if w = nI 5 then nI (ab_lo (gD G)) else if w = nI 6 then ab_ti (gD G) else if w = nI 7 then ab_tu (gD G) else if w = nI 8 then nI (ab_row (gD G)).length else if w = nI 9 then (if (ab_row (gD G)).length = 0 then -5 else nI ((ab_row (gD G)).getD 0 0)) else -1
def op_11 (G : gb_G) : Int32 × gb_G := if ab_com (gD G) = true then (nI (ab_ha (gP G) (gD G)), gX_D G.1 (ab_turn (gP G) (gD G)), G.2) else (nI 0, G)
def op_20 (G : gb_G) (x : Int32) : Int32 × gb_G := match ab_kw 11 x with
  | none => (-2, G)
  | some n => (nI (gx_s G.1), gX_s G.1 n, G.2)
def op_22 (G : gb_G) (x : Int32) : Int32 × gb_G := if x = -1 then (nI 0, gX_f G.1 [], G.2) else match ab_kw 4 x with
  | none => (-1, G)
  | some n => if n = 0 then (-1, G) else if (gx_f G.1).length = 12 then (-4, G) else (nI ((gx_f G.1).length + 1), gX_f G.1 (gx_f G.1 ++ [n]), G.2)
def op_25 (G : gb_G) : Int32 × gb_G := (nI (gK G), G.1, some G.1, G.2.2)
def op_26 (G : gb_G) : Int32 × gb_G := match gb_i G with
  | none => (-3, G)
  | some Y => (nI (ab_kn (gx_P Y)), Y, G.2)
def an_28 (G : gb_G) (x : Int32) : Int32 := match ab_kw (gb_r G).length x with
  | none => -1
  | some i => nI ((gb_r G).getD i 0)
def an_30 (G : gb_G) (w : Int32) : Int32 := if w = nI 0 then nI (gK G) else if w = nI 1 then nI (gb_s G).length else if w = nI 2 then nI (gx_f G.1).length else if w = nI 3 then nI (gb_t G).length else if w = nI 4 then nI (gb_r G).length else -2
def ab_above (k : Nat) : List Nat := ([[0], [1, 0], [2, 0], [3, 0], [4, 1, 0], [5, 2, 0], [6, 3, 0]] : List (List Nat)).getD k []
def an_29 (G : gb_G) (x k : Int32) : Int32 := match ab_kw 7 k with
  | none => -2
  | some k => match ab_kw (gK G) x with
    | none => -11
    | some b => if k ∈ ab_above (ab_ki (gP G) b) then nI (ab_ki (gP G) b) else -12
def op_31 (G : gb_G) (t s n : Int32) : Int32 × gb_G := match ab_kw 6 t with
  | none => (-1, G)
  | some t => if s = -1 then (nI 1, gS_p G (ab_up1 (gb_p G) t (-1, 0, fun _ => 0))) else match ab_kw 5 s with
    | none => (-2, G)
    | some s => if nI 60 < n then (-2, G) else if n < nI 0 then (-14, G) else (nI 1, gS_p G (ab_up1 (gb_p G) t (nI s, n.toNatClampNeg, fun _ => 0)))
def ab_cut (s : Int32) (v : Int64) : Int64 := if s = nI 0 then v.toInt32.toInt8.toInt32.toInt64 else if s = nI 1 then v.toInt32.toInt16.toInt32.toInt64 else if s = nI 2 then v.toInt32.toInt64 else if s = nI 4 then (if lg_cmp v 0 = nI 0 then 0 else 1) else v
def op_32 (G : gb_G) (t i : Int32) (v : Int64) : Int32 × gb_G := match ab_kw 6 t with
  | none => (-1, G)
  | some t => if (gb_p G t).1 = -1 then (-11, G) else match ab_kw (gb_p G t).2.1 i with
    | none => (-13, G)
    | some i => (nI 1, gS_p G (ab_up1 (gb_p G) t ((gb_p G t).1, (gb_p G t).2.1, ab_up1 (gb_p G t).2.2 i (ab_cut (gb_p G t).1 v))))
def an_33 (G : gb_G) (t i : Int32) : Int64 := match ab_kw 6 t with
  | none => -9223372036854775808
  | some t => match ab_kw (gb_p G t).2.1 i with
    | none => -9223372036854775808
    | some i => (gb_p G t).2.2 i
def op_34 (G : gb_G) (t i o j n : Int32) : Int32 × gb_G := match ab_kw 6 t, ab_kw 6 o with
  | some t, some o => if (gb_p G t).1 = -1 ∨ (gb_p G o).1 = -1 then (-11, G) else if (gb_p G t).1 ≠ (gb_p G o).1 then (-12, G) else (match ab_kw 61 n, ab_kw 61 i, ab_kw 61 j with
    | some n, some i, some j => if i + n ≤ (gb_p G t).2.1 ∧ j + n ≤ (gb_p G o).2.1 then (nI n, gS_p G (ab_up1 (gb_p G) o ((gb_p G o).1, (gb_p G o).2.1, va_cpy (gb_p G t).2.2 (gb_p G o).2.2 i j n))) else (-13, G)
    | _, _, _ => (-13, G))
  | _, _ => (-1, G)
