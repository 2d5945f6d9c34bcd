/-! ===== what a day is, apart from cells ===== -/
/-- a step of an E: a TEST (letter, relation, number) or what joins (1 or, 2 and, 3 not) -/
abbrev ab_T : Type := (Nat × Nat × Nat) ⊕ Nat
/-- a clause: its word, its n, the steps of its E -/
abbrev ab_C : Type := Nat × Nat × List ab_T
/-- row, aways, gained, price, loaves, till, turns -/
abbrev ab_D : Type := List Nat × (Nat → Nat) × (Nat → Int32) × Nat × Nat × Int32 × Int32
/-- how many are known; kind, v, worth, friend, tells; the clauses; what a no costs -/
abbrev ab_P : Type := Nat × (Nat → Nat) × (Nat → Nat) × (Nat → Nat) × (Nat → Option Nat) × (Nat → Nat) × List ab_C × Nat
def ab_row (D : ab_D) : List Nat := D.1
def ab_aw (D : ab_D) : Nat → Nat := D.2.1
def ab_ga (D : ab_D) : Nat → Int32 := D.2.2.1
def ab_pr (D : ab_D) : Nat := D.2.2.2.1
def ab_lo (D : ab_D) : Nat := D.2.2.2.2.1
def ab_ti (D : ab_D) : Int32 := D.2.2.2.2.2.1
def ab_tu (D : ab_D) : Int32 := D.2.2.2.2.2.2
def ab_kn (P : ab_P) : Nat := P.1
def ab_ki (P : ab_P) : Nat → Nat := P.2.1
def ab_v (P : ab_P) : Nat → Nat := P.2.2.1
def ab_wo (P : ab_P) : Nat → Nat := P.2.2.2.1
def ab_fr (P : ab_P) : Nat → Option Nat := P.2.2.2.2.1
def ab_te (P : ab_P) : Nat → Nat := P.2.2.2.2.2.1
def ab_sh (P : ab_P) : List ab_C := P.2.2.2.2.2.2.1
def ab_fe (P : ab_P) : Nat := P.2.2.2.2.2.2.2
def ab_law (l : List ab_C) (w n : Nat) : Nat := l.foldl (fun n c => if c.1 = w then c.2.1 else n) n
def ab_up (P : ab_P) : Nat := ab_law (ab_sh P) 2 1
def ab_down (P : ab_P) : Nat := ab_law (ab_sh P) 3 1
def ab_away (P : ab_P) : Nat := min 9 (ab_law (ab_sh P) 4 1)
def ab_frn (P : ab_P) (D : ab_D) (b : Nat) : Bool := match ab_fr P b with
  | none => false
  | some f => decide (f ∈ ab_row D)
def ab_ms (P : ab_P) (D : ab_D) (b l : Nat) : Nat :=
  if l = 0 then b else if l = 1 then ab_ki P b else if l = 2 then ab_pr D else if l = 3 then ab_lo D else if l = 4 then (ab_row D).length else if l = 5 then ab_aw D b else if ab_frn P D b = true then 1 else 0
def ab_tst (x r n : Nat) : Bool := if r = 0 then decide (x < n) else if r = 1 then decide (x = n) else decide (n < x)
def ab_step (m : Nat → Nat) (st : List Bool) (t : ab_T) : List Bool := match t with
  | .inl q => ab_tst (m q.1) q.2.1 q.2.2 :: st
  | .inr o => if o = 3 then (match st with
      | x :: r => (!x) :: r
      | [] => []) else (match st with
      | y :: x :: r => (if o = 1 then x || y else x && y) :: r
      | _ => [])
def ab_rn (m : Nat → Nat) (c : List ab_T) (st : List Bool) : List Bool := c.foldl (ab_step m) st
def ab_hold (m : Nat → Nat) (c : List ab_T) : Bool := (ab_rn m c []).headD false
def ab_sum (m : Nat → Nat) (w : Nat) (l : List ab_C) (n : Nat) : Nat := l.foldl (fun n c => if c.1 = w ∧ ab_hold m c.2.2 = true then n + c.2.1 else n) n
def ab_val (P : ab_P) (D : ab_D) (b : Nat) : Nat := ab_wo P b + ab_sum (ab_ms P D b) 0 (ab_sh P) 0
def ab_cost (P : ab_P) (D : ab_D) (b : Nat) : Nat := ab_sum (ab_ms P D b) 1 (ab_sh P) 0
def ab_may (P : ab_P) (D : ab_D) (b : Nat) : Bool := decide (ab_aw D b < ab_away P)
/-- yes, if the gain of a yes is n or more -/
def ab_gy (P : ab_P) (D : ab_D) (b n : Nat) : Nat := if n + ab_pr D ≤ ab_val P D b + ab_cost P D b + ab_fe P then 1 else 2
def ab_wai (P : ab_P) (D : ab_D) (b : Nat) : Nat := if ab_val P D b < ab_pr D ∧ ab_may P D b = true then 3 else ab_gy P D b 0
def ab_fal (P : ab_P) (D : ab_D) (b : Nat) : Nat := if ab_v P b < ab_pr D ∧ ab_frn P D b = true then 2 else ab_gy P D b 0
/-- what b does, if it were the head and o others stood -/
def ab_act (P : ab_P) (D : ab_D) (b o : Nat) : Nat := match ab_ki P b with
  | 1 => ab_gy P D b (ab_v P b)
  | 2 => ab_wai P D b
  | 3 => ab_fal P D b
  | 4 => if ab_lo D ≤ ab_v P b then 1 else ab_gy P D b (ab_v P b)
  | 5 => if ab_v P b ≤ o ∧ ab_may P D b = true then 3 else ab_wai P D b
  | 6 => if ab_te P (3 * b + ab_pr D % 3) = 0 ∨ (ab_te P (3 * b + ab_pr D % 3) = 3 ∧ ab_may P D b = false) then ab_fal P D b else ab_te P (3 * b + ab_pr D % 3)
  | _ => ab_gy P D b 0
def ab_up1 {α : Type} (f : Nat → α) (k : Nat) (x : α) : Nat → α := fun j => if j = k then x else f j
/-- a turn in which the head b, with r behind, does something -/
def ab_do (P : ab_P) (D : ab_D) (b : Nat) (r : List Nat) (act : Nat) : ab_D :=
  if act = 1 then (r, ab_aw D, ab_up1 (ab_ga D) b (ab_ga D b + (nI (ab_val P D b) - nI (ab_pr D))), min 999 (ab_pr D + ab_up P), ab_lo D - 1, ab_ti D + nI (ab_pr D), ab_tu D + nI 1)
  else if act = 2 then (r, ab_aw D, ab_up1 (ab_ga D) b (ab_ga D b - (nI (ab_cost P D b) + nI (ab_fe P))), (if ab_down P = 0 then ab_pr D / 2 else ab_down P), ab_lo D, ab_ti D + nI (ab_fe P), ab_tu D + nI 1)
  else (r ++ [b], ab_up1 (ab_aw D) b (ab_aw D b + 1), ab_ga D, ab_pr D, ab_lo D, ab_ti D, ab_tu D + nI 1)
def ab_does (P : ab_P) (D : ab_D) (act : Nat) : ab_D := match ab_row D with
  | [] => D
  | b :: r => ab_do P D b r act
def ab_ha (P : ab_P) (D : ab_D) : Nat := ab_act P D ((ab_row D).headD 0) ((ab_row D).length - 1)
def ab_turn (P : ab_P) (D : ab_D) : ab_D := ab_does P D (ab_ha P D)
def ab_com (D : ab_D) : Bool := decide (0 < (ab_row D).length) && decide (0 < ab_lo D)
def ab_end (P : ab_P) : Nat → ab_D → ab_D
  | 0, D => D
  | k + 1, D => if ab_com D = true then ab_end P k (ab_turn P D) else D
/-- heads and what they did -/
def ab_log (P : ab_P) : Nat → ab_D → List (Nat × Nat)
  | 0, _ => []
  | k + 1, D => if ab_com D = true then ((ab_row D).headD 0, ab_ha P D) :: ab_log P k (ab_turn P D) else []
/-- how high a stack of answers an E wants; none: it is no E -/
def ab_hei : List ab_T → Nat → Option Nat
  | [], h => some h
  | .inl q :: c, h => if q.1 < 7 ∧ q.2.1 < 3 ∧ q.2.2 < 100 ∧ h < 24 then ab_hei c (h + 1) else none
  | .inr o :: c, h => if o = 3 then (if 1 ≤ h then ab_hei c h else none) else if (o = 1 ∨ o = 2) ∧ 2 ≤ h then ab_hei c (h - 1) else none
def ab_okC (c : ab_C) : Prop := c.1 < 6 ∧ c.2.1 < 100 ∧ (c.1 < 2 → ab_hei c.2.2 0 = some 1)
def ab_okS (l : List ab_C) : Prop := l.length ≤ 10 ∧ ∀ c ∈ l, ab_okC c
def ab_okP (P : ab_P) : Prop := ab_kn P ≤ 6 ∧ ab_fe P < 100 ∧ ab_okS (ab_sh P) ∧ (∀ b, b < ab_kn P → ab_ki P b < 7 ∧ ab_v P b < 10 ∧ ab_wo P b < 100) ∧ (∀ b f, b < ab_kn P → ab_fr P b = some f → f < ab_kn P ∧ f ≠ b) ∧ (∀ i, i < 3 * ab_kn P → ab_te P i < 4)
def ab_okD (P : ab_P) (D : ab_D) : Prop := (ab_row D).Nodup ∧ (∀ b ∈ ab_row D, b < ab_kn P) ∧ (∀ b, b < ab_kn P → ab_aw D b ≤ 9) ∧ ab_pr D ≤ 999 ∧ ab_lo D ≤ 9
/-- no more turns than this come -/
def ab_mea (D : ab_D) : Nat := ((ab_row D).map (fun b => 10 - ab_aw D b)).sum
