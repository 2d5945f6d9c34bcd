section
/-! ===== a small machine over numbered cells: what an instruction does, as a function ===== -/
abbrev mm_S : Type := (Nat → Nat → Int32) × (Nat → Nat → Int64) × (Nat → Nat → Option Nat) × (Nat → Nat) × (Nat → Nat) × Nat × Nat
def mm_M (S : mm_S) : Nat → Nat → Int32 := S.1
def mm_L (S : mm_S) : Nat → Nat → Int64 := S.2.1
def mm_R (S : mm_S) : Nat → Nat → Option Nat := S.2.2.1
def mm_K (S : mm_S) : Nat → Nat := S.2.2.2.1
def mm_N (S : mm_S) : Nat → Nat := S.2.2.2.2.1
def mm_n (S : mm_S) : Nat := S.2.2.2.2.2.1
def mm_z (S : mm_S) : Nat := S.2.2.2.2.2.2
def mm_u {α : Type} (f : Nat → α) (k : Nat) (x : α) : Nat → α := fun j => if j = k then x else f j
def mm_sM (S : mm_S) (a : Nat) (f : Nat → Int32) : mm_S := (mm_u S.1 a f, S.2)
def mm_sL (S : mm_S) (a : Nat) (f : Nat → Int64) : mm_S := (S.1, mm_u S.2.1 a f, S.2.2)
def mm_sR (S : mm_S) (a : Nat) (f : Nat → Option Nat) : mm_S := (S.1, S.2.1, mm_u S.2.2.1 a f, S.2.2.2)
/-- a new cell of a kind, of so many places -/
def mm_nw (S : mm_S) (k n : Nat) : mm_S := (mm_u S.1 S.2.2.2.2.2.1 (fun _ => 0), mm_u S.2.1 S.2.2.2.2.2.1 (fun _ => 0), mm_u S.2.2.1 S.2.2.2.2.2.1 (fun _ => none), mm_u S.2.2.2.1 S.2.2.2.2.2.1 k, mm_u S.2.2.2.2.1 S.2.2.2.2.2.1 n, S.2.2.2.2.2.1 + 1, S.2.2.2.2.2.2 + n)
/-- the script's number; a String constant's is 1000000 + 2k, its bytes' the next; the formatter is no number -/
abbrev mm_SC : Nat := 3000000
abbrev mm_FM : Value := .retAddr 0
abbrev mm_Act : Type := Option ((Nat × List Value × List Value × mm_S) ⊕ ((Nat × List Value × List Value × mm_S) ⊕ (Option Value × mm_S)))
abbrev mm_Res : Type := Option (Option Value × mm_S)
def mm_go (pc : Nat) (ls st : List Value) (S : mm_S) : mm_Act := some (.inl (pc, ls, st, S))
def mm_ca (y : Nat) (as st : List Value) (S : mm_S) : mm_Act := some (.inr (.inl (y, as, st, S)))
def mm_rt (v : Option Value) (S : mm_S) : mm_Act := some (.inr (.inr (v, S)))
def mm_rv : Option Nat → Value
  | some a => .ref a
  | none => .null
def mm_lg (ls : List Value) (k : Nat) : Value := ls.getD k .null
def mm_k1 (v : Value) : Value := if v.category = 2 then .null else v
def mm_kl (ls : List Value) : Nat → List Value
  | 0 => ls
  | k + 1 => ls.set k (mm_k1 (mm_lg ls k))
def mm_l1 (ls : List Value) (k : Nat) (v : Value) : List Value := (mm_kl ls k).set k v
def mm_l2 (ls : List Value) (k : Nat) (v : Value) : List Value := ((mm_kl ls k).set k v).set (k + 1) .null
def mm_i1 (st : List Value) (f : Int32 → List Value → mm_Act) : mm_Act := match st with
  | .int x :: r => f x r
  | _ => none
def mm_i2 (st : List Value) (f : Int32 → Int32 → List Value → mm_Act) : mm_Act := match st with
  | .int y :: .int x :: r => f x y r
  | _ => none
def mm_j1 (st : List Value) (f : Int64 → List Value → mm_Act) : mm_Act := match st with
  | .long x :: r => f x r
  | _ => none
def mm_j2 (st : List Value) (f : Int64 → Int64 → List Value → mm_Act) : mm_Act := match st with
  | .long y :: .long x :: r => f x y r
  | _ => none
def mm_r1 (st : List Value) (f : Nat → List Value → mm_Act) : mm_Act := match st with
  | .ref a :: r => f a r
  | _ => none
def mm_pr (st : List Value) (f : Value → Nat → List Value → mm_Act) : mm_Act := match st with
  | v :: .ref a :: r => f v a r
  | _ => none
def mm_v1 (st : List Value) (f : Value → List Value → mm_Act) : mm_Act := match st with
  | v :: r => f v r
  | _ => none
def mm_gd (b : Bool) (A : mm_Act) : mm_Act := if b = true then A else none
def mm_jp (pc : Nat) (off : Int) (ls st : List Value) (S : mm_S) : mm_Act := if (pc : Int) + off < 0 then none else mm_go ((pc : Int) + off).toNat ls st S
def mm_cj (b : Bool) (pc : Nat) (off : Int) (ls st : List Value) (S : mm_S) : mm_Act := if (pc : Int) + off < 0 then none else if b = true then mm_go ((pc : Int) + off).toNat ls st S else mm_go (pc + 3) ls st S
def mm_c1 (c : ClassFile.Cond) (x : Int32) : Bool := match c with
  | .eq => decide (x = 0)
  | .ne => !decide (x = 0)
  | .lt => decide (x < 0)
  | .ge => decide (0 ≤ x)
  | .gt => decide (0 < x)
  | .le => decide (x ≤ 0)
def mm_c2 (c : ClassFile.Cond) (x y : Int32) : Bool := match c with
  | .eq => decide (x = y)
  | .ne => !decide (x = y)
  | .lt => decide (x < y)
  | .ge => decide (y ≤ x)
  | .gt => decide (y < x)
  | .le => decide (x ≤ y)
def mm_inb (i : Int32) (n : Nat) : Bool := !(decide (i < 0) || decide (n ≤ i.toNatClampNeg))
def mm_cs : List Value → Nat
  | [] => 0
  | v :: l => v.category + mm_cs l
def mm_obj (S : mm_S) (a f : Nat) : Bool := decide (a < mm_n S) && decide (mm_K S a < 13) && mm_fam f (mm_K S a)
def mm_arr (S : mm_S) (a k : Nat) : Bool := decide (a < mm_n S) && decide (mm_K S a = k)
def mm_isS (a : Nat) : Bool := decide (1000000 ≤ a) && decide (a < 1000000 + 2 * 12) && decide (a % 2 = 0)
def mm_isB (a : Nat) : Bool := decide (1000000 ≤ a) && decide (a < 1000000 + 2 * 12) && decide (a % 2 = 1)
def mm_by (a : Nat) : List Int32 := (mm_sx (a % 1000000 / 2)).2.2
/-- the kind of a receiver -/
def mm_rk (S : mm_S) (a : Nat) : Nat := if a < mm_n S then (if mm_K S a < 13 then mm_K S a else 99) else if mm_isS a = true then 100 else 99
def mm_lu : List (Nat × Nat) → Nat → Option Nat
  | [], _ => none
  | e :: l, k => if e.1 == k then some e.2 else mm_lu l k
def mm_gf (S : mm_S) (fam k tg a : Nat) : Option Value := if mm_obj S a fam = true then (if tg = 1 then some (.long (mm_L S a k)) else if tg = 2 then some (mm_rv (mm_R S a k)) else some (.int (mm_M S a k))) else none
def mm_pf (S : mm_S) (fam k tg a : Nat) (v : Value) : Option mm_S := if mm_obj S a fam = true then (match tg, v with
    | 0, .int x => some (mm_sM S a (mm_u (mm_M S a) k x))
    | 3, .int x => if x = 0 ∨ x = 1 then some (mm_sM S a (mm_u (mm_M S a) k x)) else none
    | 1, .long x => some (mm_sL S a (mm_u (mm_L S a) k x))
    | 2, .ref b => if b < mm_n S then some (mm_sR S a (mm_u (mm_R S a) k (some b))) else none
    | _, _ => none) else none
def mm_cpOk (sp dp n : Int32) (n0 n1 : Nat) : Bool := !decide (sp < 0) && !decide (dp < 0) && !decide (n < 0) && decide (sp.toNatClampNeg + n.toNatClampNeg ≤ n0) && decide (dp.toNatClampNeg + n.toNatClampNeg ≤ n1)
def mm_ire (st : List Value) (rt : Option FieldType) (S : mm_S) : mm_Act := match st, rt with
  | [.int x], some ty => if narrow ty (.int x) = .int x ∧ ty ≠ .long then mm_rt (some (.int x)) S else none
  | _, _ => none
def mm_lre (st : List Value) (rt : Option FieldType) (S : mm_S) : mm_Act := match st, rt with
  | [.long x], some .long => mm_rt (some (.long x)) S
  | _, _ => none
def mm_are (st : List Value) (rt : Option FieldType) (S : mm_S) : mm_Act := match st, rt with
  | [.ref a], some (.object _) => mm_rt (some (.ref a)) S
  | _, _ => none
def mm_vre (st : List Value) (rt : Option FieldType) (S : mm_S) : mm_Act := match st, rt with
  | [], none => mm_rt none S
  | _, _ => none
/-- what one instruction does, at depth d, in the method t -/
def mm_st (d : Nat) (t : mm_mT) (pc : Nat) (ls st : List Value) (S : mm_S) : Instr → mm_Act
  | .iconst n => mm_go (pc + 1) ls (.int (Int32.ofInt n) :: st) S
  | .bipush n => mm_go (pc + 2) ls (.int (Int8.ofInt n).toInt32 :: st) S
  | .sipush n => mm_go (pc + 3) ls (.int (Int16.ofInt n).toInt32 :: st) S
  | .lconst n => mm_go (pc + 1) ls (.long (Int64.ofNat (n : Nat)) :: st) S
  | .ldc i => match mm_fd mm_LC t.2.2.2.2 i with
    | some v => mm_go (pc + 2) ls (v :: st) S
    | none => none
  | .ldc_w i => match mm_fd mm_LC t.2.2.2.2 i with
    | some (.int v) => mm_go (pc + 3) ls (.int v :: st) S
    | _ => none
  | .ldc2_w i => match mm_fd mm_L2 t.2.2.2.2 i with
    | some v => mm_go (pc + 3) ls (.long v :: st) S
    | none => none
  | .iload_n k => mm_i1 [mm_lg ls k] fun x _ => mm_go (pc + 1) ls (.int x :: st) S
  | .iload k => mm_i1 [mm_lg ls k] fun x _ => mm_go (pc + 2) ls (.int x :: st) S
  | .lload_n k => mm_j1 [mm_lg ls k] fun x _ => mm_go (pc + 1) ls (.long x :: st) S
  | .lload k => mm_j1 [mm_lg ls k] fun x _ => mm_go (pc + 2) ls (.long x :: st) S
  | .aload_n k => mm_r1 [mm_lg ls k] fun x _ => mm_go (pc + 1) ls (.ref x :: st) S
  | .aload k => mm_r1 [mm_lg ls k] fun x _ => mm_go (pc + 2) ls (.ref x :: st) S
  | .istore_n k => mm_i1 st fun x r => mm_gd (decide ((k : Nat) < ls.length)) (mm_go (pc + 1) (mm_l1 ls k (.int x)) r S)
  | .istore k => mm_i1 st fun x r => mm_gd (decide (k < ls.length)) (mm_go (pc + 2) (mm_l1 ls k (.int x)) r S)
  | .lstore_n k => mm_j1 st fun x r => mm_gd (decide ((k : Nat) + 1 < ls.length)) (mm_go (pc + 1) (mm_l2 ls k (.long x)) r S)
  | .lstore k => mm_j1 st fun x r => mm_gd (decide (k + 1 < ls.length)) (mm_go (pc + 2) (mm_l2 ls k (.long x)) r S)
  | .astore_n k => mm_r1 st fun x r => mm_gd (decide ((k : Nat) < ls.length)) (mm_go (pc + 1) (mm_l1 ls k (.ref x)) r S)
  | .astore k => mm_r1 st fun x r => mm_gd (decide (k < ls.length)) (mm_go (pc + 2) (mm_l1 ls k (.ref x)) r S)
  | .iinc k n => mm_i1 [mm_lg ls k] fun x _ => mm_gd (decide (k < ls.length)) (mm_go (pc + 3) (mm_l1 ls k (.int (x + Int32.ofInt n))) st S)
  | .iadd => mm_i2 st fun x y r => mm_go (pc + 1) ls (.int (x + y) :: r) S
  | .isub => mm_i2 st fun x y r => mm_go (pc + 1) ls (.int (x - y) :: r) S
  | .imul => mm_i2 st fun x y r => mm_go (pc + 1) ls (.int (x * y) :: r) S
  | .iand => mm_i2 st fun x y r => mm_go (pc + 1) ls (.int (x &&& y) :: r) S
  | .ior => mm_i2 st fun x y r => mm_go (pc + 1) ls (.int (x ||| y) :: r) S
  | .ixor => mm_i2 st fun x y r => mm_go (pc + 1) ls (.int (x ^^^ y) :: r) S
  | .idiv => mm_i2 st fun x y r => mm_gd (!decide (y = 0)) (mm_go (pc + 1) ls (.int (x / y) :: r) S)
  | .irem => mm_i2 st fun x y r => mm_gd (!decide (y = 0)) (mm_go (pc + 1) ls (.int (x - x / y * y) :: r) S)
  | .ishl => mm_i2 st fun x y r => mm_go (pc + 1) ls (.int (x <<< (y &&& 31)) :: r) S
  | .ishr => mm_i2 st fun x y r => mm_go (pc + 1) ls (.int (x >>> (y &&& 31)) :: r) S
  | .iushr => mm_i2 st fun x y r => mm_go (pc + 1) ls (.int (x.toUInt32 >>> (y.toUInt32 &&& Int32.toUInt32 31)).toInt32 :: r) S
  | .ineg => mm_i1 st fun x r => mm_go (pc + 1) ls (.int (-x) :: r) S
  | .i2l => mm_i1 st fun x r => mm_go (pc + 1) ls (.long x.toInt64 :: r) S
  | .i2b => mm_i1 st fun x r => mm_go (pc + 1) ls (.int x.toInt8.toInt32 :: r) S
  | .i2s => mm_i1 st fun x r => mm_go (pc + 1) ls (.int x.toInt16.toInt32 :: r) S
  | .i2c => mm_i1 st fun x r => mm_go (pc + 1) ls (.int (x.toUInt32 % 65536).toInt32 :: r) S
  | .l2i => mm_j1 st fun x r => mm_go (pc + 1) ls (.int x.toInt32 :: r) S
  | .ladd => mm_j2 st fun x y r => mm_go (pc + 1) ls (.long (x + y) :: r) S
  | .lsub => mm_j2 st fun x y r => mm_go (pc + 1) ls (.long (x - y) :: r) S
  | .lmul => mm_j2 st fun x y r => mm_go (pc + 1) ls (.long (x * y) :: r) S
  | .land => mm_j2 st fun x y r => mm_go (pc + 1) ls (.long (x &&& y) :: r) S
  | .lor => mm_j2 st fun x y r => mm_go (pc + 1) ls (.long (x ||| y) :: r) S
  | .ldiv => mm_j2 st fun x y r => mm_gd (!decide (y = 0)) (mm_go (pc + 1) ls (.long (x / y) :: r) S)
  | .lrem => mm_j2 st fun x y r => mm_gd (!decide (y = 0)) (mm_go (pc + 1) ls (.long (x - x / y * y) :: r) S)
  | .lshl => mm_i1 st fun y r => mm_j1 r fun x r => mm_go (pc + 1) ls (.long (x <<< (y.toInt64 &&& 63)) :: r) S
  | .lcmp => mm_j2 st fun x y r => mm_go (pc + 1) ls (.int (lg_cmp x y) :: r) S
  | .dup => match st with
    | v :: r => mm_gd (decide (v.category = 1)) (mm_go (pc + 1) ls (v :: v :: r) S)
    | _ => none
  | .pop => match st with
    | v :: r => mm_gd (decide (v.category = 1)) (mm_go (pc + 1) ls r S)
    | _ => none
  | .pop2 => match st with
    | .long _ :: r => mm_go (pc + 1) ls r S
    | _ => none
  | .dup2 => match st with
    | .long x :: r => mm_go (pc + 1) ls (.long x :: .long x :: r) S
    | v :: w :: r => mm_gd (decide (v.category = 1) && decide (w.category = 1)) (mm_go (pc + 1) ls (v :: w :: v :: w :: r) S)
    | _ => none
  | .goto off => mm_jp pc off ls st S
  | .ifCond c off => mm_i1 st fun x r => mm_cj (mm_c1 c x) pc off ls r S
  | .if_icmp c off => mm_i2 st fun x y r => mm_cj (mm_c2 c x y) pc off ls r S
  | .tableswitch df lo hi offs => mm_i1 st fun x r => if x.toInt < lo ∨ hi < x.toInt then mm_jp pc df ls r S else match offs[(x.toInt - lo).toNat]? with
    | some off => mm_jp pc off ls r S
    | none => none
  | .lookupswitch df ps => mm_i1 st fun x r => mm_gd ((ps.toList.zip (ps.toList.drop 1)).all (fun (a, next) => a.1 < next.1)) (mm_jp pc (Op.lookupswitch.offset ps.toList df x.toInt) ls r S)
  | .getstatic i => if t.2.2.2.2 = 13 ∧ i = 38 then mm_go (pc + 3) ls (.int 1 :: st) S else if t.2.2.2.2 = 13 ∧ i = 1053 then mm_go (pc + 3) ls (mm_FM :: st) S else none
  | .getfield i => mm_r1 st fun a r => if t.2.2.2.2 = 13 then (if mm_isS a = true then (if i = 9 then mm_go (pc + 3) ls (.ref (a + 1) :: r) S else if i = 15 then mm_go (pc + 3) ls (.int 0 :: r) S else none) else none) else match mm_fd mm_FL t.2.2.2.2 i with
    | some e => match mm_gf S e.1 e.2.1 e.2.2.1 a with
      | some v => mm_go (pc + 3) ls (v :: r) S
      | none => none
    | none => none
  | .putfield i => mm_pr st fun v a r => match mm_fd mm_FL t.2.2.2.2 i with
      | some e => mm_gd (decide (e.2.2.2 = 0) || (decide (t.1.name = "<init>") && decide ((mm_T e.1 e.2.1).1 = t.1.cls))) (match mm_pf S e.1 e.2.1 e.2.2.1 a v with
        | some S1 => mm_go (pc + 3) ls r S1
        | none => none)
      | none => none
  | .iaload => mm_i1 st fun i r => mm_r1 r fun a r => if mm_arr S a 13 = true then mm_gd (mm_inb i (mm_N S a)) (mm_go (pc + 1) ls (.int (mm_M S a i.toNatClampNeg) :: r) S) else mm_gd (decide (a = mm_SC) && decide (t.2.2.2.2 = 17) && mm_inb i (mm_N S a)) (mm_go (pc + 1) ls (.int (mm_M S a i.toNatClampNeg) :: r) S)
  | .laload => mm_i1 st fun i r => mm_r1 r fun a r => mm_gd (mm_arr S a 14 && mm_inb i (mm_N S a)) (mm_go (pc + 1) ls (.long (mm_L S a i.toNatClampNeg) :: r) S)
  | .baload => mm_i1 st fun i r => mm_r1 r fun a r => if mm_arr S a 15 = true then mm_gd (mm_inb i (mm_N S a)) (mm_go (pc + 1) ls (.int (mm_M S a i.toNatClampNeg) :: r) S) else mm_gd (mm_isB a && mm_inb i (mm_by a).length) (mm_go (pc + 1) ls (.int ((mm_by a).getD i.toNatClampNeg 0) :: r) S)
  | .aaload => mm_i1 st fun i r => mm_r1 r fun a r => mm_gd ((mm_arr S a 16 || mm_arr S a 17 || mm_arr S a 18) && mm_inb i (mm_N S a)) (mm_go (pc + 1) ls (mm_rv (mm_R S a i.toNatClampNeg) :: r) S)
  | .iastore => mm_i2 st fun i x r => mm_r1 r fun a r => mm_gd (mm_arr S a 13 && mm_inb i (mm_N S a)) (mm_go (pc + 1) ls r (mm_sM S a (mm_u (mm_M S a) i.toNatClampNeg x)))
  | .lastore => mm_j1 st fun x r => mm_i1 r fun i r => mm_r1 r fun a r => mm_gd (mm_arr S a 14 && mm_inb i (mm_N S a)) (mm_go (pc + 1) ls r (mm_sL S a (mm_u (mm_L S a) i.toNatClampNeg x)))
  | .bastore => mm_i2 st fun i x r => mm_r1 r fun a r => mm_gd (mm_arr S a 15 && mm_inb i (mm_N S a)) (mm_go (pc + 1) ls r (mm_sM S a (mm_u (mm_M S a) i.toNatClampNeg (vp_nar .boolean x))))
  | .aastore => mm_v1 st fun v r => mm_i1 r fun i r => mm_r1 r fun a r => mm_gd ((mm_arr S a 16 || mm_arr S a 17 || mm_arr S a 18) && mm_inb i (mm_N S a)) (match v with
      | .null => mm_go (pc + 1) ls r (mm_sR S a (mm_u (mm_R S a) i.toNatClampNeg none))
      | .ref b => mm_gd (mm_obj S b (if mm_K S a = 16 then 0 else if mm_K S a = 17 then 6 else 8)) (mm_go (pc + 1) ls r (mm_sR S a (mm_u (mm_R S a) i.toNatClampNeg (some b))))
      | _ => none)
  | .arraylength => mm_r1 st fun a r => if (decide (a < mm_n S) && decide (13 ≤ mm_K S a) && decide (mm_K S a < 19)) = true then mm_go (pc + 1) ls (.int (Int32.ofNat (mm_N S a)) :: r) S else if mm_isB a = true then mm_go (pc + 1) ls (.int (Int32.ofNat (mm_by a).length) :: r) S else mm_gd (decide (a = mm_SC) && decide (t.2.2.2.2 = 17)) (mm_go (pc + 1) ls (.int (Int32.ofNat (mm_N S a)) :: r) S)
  | .newarray ty => mm_i1 st fun n r => mm_gd (!decide (n < 0) && decide (n.toNatClampNeg ≤ 1000) && decide (mm_n S < 1000000)) (match ty with
    | .int => mm_go (pc + 2) ls (.ref (mm_n S) :: r) (mm_nw S 13 n.toNatClampNeg)
    | .long => mm_go (pc + 2) ls (.ref (mm_n S) :: r) (mm_nw S 14 n.toNatClampNeg)
    | .boolean => mm_go (pc + 2) ls (.ref (mm_n S) :: r) (mm_nw S 15 n.toNatClampNeg)
    | _ => none)
  | .anewarray i => mm_i1 st fun n r => mm_gd (!decide (n < 0) && decide (n.toNatClampNeg ≤ 1000) && decide (mm_n S < 1000000)) (match mm_fd mm_AN t.2.2.2.2 i with
    | some k => mm_go (pc + 3) ls (.ref (mm_n S) :: r) (mm_nw S k n.toNatClampNeg)
    | none => none)
  | .new i => mm_gd (decide (mm_n S < 1000000)) (match mm_fd mm_NW t.2.2.2.2 i with
    | some k => mm_go (pc + 3) ls (.ref (mm_n S) :: st) (mm_nw S k (mm_NF k))
    | none => none)
  | .instanceof i => mm_r1 st fun a r => match mm_fd mm_IO t.2.2.2.2 i with
    | some e => mm_gd (mm_obj S a 0) (mm_go (pc + 3) ls (.int (if mm_K S a ∈ e.2 then 1 else 0) :: r) S)
    | none => none
  | .invokestatic i => match mm_fd mm_AC t.2.2.2.2 i with
    | some _ => mm_i2 st fun dp n r => mm_r1 r fun a r => mm_i1 r fun sp r => mm_r1 r fun a0 r => mm_gd (decide (1 ≤ d) && decide (mm_cs r ≤ 8)) (if mm_arr S a0 13 && mm_arr S a 13 && mm_cpOk sp dp n (mm_N S a0) (mm_N S a) then mm_go (pc + 3) ls r (mm_sM S a (va_cpy (mm_M S a0) (mm_M S a) sp.toNatClampNeg dp.toNatClampNeg n.toNatClampNeg)) else if mm_arr S a0 14 && mm_arr S a 14 && mm_cpOk sp dp n (mm_N S a0) (mm_N S a) then mm_go (pc + 3) ls r (mm_sL S a (va_cpy (mm_L S a0) (mm_L S a) sp.toNatClampNeg dp.toNatClampNeg n.toNatClampNeg)) else none)
    | none => match mm_fd mm_MX t.2.2.2.2 i with
     | some k => mm_i2 st fun x y r => mm_gd (decide (1 ≤ d) && decide (mm_cs r ≤ 8)) (mm_go (pc + 3) ls (.int (if k = 0 then (if y < x then y else x) else (if x < y then y else x)) :: r) S)
     | none => match mm_fd mm_ST t.2.2.2.2 i with
      | some e => mm_gd (decide (e.1 ≤ st.length) && decide (mm_cs (st.drop e.1) ≤ 8)) (mm_ca e.2 (st.take e.1).reverse (st.drop e.1) S)
      | none => none
  | .invokevirtual i => match mm_fd mm_VT t.2.2.2.2 i with
    | some e => mm_gd (decide (e.1 ≤ st.length)) (mm_r1 (st.drop e.1) fun a r => mm_gd (decide (mm_cs r ≤ 8)) (match mm_lu e.2 (mm_rk S a) with
      | some y => mm_ca y (.ref a :: (st.take e.1).reverse) r S
      | none => none))
    | none => none
  | .invokespecial i => match mm_fd mm_OI t.2.2.2.2 i with
    | some _ => mm_r1 st fun a r => mm_gd (decide (1 ≤ d) && decide (mm_cs r ≤ 8)) (mm_go (pc + 3) ls r S)
    | none => match mm_fd mm_SP t.2.2.2.2 i with
      | some e => mm_gd (decide (e.1 ≤ st.length)) (mm_r1 (st.drop e.1) fun a r => mm_gd (decide (mm_cs r ≤ 8) && decide (a < mm_n S) && decide (mm_K S a < 13)) (mm_ca e.2.1 (.ref a :: (st.take e.1).reverse) r S))
      | none => none
  | .ireturn => mm_ire st t.2.2.2.1 S
  | .lreturn => mm_lre st t.2.2.2.1 S
  | .areturn => mm_are st t.2.2.2.1 S
  | .return_ => mm_vre st t.2.2.2.1 S
  | _ => none
/-- how long an instruction is (0: a switch) -/
def mm_ln : Instr → Nat
  | .bipush _ | .ldc _ | .iload _ | .lload _ | .aload _ | .istore _ | .lstore _ | .astore _ | .newarray _ => 2
  | .sipush _ | .ldc_w _ | .ldc2_w _ | .iinc _ _ | .goto _ | .ifCond _ _ | .if_icmp _ _ | .getstatic _ | .getfield _ | .putfield _ | .anewarray _ | .new _ | .instanceof _ | .invokestatic _ | .invokevirtual _ | .invokespecial _ => 3
  | .tableswitch _ _ _ _ | .lookupswitch _ _ => 0
  | _ => 1
def mm_lk (i : Instr) (len : Nat) : Bool := decide (mm_ln i = 0) || decide (mm_ln i = len)
def mm_as : List Value → List Value
  | [] => []
  | v :: l => if v.category = 2 then v :: .null :: mm_as l else v :: mm_as l
def mm_en (n : Nat) (as : List Value) : List Value := mm_as as ++ List.replicate (n - (mm_as as).length) .null
def mm_iv (i : Instr) : Bool := match i with
  | .invokestatic _ | .invokevirtual _ | .invokespecial _ => true
  | _ => false
def mm_ir (i : Instr) : Bool := match i with
  | .ireturn | .lreturn | .areturn | .return_ => true
  | _ => false
/-- no step takes cells away; a call is a call, an end is an end -/
def mm_mo (i : Instr) (S : mm_S) (a : mm_Act) : Bool := match a with
  | none => true
  | some (.inl q) => decide (mm_n S ≤ mm_n q.2.2.2) && decide (mm_z S ≤ mm_z q.2.2.2)
  | some (.inr (.inl q)) => decide (mm_n S ≤ mm_n q.2.2.2) && decide (mm_z S ≤ mm_z q.2.2.2) && mm_iv i
  | some (.inr (.inr r)) => decide (mm_n S ≤ mm_n r.2) && decide (mm_z S ≤ mm_z r.2) && mm_ir i
def mm_run : Nat → Nat → Nat → Nat → List Value → List Value → mm_S → mm_Res
  | 0, _, _, _, _, _, _ => none
  | f + 1, d, y, pc, ls, st, S => match mm_mt[y]? with
    | none => none
    | some t => match decode t.2.1 pc with
      | .error _ => none
      | .ok (i, len) => if (mm_lk i len && mm_mo i S (mm_st d t pc ls st S i)) = true then (match mm_st d t pc ls st S i with
        | none => none
        | some (.inl q) => mm_run f d y q.1 q.2.1 q.2.2.1 q.2.2.2
        | some (.inr (.inl q)) => match d with
          | 0 => none
          | d + 1 => if q.1 < mm_nc then (match mm_mt[q.1]? with
            | none => none
            | some u => if (mm_as q.2.1).length ≤ u.2.2.1 then (match mm_run f d q.1 0 (mm_en u.2.2.1 q.2.1) [] q.2.2.2 with
              | none => none
              | some r => mm_run f (d + 1) y (pc + 3) ls (r.1.toList ++ q.2.2.1) r.2) else none) else none
        | some (.inr (.inr r)) => some r) else none
theorem mm_run_succ (f : Nat) : ∀ (d y pc : Nat) (ls st : List Value) (S : mm_S) (r : Option Value × mm_S), mm_run f d y pc ls st S = some r → mm_run (f + 1) d y pc ls st S = some r := by
  induction f with
  | zero => intro d y pc ls st S r h; cases h
  | succ f ih =>
    intro d y pc ls st S r h
    unfold mm_run at h ⊢
    cases ht : mm_mt[y]? with
    | none => rw [ht] at h; cases h
    | some t =>
      simp only [ht] at h ⊢
      cases hd : decode t.2.1 pc with
      | error x => rw [hd] at h; cases h
      | ok il =>
        obtain ⟨i, len⟩ := il
        simp only [hd] at h ⊢
        by_cases hl : (mm_lk i len && mm_mo i S (mm_st d t pc ls st S i)) = true
        · simp only [if_pos hl] at h ⊢
          cases ha : mm_st d t pc ls st S i with
          | none => rw [ha] at h; cases h
          | some A =>
            rcases A with q | q | q
            · simp only [ha] at h ⊢
              exact ih _ _ _ _ _ _ _ h
            · simp only [ha] at h ⊢
              cases d with
              | zero => cases h
              | succ d =>
                simp only at h ⊢
                by_cases hq : q.1 < mm_nc
                · simp only [if_pos hq] at h ⊢
                  cases hu : mm_mt[q.1]? with
                  | none => rw [hu] at h; cases h
                  | some u =>
                    simp only [hu] at h ⊢
                    by_cases hf : (mm_as q.2.1).length ≤ u.2.2.1
                    · simp only [if_pos hf] at h ⊢
                      cases hr : mm_run f d q.1 0 (mm_en u.2.2.1 q.2.1) [] q.2.2.2 with
                      | none => rw [hr] at h; cases h
                      | some z =>
                        rw [hr] at h
                        rw [ih _ _ _ _ _ _ _ hr]
                        exact ih _ _ _ _ _ _ _ h
                    · rw [if_neg hf] at h; cases h
                · rw [if_neg hq] at h; cases h
            · simp only [ha] at h ⊢
              exact h
        · rw [if_neg hl] at h; cases h
theorem mm_run_le {f g : Nat} (hfg : f ≤ g) {d y pc : Nat} {ls st : List Value} {S : mm_S} {r : Option Value × mm_S} (h : mm_run f d y pc ls st S = some r) : mm_run g d y pc ls st S = some r := by
  induction hfg with
  | refl => exact h
  | step _ ih => exact mm_run_succ _ _ _ _ _ _ _ _ ih
theorem mm_run_det {f g d y pc : Nat} {ls st : List Value} {S : mm_S} {r q : Option Value × mm_S} (h : mm_run f d y pc ls st S = some r) (h2 : mm_run g d y pc ls st S = some q) : r = q := by
  have a := mm_run_le (Nat.le_max_left f g) h
  have b := mm_run_le (Nat.le_max_right f g) h2
  exact Option.some.inj (a.symm.trans b)
/-- what a run comes to, however long it is -/
noncomputable def mm_ex (d y pc : Nat) (ls st : List Value) (S : mm_S) : mm_Res := by
  classical exact if h : ∃ r, ∃ f, mm_run f d y pc ls st S = some r then some (Classical.choose h) else none
theorem mm_ex_iff {d y pc : Nat} {ls st : List Value} {S : mm_S} {r : Option Value × mm_S} : mm_ex d y pc ls st S = some r ↔ ∃ f, mm_run f d y pc ls st S = some r := by
  classical
  unfold mm_ex
  constructor
  · intro h
    split at h
    · rename_i hx
      obtain ⟨f, hf⟩ := Classical.choose_spec hx
      exact ⟨f, by rw [hf]; exact h⟩
    · cases h
  · rintro ⟨f, hf⟩
    have hx : ∃ r, ∃ f, mm_run f d y pc ls st S = some r := ⟨r, f, hf⟩
    rw [dif_pos hx]
    obtain ⟨g, hg⟩ := Classical.choose_spec hx
    exact congrArg some (mm_run_det hg hf)
noncomputable def mm_cl (d y : Nat) (as : List Value) (S : mm_S) : mm_Res := match mm_mt[y]? with
  | none => none
  | some u => if (mm_as as).length ≤ u.2.2.1 then mm_ex d y 0 (mm_en u.2.2.1 as) [] S else none
def mm_bd (x : mm_Res) (k : Option Value → mm_S → mm_Res) : mm_Res := match x with
  | none => none
  | some r => k r.1 r.2
section MMX
variable {d y pc len : Nat} {ls st : List Value} {S : mm_S} {t : mm_mT} {i : Instr}
theorem mm_run_eq (ht : mm_mt[y]? = some t) (hd : decode t.2.1 pc = .ok (i, len)) (hl : (mm_lk i len && mm_mo i S (mm_st d t pc ls st S i)) = true) (f : Nat) : mm_run (f + 1) d y pc ls st S = (match mm_st d t pc ls st S i with
        | none => none
        | some (.inl q) => mm_run f d y q.1 q.2.1 q.2.2.1 q.2.2.2
        | some (.inr (.inl q)) => match (generalizing := false) d with
          | 0 => none
          | d + 1 => if q.1 < mm_nc then (match mm_mt[q.1]? with
            | none => none
            | some u => if (mm_as q.2.1).length ≤ u.2.2.1 then (match mm_run f d q.1 0 (mm_en u.2.2.1 q.2.1) [] q.2.2.2 with
              | none => none
              | some r => mm_run f (d + 1) y (pc + 3) ls (r.1.toList ++ q.2.2.1) r.2) else none) else none
        | some (.inr (.inr r)) => some r) := by
  conv => lhs; unfold mm_run
  simp only [ht, hd, if_pos hl]
theorem mm_ex_go (ht : mm_mt[y]? = some t) (hd : decode t.2.1 pc = .ok (i, len)) (hl : mm_lk i len = true) {pc' : Nat} {ls' st' : List Value} {S' : mm_S} (hs : mm_st d t pc ls st S i = mm_go pc' ls' st' S') (hm : mm_n S ≤ mm_n S' ∧ mm_z S ≤ mm_z S') : mm_ex d y pc ls st S = mm_ex d y pc' ls' st' S' := by
  have hl : (mm_lk i len && mm_mo i S (mm_st d t pc ls st S i)) = true := by
    rw [hs, hl]
    simp [mm_mo, mm_go, hm]
  apply Option.ext
  intro r
  rw [mm_ex_iff, mm_ex_iff]
  constructor
  · rintro ⟨f, h⟩
    cases f with
    | zero => cases h
    | succ f =>
      rw [mm_run_eq ht hd hl, hs] at h
      exact ⟨f, h⟩
  · rintro ⟨f, h⟩
    refine ⟨f + 1, ?_⟩
    rw [mm_run_eq ht hd hl, hs]
    exact h
theorem mm_ex_rt (ht : mm_mt[y]? = some t) (hd : decode t.2.1 pc = .ok (i, len)) (hl : mm_lk i len = true) {v : Option Value} {S' : mm_S} (hs : mm_st d t pc ls st S i = mm_rt v S') (hi : mm_ir i = true) (hm : mm_n S ≤ mm_n S' ∧ mm_z S ≤ mm_z S') : mm_ex d y pc ls st S = some (v, S') := by
  have hl : (mm_lk i len && mm_mo i S (mm_st d t pc ls st S i)) = true := by
    rw [hs, hl]
    simp [mm_mo, mm_rt, hm, hi]
  rw [mm_ex_iff]
  refine ⟨1, ?_⟩
  rw [mm_run_eq ht hd hl, hs]
  rfl
theorem mm_ex_ca (ht : mm_mt[y]? = some t) (hd : decode t.2.1 pc = .ok (i, len)) (hl : mm_lk i len = true) {z : Nat} {as st' : List Value} {S' : mm_S} (hs : mm_st (d + 1) t pc ls st S i = mm_ca z as st' S') (hi : mm_iv i = true) (hm : mm_n S ≤ mm_n S' ∧ mm_z S ≤ mm_z S') (hz : z < mm_nc) : mm_ex (d + 1) y pc ls st S = mm_bd (mm_cl d z as S') (fun v S2 => mm_ex (d + 1) y (pc + 3) ls (v.toList ++ st') S2) := by
  have hl : (mm_lk i len && mm_mo i S (mm_st (d + 1) t pc ls st S i)) = true := by
    rw [hs, hl]
    simp [mm_mo, mm_ca, hm, hi]
  apply Option.ext
  intro r
  have hzt : mm_mt[z]? = mm_mc[z]? := by
    unfold mm_mt
    rw [List.getElem?_append_left (by rw [mm_mc_len]; exact hz)]
  cases hu : mm_mt[z]? with
  | none =>
    rw [hzt] at hu
    have h1 := List.getElem?_eq_none_iff.mp hu
    rw [mm_mc_len] at h1
    omega
  | some u =>
    unfold mm_cl mm_bd
    simp only [hu]
    rw [mm_ex_iff]
    constructor
    · rintro ⟨f, h⟩
      cases f with
      | zero => cases h
      | succ f =>
        rw [mm_run_eq ht hd hl, hs] at h
        simp only [mm_ca, if_pos hz, hu] at h
        by_cases hf : (mm_as as).length ≤ u.2.2.1
        · simp only [if_pos hf] at h ⊢
          cases hr : mm_run f d z 0 (mm_en u.2.2.1 as) [] S' with
          | none => rw [hr] at h; cases h
          | some q =>
            rw [hr] at h
            rw [mm_ex_iff.mpr ⟨f, hr⟩]
            exact mm_ex_iff.mpr ⟨f, h⟩
        · rw [if_neg hf] at h; cases h
    · intro h
      by_cases hf : (mm_as as).length ≤ u.2.2.1
      · simp only [if_pos hf] at h
        cases hq : mm_ex d z 0 (mm_en u.2.2.1 as) [] S' with
        | none => rw [hq] at h; cases h
        | some q =>
          rw [hq] at h
          obtain ⟨f, hf1⟩ := mm_ex_iff.mp hq
          obtain ⟨g, hg1⟩ := mm_ex_iff.mp h
          refine ⟨max f g + 1, ?_⟩
          rw [mm_run_eq ht hd hl, hs]
          simp only [mm_ca, if_pos hz, hu, if_pos hf]
          rw [mm_run_le (Nat.le_max_left f g) hf1]
          exact mm_run_le (Nat.le_max_right f g) hg1
      · rw [if_neg hf] at h; cases h
end MMX
end
section
/-! ===== the numbered cells as a world of the kit's ===== -/
def mm_ad (aa : Nat → Nat) (z : Value) (v : Value) : Value := match v with
  | .ref i => .ref (aa i)
  | .retAddr _ => z
  | v => v
def mm_fs (aa : Nat → Nat) (S : mm_S) (k i : Nat) : List Value := (List.range (mm_NF k)).map fun j => if mm_tg k j = 1 then .long (mm_L S i j) else if mm_tg k j = 2 then va_rf ((mm_R S i j).map aa) else .int (mm_M S i j)
def mm_ce1 (ca : Nat → ClassId) (aa : Nat → Nat) (S : mm_S) (i : Nat) : va_E :=
  if mm_K S i < 13 then .inr (mm_K S i, mm_fs aa S (mm_K S i) i)
  else if mm_K S i = 14 then .inl (ca (mm_K S i), mm_N S i, .inr (.inl (mm_L S i)))
  else if 16 ≤ mm_K S i then .inl (ca (mm_K S i), mm_N S i, .inr (.inr (.inr (.inr fun j => (mm_R S i j).map aa))))
  else .inl (ca (mm_K S i), mm_N S i, .inl (mm_M S i))
def mm_ws (ca : Nat → ClassId) (aa : Nat → Nat) (S : mm_S) : va_W := (List.range (mm_n S)).map fun i => (aa i, mm_ce1 ca aa S i)
def mm_ats (ca : Nat → ClassId) : List (ClassId × FieldType) := [(ca 13, .int), (ca 14, .long), (ca 15, .boolean), (ca 16, .object "PennyMore$Buyer"), (ca 17, .object "PennyMore$Shop"), (ca 18, .object "PennyMore$Tape")]
def mm_wf (S : mm_S) : Prop := (∀ i, i < mm_n S → ∀ j b, mm_R S i j = some b → b < mm_n S) ∧ mm_n S ≤ 1000000
def mm_vok (S : mm_S) (v : Value) : Prop := match v with
  | .ref i => i < mm_n S ∨ 1000000 ≤ i
  | _ => True
theorem mm_ws_get {ca : Nat → ClassId} {aa : Nat → Nat} {S : mm_S} {i : Nat} (h : i < mm_n S) : (mm_ws ca aa S)[i]? = some (aa i, mm_ce1 ca aa S i) := by
  simp [mm_ws, h]
theorem mm_ws_len {ca : Nat → ClassId} {aa : Nat → Nat} {S : mm_S} : (mm_ws ca aa S).length = mm_n S := by simp [mm_ws]
theorem mm_ws_set {ca : Nat → ClassId} {aa : Nat → Nat} {S S' : mm_S} {i : Nat} {e : va_E} (he : mm_ce1 ca aa S' i = e) (hn : mm_n S' = mm_n S) (hj : ∀ j, j ≠ i → mm_ce1 ca aa S' j = mm_ce1 ca aa S j) : (mm_ws ca aa S).set i (aa i, e) = mm_ws ca aa S' := by
  apply List.ext_getElem?
  intro j
  by_cases hl : j < mm_n S
  · rw [mm_ws_get (S := S') (by rw [hn]; exact hl)]
    by_cases h : j = i
    · subst h
      rw [List.getElem?_set_self (by rw [mm_ws_len]; exact hl), he]
    · rw [List.getElem?_set_ne (Ne.symm h), mm_ws_get hl, hj j h]
  · rw [List.getElem?_eq_none (by rw [List.length_set, mm_ws_len]; omega), List.getElem?_eq_none (by rw [mm_ws_len, hn]; omega)]
theorem mm_u_self {α : Type} {f : Nat → α} {k : Nat} {x : α} : mm_u f k x k = x := by simp [mm_u]
theorem mm_u_ne {α : Type} {f : Nat → α} {k j : Nat} {x : α} (h : j ≠ k) : mm_u f k x j = f j := by simp [mm_u, h]
theorem mm_ce1_sM {ca : Nat → ClassId} {aa : Nat → Nat} {S : mm_S} {i : Nat} {f : Nat → Int32} : ∀ j, j ≠ i → mm_ce1 ca aa (mm_sM S i f) j = mm_ce1 ca aa S j := by
  intro j hj
  have e1 : mm_M (mm_sM S i f) j = mm_M S j := mm_u_ne hj
  have e2 : ∀ k, mm_fs aa (mm_sM S i f) k j = mm_fs aa S k j := fun k => by
    unfold mm_fs
    rw [e1]; rfl
  unfold mm_ce1
  rw [e1, e2]; rfl
theorem mm_ce1_sL {ca : Nat → ClassId} {aa : Nat → Nat} {S : mm_S} {i : Nat} {f : Nat → Int64} : ∀ j, j ≠ i → mm_ce1 ca aa (mm_sL S i f) j = mm_ce1 ca aa S j := by
  intro j hj
  have e1 : mm_L (mm_sL S i f) j = mm_L S j := mm_u_ne hj
  have e2 : ∀ k, mm_fs aa (mm_sL S i f) k j = mm_fs aa S k j := fun k => by
    unfold mm_fs
    rw [e1]; rfl
  unfold mm_ce1
  rw [e1, e2]; rfl
theorem mm_ce1_sR {ca : Nat → ClassId} {aa : Nat → Nat} {S : mm_S} {i : Nat} {f : Nat → Option Nat} : ∀ j, j ≠ i → mm_ce1 ca aa (mm_sR S i f) j = mm_ce1 ca aa S j := by
  intro j hj
  have e1 : mm_R (mm_sR S i f) j = mm_R S j := mm_u_ne hj
  have e2 : ∀ k, mm_fs aa (mm_sR S i f) k j = mm_fs aa S k j := fun k => by
    unfold mm_fs
    rw [e1]; rfl
  unfold mm_ce1
  rw [e1, e2]; rfl
/-- where the numbers are the same, the cell is -/
theorem mm_ce1_aa {ca : Nat → ClassId} {aa bb : Nat → Nat} {S : mm_S} {i : Nat} (h : ∀ j b, mm_R S i j = some b → bb b = aa b) : mm_ce1 ca bb S i = mm_ce1 ca aa S i := by
  have e1 : ∀ j, (mm_R S i j).map bb = (mm_R S i j).map aa := fun j => by
    cases hr : mm_R S i j with
    | none => rfl
    | some b => simp [h j b hr]
  have e2 : ∀ k, mm_fs bb S k i = mm_fs aa S k i := fun k => by
    unfold mm_fs
    simp only [e1]
  unfold mm_ce1
  simp only [e1, e2]
theorem mm_ws_push {ca : Nat → ClassId} {aa : Nat → Nat} {S : mm_S} {k n q : Nat} {e : va_E} (hw : mm_wf S) (he : mm_ce1 ca (mm_u aa (mm_n S) q) (mm_nw S k n) (mm_n S) = e) : mm_ws ca aa S ++ [(q, e)] = mm_ws ca (mm_u aa (mm_n S) q) (mm_nw S k n) := by
  have hn : mm_n (mm_nw S k n) = mm_n S + 1 := rfl
  apply List.ext_getElem?
  intro j
  rcases Nat.lt_trichotomy j (mm_n S) with hj | hj | hj
  · rw [List.getElem?_append_left (by rw [mm_ws_len]; exact hj), mm_ws_get hj, mm_ws_get (by rw [hn]; omega)]
    have hne : j ≠ mm_n S := by omega
    have a1 : mm_u aa (mm_n S) q j = aa j := mm_u_ne hne
    have r1 : mm_R (mm_nw S k n) j = mm_R S j := mm_u_ne hne
    have m1 : mm_M (mm_nw S k n) j = mm_M S j := mm_u_ne hne
    have l1 : mm_L (mm_nw S k n) j = mm_L S j := mm_u_ne hne
    have k1 : mm_K (mm_nw S k n) j = mm_K S j := mm_u_ne hne
    have n1 : mm_N (mm_nw S k n) j = mm_N S j := mm_u_ne hne
    rw [a1, mm_ce1_aa (aa := aa) (fun i b h => mm_u_ne (by have := hw.1 j hj i b (by rw [← r1]; exact h); omega))]
    have e2 : ∀ k', mm_fs aa (mm_nw S k n) k' j = mm_fs aa S k' j := fun k' => by
      unfold mm_fs
      rw [r1, m1, l1]
    unfold mm_ce1
    rw [k1, n1, m1, l1, r1, e2]
  · subst hj
    rw [List.getElem?_append_right (by rw [mm_ws_len]; exact Nat.le_refl _), mm_ws_get (by rw [hn]; omega), mm_ws_len, Nat.sub_self, mm_u_self, he]
    rfl
  · rw [List.getElem?_eq_none (by simp [mm_ws_len]; omega), List.getElem?_eq_none (by rw [mm_ws_len, hn]; omega)]
theorem mm_cls_get : ∀ k, k < 13 → mm_cl_s[k]? = some (mm_ck k, mm_T k, mm_NF k) := by
  intro k hk
  match k, hk with
  | 0, _ => rfl
  | 1, _ => rfl
  | 2, _ => rfl
  | 3, _ => rfl
  | 4, _ => rfl
  | 5, _ => rfl
  | 6, _ => rfl
  | 7, _ => rfl
  | 8, _ => rfl
  | 9, _ => rfl
  | 10, _ => rfl
  | 11, _ => rfl
  | 12, _ => rfl
  | k + 13, h => exact absurd h (by omega)
theorem mm_ad_cat {aa : Nat → Nat} {z v : Value} (hz : z.category = 1) : (mm_ad aa z v).category = v.category := by
  cases v <;> first | rfl | exact hz
theorem mm_cs_map {aa : Nat → Nat} {z : Value} (hz : z.category = 1) : ∀ l : List Value, ((l.map (mm_ad aa z)).map fun v => v.category).sum = mm_cs l
  | [] => rfl
  | v :: l => by
    simp only [List.map_cons, List.sum_cons, mm_cs]
    rw [mm_ad_cat hz, mm_cs_map hz l]
theorem mm_ad_aa {aa bb : Nat → Nat} {z v : Value} {S : mm_S} (hv : mm_vok S v) (h : ∀ i, i < mm_n S ∨ 1000000 ≤ i → bb i = aa i) : mm_ad bb z v = mm_ad aa z v := by
  cases v <;> try rfl
  rename_i i
  exact congrArg Value.ref (h i hv)
theorem mm_map_aa {aa bb : Nat → Nat} {z : Value} {S : mm_S} {l : List Value} (hv : ∀ v ∈ l, mm_vok S v) (h : ∀ i, i < mm_n S ∨ 1000000 ≤ i → bb i = aa i) : l.map (mm_ad bb z) = l.map (mm_ad aa z) :=
  List.map_congr_left fun v hm => mm_ad_aa (hv v hm) h
theorem mm_ad_ref {aa : Nat → Nat} {z : Value} {i : Nat} : mm_ad aa z (.ref i) = .ref (aa i) := rfl
theorem mm_ad_rv {aa : Nat → Nat} {z : Value} {o : Option Nat} : mm_ad aa z (mm_rv o) = va_rf (o.map aa) := by cases o <;> rfl
/-! ===== the locals ===== -/
def mm_la (aa : Nat → Nat) (z : Value) (ls : List Value) : List (Nat × Value) := (List.range ls.length).filterMap fun i => match mm_lg ls i with
  | .null => none
  | v => some (i, mm_ad aa z v)
def mm_Lr (aa : Nat → Nat) (z : Value) (ls : List Value) (lm : Array Slot) (n : Nat) : Prop := ls.length = n ∧ lv_has lm n (mm_la aa z ls)
theorem mm_la_mem {aa : Nat → Nat} {z : Value} {ls : List Value} {q : Nat × Value} : q ∈ mm_la aa z ls ↔ ∃ v, q.1 < ls.length ∧ mm_lg ls q.1 = v ∧ v ≠ .null ∧ q.2 = mm_ad aa z v := by
  unfold mm_la
  rw [List.mem_filterMap]
  constructor
  · rintro ⟨i, hi, h⟩
    rw [List.mem_range] at hi
    cases hv : mm_lg ls i <;> rw [hv] at h <;> simp only [Option.some.injEq, reduceCtorEq] at h <;> subst h <;> exact ⟨_, hi, hv, by simp, rfl⟩
  · rintro ⟨v, hi, hv, hn, h2⟩
    refine ⟨q.1, List.mem_range.mpr hi, ?_⟩
    obtain ⟨i, w⟩ := q
    simp only at hv h2 ⊢
    rw [hv]
    subst h2
    cases v <;> first | rfl | exact absurd rfl hn
theorem lv_has_sub {ls : Array Slot} {n : Nat} {l l' : List (Nat × Value)} (h : lv_has ls n l) (hs : ∀ q ∈ l', q ∈ l) : lv_has ls n l' := ⟨h.1, h.2.1, fun q hq => h.2.2 q (hs q hq)⟩
theorem mm_Lr_get {aa : Nat → Nat} {z v : Value} {ls : List Value} {lm : Array Slot} {n k : Nat} (h : mm_Lr aa z ls lm n) (hv : mm_lg ls k = v) (hn : v ≠ .null) : lm[k]? = some (.val (mm_ad aa z v)) := by
  have hk : k < ls.length := by
    rcases Nat.lt_or_ge k ls.length with q | q
    · exact q
    · unfold mm_lg at hv
      rw [List.getD_eq_getElem?_getD, List.getElem?_eq_none q] at hv
      exact absurd hv.symm hn
  exact h.2.2.2 (k, mm_ad aa z v) (mm_la_mem.mpr ⟨v, hk, hv, hn, rfl⟩)
theorem mm_lg_set {ls : List Value} {i j : Nat} {v : Value} : mm_lg (ls.set i v) j = if j = i ∧ i < ls.length then v else mm_lg ls j := by
  unfold mm_lg
  rw [List.getD_eq_getElem?_getD, List.getD_eq_getElem?_getD, List.getElem?_set]
  by_cases h : i = j
  · subst h
    by_cases hl : i < ls.length
    · simp [hl]
    · simp [hl, List.getElem?_eq_none (Nat.not_lt.mp hl)]
  · have h2 : ¬ (j = i ∧ i < ls.length) := fun q => h q.1.symm
    rw [if_neg h, if_neg h2]
theorem mm_kl_len {ls : List Value} {i : Nat} : (mm_kl ls i).length = ls.length := by cases i <;> simp [mm_kl]
theorem mm_l1_len {ls : List Value} {i : Nat} {v : Value} : (mm_l1 ls i v).length = ls.length := by simp [mm_l1, mm_kl_len]
theorem mm_l2_len {ls : List Value} {i : Nat} {v : Value} : (mm_l2 ls i v).length = ls.length := by simp [mm_l2, mm_kl_len]
theorem mm_lg_kl {ls : List Value} {i j : Nat} {v : Value} (h : mm_lg (mm_kl ls i) j = v) (hn : v ≠ .null) (hj : j < ls.length) : mm_lg ls j = v ∧ ¬ (j + 1 = i ∧ v.category = 2) := by
  cases i with
  | zero => exact ⟨h, by omega⟩
  | succ k =>
    unfold mm_kl at h
    rw [mm_lg_set] at h
    by_cases hk : j = k
    · subst hk
      rw [if_pos ⟨rfl, hj⟩] at h
      unfold mm_k1 at h
      split at h
      · exact absurd h.symm hn
      · rename_i hc
        subst h
        exact ⟨rfl, fun q => hc q.2⟩
    · rw [if_neg (fun q => hk q.1)] at h
      exact ⟨h, by omega⟩
theorem mm_Lr_1 {aa : Nat → Nat} {z v : Value} {ls : List Value} {lm lm' : Array Slot} {n i : Nat} (hz : z.category = 1) (h : mm_Lr aa z ls lm n) (h2 : lv_has lm' n ((i, mm_ad aa z v) :: (mm_la aa z ls).filter (fun q => !(q.1 == i) && !(q.1 + 1 == i && q.2.category == 2)))) : mm_Lr aa z (mm_l1 ls i v) lm' n := by
  refine ⟨mm_l1_len.trans h.1, lv_has_sub h2 fun q hq => ?_⟩
  obtain ⟨w, a1, a2, a3, a4⟩ := mm_la_mem.mp hq
  rw [mm_l1_len] at a1
  obtain ⟨j, x⟩ := q
  simp only at a1 a2 a4
  unfold mm_l1 at a2
  rw [mm_lg_set] at a2
  by_cases hj : j = i
  · subst hj
    rw [if_pos ⟨rfl, by rw [mm_kl_len]; exact a1⟩] at a2
    subst a2
    rw [a4]; exact List.mem_cons_self
  · rw [if_neg (fun q => hj q.1)] at a2
    obtain ⟨b1, b2⟩ := mm_lg_kl a2 a3 a1
    refine List.mem_cons_of_mem _ (List.mem_filter.mpr ⟨mm_la_mem.mpr ⟨w, a1, b1, a3, a4⟩, ?_⟩)
    simp only [a4, mm_ad_cat hz]
    have : ¬ (j + 1 = i ∧ w.category = 2) := b2
    simp only [Bool.and_eq_true, Bool.not_eq_true', beq_eq_false_iff_ne, ne_eq, hj, not_false_eq_true, true_and, Bool.and_eq_false_iff]
    by_cases hc : j + 1 = i
    · exact Or.inr fun q => b2 ⟨hc, q⟩
    · exact Or.inl hc
theorem mm_Lr_2 {aa : Nat → Nat} {z v : Value} {ls : List Value} {lm lm' : Array Slot} {n i : Nat} (hz : z.category = 1) (h : mm_Lr aa z ls lm n) (h2 : lv_has lm' n ((i, mm_ad aa z v) :: (mm_la aa z ls).filter (fun q => !(q.1 == i) && (!(q.1 == i + 1) && !(q.1 + 1 == i && q.2.category == 2))))) : mm_Lr aa z (mm_l2 ls i v) lm' n := by
  refine ⟨mm_l2_len.trans h.1, lv_has_sub h2 fun q hq => ?_⟩
  obtain ⟨w, a1, a2, a3, a4⟩ := mm_la_mem.mp hq
  rw [mm_l2_len] at a1
  obtain ⟨j, x⟩ := q
  simp only at a1 a2 a4
  unfold mm_l2 at a2
  rw [mm_lg_set] at a2
  by_cases hj1 : j = i + 1
  · subst hj1
    rw [if_pos ⟨rfl, by rw [List.length_set, mm_kl_len]; exact a1⟩] at a2
    exact absurd a2.symm a3
  · rw [if_neg (fun q => hj1 q.1), mm_lg_set] at a2
    by_cases hj : j = i
    · subst hj
      rw [if_pos ⟨rfl, by rw [mm_kl_len]; exact a1⟩] at a2
      subst a2
      rw [a4]; exact List.mem_cons_self
    · rw [if_neg (fun q => hj q.1)] at a2
      obtain ⟨b1, b2⟩ := mm_lg_kl a2 a3 a1
      refine List.mem_cons_of_mem _ (List.mem_filter.mpr ⟨mm_la_mem.mpr ⟨w, a1, b1, a3, a4⟩, ?_⟩)
      simp only [a4, mm_ad_cat hz]
      simp only [Bool.and_eq_true, Bool.not_eq_true', beq_eq_false_iff_ne, ne_eq, hj, hj1, not_false_eq_true, true_and, Bool.and_eq_false_iff]
      by_cases hc : j + 1 = i
      · exact Or.inr fun q => b2 ⟨hc, q⟩
      · exact Or.inl hc
theorem mm_Lr_aa {aa bb : Nat → Nat} {z : Value} {S : mm_S} {ls : List Value} {lm : Array Slot} {n : Nat} (h : mm_Lr aa z ls lm n) (hv : ∀ v ∈ ls, mm_vok S v) (he : ∀ i, i < mm_n S ∨ 1000000 ≤ i → bb i = aa i) : mm_Lr bb z ls lm n := by
  refine ⟨h.1, lv_has_sub h.2 fun q hq => ?_⟩
  obtain ⟨w, a1, a2, a3, a4⟩ := mm_la_mem.mp hq
  have hm : w ∈ ls := by
    unfold mm_lg at a2
    rw [List.getD_eq_getElem?_getD, List.getElem?_eq_getElem a1] at a2
    rw [← a2]
    exact List.getElem_mem a1
  exact mm_la_mem.mpr ⟨w, a1, a2, a3, by rw [a4]; exact mm_ad_aa (hv w hm) he⟩
theorem mm_lg_vok {S : mm_S} {ls : List Value} (hv : ∀ v ∈ ls, mm_vok S v) (k : Nat) : mm_vok S (mm_lg ls k) := by
  unfold mm_lg
  rw [List.getD_eq_getElem?_getD]
  cases h : ls[k]? with
  | none => exact trivial
  | some v => exact hv v (List.mem_of_getElem? h)
theorem mm_set_vok {S : mm_S} {ls : List Value} (hv : ∀ v ∈ ls, mm_vok S v) {i : Nat} {v : Value} (h : mm_vok S v) : ∀ w ∈ ls.set i v, mm_vok S w := by
  intro w hw
  rcases List.mem_or_eq_of_mem_set hw with q | q
  · exact hv w q
  · rw [q]; exact h
theorem mm_kl_vok {S : mm_S} {ls : List Value} (hv : ∀ v ∈ ls, mm_vok S v) (i : Nat) : ∀ w ∈ mm_kl ls i, mm_vok S w := by
  cases i with
  | zero => exact hv
  | succ k =>
    refine mm_set_vok hv ?_
    unfold mm_k1
    split
    · exact trivial
    · exact mm_lg_vok hv k
theorem mm_l1_vok {S : mm_S} {ls : List Value} (hv : ∀ v ∈ ls, mm_vok S v) {i : Nat} {v : Value} (h : mm_vok S v) : ∀ w ∈ mm_l1 ls i v, mm_vok S w := mm_set_vok (mm_kl_vok hv i) h
theorem mm_l2_vok {S : mm_S} {ls : List Value} (hv : ∀ v ∈ ls, mm_vok S v) {i : Nat} {v : Value} (h : mm_vok S v) : ∀ w ∈ mm_l2 ls i v, mm_vok S w := mm_set_vok (mm_set_vok (mm_kl_vok hv i) h) trivial
/-! ===== an entry's locals ===== -/
theorem mm_as_len {aa : Nat → Nat} {z : Value} (hz : z.category = 1) : ∀ as : List Value, (lg_sl (as.map (mm_ad aa z))).length = (mm_as as).length
  | [] => rfl
  | v :: l => by
    have ih := mm_as_len (aa := aa) hz l
    simp only [lg_sl, List.map_cons, List.flatMap_cons, mm_ad_cat hz, mm_as]
    simp only [lg_sl] at ih
    by_cases h : v.category = 2
    · simp only [if_pos h, List.length_append, List.length_cons, List.length_nil, ih]; omega
    · simp only [if_neg h, List.length_append, List.length_cons, List.length_nil, ih]; omega
theorem mm_as_args {aa : Nat → Nat} {z : Value} (hz : z.category = 1) : ∀ (as : List Value) (k : Nat) (v : Value) (j : Nat), (mm_as as)[j]? = some v → v ≠ .null → (k + j, mm_ad aa z v) ∈ lv_args k (as.map (mm_ad aa z))
  | [], k, v, j, h, _ => by simp [mm_as] at h
  | w :: l, k, v, j, h, hn => by
    simp only [List.map_cons, lv_args, mm_ad_cat hz]
    unfold mm_as at h
    by_cases hc : w.category = 2
    · rw [if_pos hc] at h ⊢
      match j, h with
      | 0, h => cases h; exact List.mem_cons_self
      | 1, h => cases h; exact absurd rfl hn
      | j + 2, h =>
        have := mm_as_args (aa := aa) hz l (k + 2) v j (by simpa using h) hn
        exact List.mem_cons_of_mem _ (by rw [show k + (j + 2) = k + 2 + j by omega]; exact this)
    · rw [if_neg hc] at h ⊢
      match j, h with
      | 0, h => cases h; exact List.mem_cons_self
      | j + 1, h =>
        have := mm_as_args (aa := aa) hz l (k + 1) v j (by simpa using h) hn
        exact List.mem_cons_of_mem _ (by rw [show k + (j + 1) = k + 1 + j by omega]; exact this)
theorem mm_en_Lr {aa : Nat → Nat} {z : Value} (hz : z.category = 1) {as : List Value} {n : Nat} (hn : (mm_as as).length ≤ n) : mm_Lr aa z (mm_en n as) ((lg_sl (as.map (mm_ad aa z)) ++ List.replicate (n - (lg_sl (as.map (mm_ad aa z))).length) Slot.unset).toArray) n := by
  have h := lv_entry (as.map (mm_ad aa z)) (n := n) (by rw [mm_as_len hz]; exact hn)
  refine ⟨by simp [mm_en]; omega, lv_has_sub h fun q hq => ?_⟩
  obtain ⟨w, a1, a2, a3, a4⟩ := mm_la_mem.mp hq
  obtain ⟨j, x⟩ := q
  simp only at a1 a2 a4
  have hj : (mm_as as)[j]? = some w := by
    unfold mm_lg mm_en at a2
    rw [List.getD_eq_getElem?_getD, List.getElem?_append] at a2
    split at a2
    · rename_i hl
      rw [List.getElem?_eq_getElem hl] at a2 ⊢
      exact congrArg some a2
    · rw [List.getElem?_replicate] at a2
      split at a2 <;> exact absurd a2.symm a3
  rw [a4]
  have := mm_as_args (aa := aa) hz as 0 w j hj a3
  rw [Nat.zero_add] at this
  exact this
end
section
/-! ===== each instruction of the small machine is one of the machine's ===== -/
def mm_sl : List Nat := (List.range 12).map fun k => (mm_sx k).2.2.length
def mm_sb : List (List Int32) := (List.range 12).map fun k => (mm_sx k).2.2
def mm_Ev (z : Value) (aa : Nat → Nat) (A : Nat → Prop) (U : State) (H : Heap) : Prop :=
  vk_S 12 mm_sl mm_sb (fun k => aa (1000000 + 2 * k)) (fun k => aa (1000000 + 2 * k + 1)) A U H ∧
  (∀ k, k < 12 → vk_R "PennyMore$Reader" (mm_sx k).1 (mm_sx k).2.1 (aa (1000000 + 2 * k)) U) ∧
  va_Z "java/lang/String" "COMPACT_STRINGS" "Z" (.int 1) A U H ∧
  va_Z "jdk/internal/util/Preconditions" "SIOOBE_FORMATTER" "Ljava/util/function/BiFunction;" z A U H ∧
  z.category = 1 ∧ (∀ q ∈ mm_NC, va_Nc q.1 q.2 U) ∧ (∀ q ∈ mm_E1, va_Nw (.castable q.1 q.2) U) ∧ (∀ q ∈ mm_E2, va_AO q U) ∧ (∀ q ∈ mm_E3, va_Nw (.methodLinkNest q.1 q.2.1 q.2.2.1 q.2.2.2) U)
/-- what stays the same in a frame -/
def mm_Fx (p : Program) (R : Room) (s : State) (m : MethodId) (args : Array Value) (meth : Method) (c : Code) (D : va_G) (ca : Nat → ClassId) (A : Nat → Prop) (d : Nat) (t : mm_mT) : Prop :=
  p.tables.exec = Jvm.exec ∧ c.code = t.2.1 ∧ c.maxLocals = t.2.2.1 ∧ s.vm.findClass (mm_cn t.2.2.2.2) = some m.cls ∧ (∀ w ∈ mm_G, w.before args s = true) ∧ (t.1.name = "<init>" → meth.name = "<init>") ∧ t.1.cls = mm_cn t.2.2.2.2 ∧ va_K D mm_cl_s (mm_ats ca) s ∧ (∀ q, s.heap.size ≤ q → A q) ∧ d ≤ R.frames ∧ 60 * d ≤ R.locals
/-- the world as it is -/
def mm_Ix (s : State) (D : va_G) (ca : Nat → ClassId) (z : Value) (A : Nat → Prop) (t : mm_mT) (XS : Nat × (Nat → Int32)) (aa : Nat → Nat) (S : mm_S) (H : Heap) (locs : List Loc) : Prop :=
  va_P D mm_cl_s (mm_ws ca aa S) H ∧ va_D A (mm_ws ca aa S) ∧ va_S A s.heap H locs ∧ mm_wf S ∧ mm_Ev z aa A s s.heap ∧ mm_N S mm_SC = XS.1 ∧ mm_M S mm_SC = XS.2 ∧ (t.2.2.2.2 = 17 → va_X (aa mm_SC) XS.1 XS.2 s s.heap ∧ aa mm_SC < s.heap.size ∧ ¬ A (aa mm_SC))
/-- locals and stack -/
def mm_Sx (aa : Nat → Nat) (z : Value) (S : mm_S) (t : mm_mT) (ls : List Value) (lm : Array Slot) (st : List Value) : Prop := (∀ v ∈ ls, mm_vok S v) ∧ (∀ v ∈ st, mm_vok S v) ∧ mm_Lr aa z ls lm t.2.2.1
def mm_Kx (p : Program) (l : Launch) (e : Env) (R : Room) (s : State) (m : MethodId) (args : Array Value) (below : List Frame) (meth : Method) (c : Code) (Q : State → Prop) (D : va_G) (ca : Nat → ClassId) (z : Value) (A : Nat → Prop) (t : mm_mT) (XS : Nat × (Nat → Int32)) (aa : Nat → Nat) (S : mm_S) (cells slots : Nat) (pc' : Nat) (ls' st' : List Value) (S' : mm_S) : Prop :=
  ∀ (aa' : Nat → Nat) (H' : Heap) (locs' : List Loc) (lm' : Array Slot) (cells' slots' : Nat), cells' + mm_n S = cells + mm_n S' → slots' + mm_z S = slots + mm_z S' → (∀ i, i < mm_n S ∨ 1000000 ≤ i → aa' i = aa i) → mm_Ix s D ca z A t XS aa' S' H' locs' → mm_Sx aa' z S' t ls' lm' st' → W p l e R s m args below meth c H' locs' cells' slots' Q (F0 m pc' lm' (st'.map (mm_ad aa' z)))
def mm_Ok (i : Instr) : Prop := ∀ (p : Program) (l : Launch) (e : Env) (R : Room) (s : State) (m : MethodId) (args : Array Value) (below : List Frame) (meth : Method) (c : Code) (Q : State → Prop) (D : va_G) (ca : Nat → ClassId) (z : Value) (A : Nat → Prop) (t : mm_mT) (XS : Nat × (Nat → Int32)) (d pc len : Nat) (ls st : List Value) (S : mm_S) (pc' : Nat) (ls' st' : List Value) (S' : mm_S) (aa : Nat → Nat) (H : Heap) (locs : List Loc) (lm : Array Slot) (cells slots : Nat),
  mm_Fx p R s m args meth c D ca A d t → mm_Ix s D ca z A t XS aa S H locs → mm_Sx aa z S t ls lm st → decode t.2.1 pc = .ok (i, len) → mm_lk i len = true → mm_st d t pc ls st S i = mm_go pc' ls' st' S' → cells + mm_n S' ≤ R.cells + mm_n S → slots + mm_z S' ≤ R.slots + mm_z S → mm_Kx p l e R s m args below meth c Q D ca z A t XS aa S cells slots pc' ls' st' S' → W p l e R s m args below meth c H locs cells slots Q (F0 m pc lm (st.map (mm_ad aa z)))
theorem mm_lk_eq {i : Instr} {len k : Nat} (h : mm_lk i len = true) (hk : mm_ln i = k) (h0 : k ≠ 0) : len = k := by
  unfold mm_lk at h
  rw [hk] at h
  simp only [Bool.or_eq_true, decide_eq_true_eq] at h
  rcases h with h | h
  · exact absurd h h0
  · exact h.symm
theorem mm_go_inv {pc pc' : Nat} {ls ls' st st' : List Value} {S S' : mm_S} (h : mm_go pc ls st S = mm_go pc' ls' st' S') : pc = pc' ∧ ls = ls' ∧ st = st' ∧ S = S' := by
  unfold mm_go at h
  simp only [Option.some.injEq, Sum.inl.injEq, Prod.mk.injEq] at h
  exact h
theorem mm_i1_inv {st : List Value} {f : Int32 → List Value → mm_Act} {pc : Nat} {ls st' : List Value} {S : mm_S} (h : mm_i1 st f = mm_go pc ls st' S) : ∃ x r, st = .int x :: r ∧ f x r = mm_go pc ls st' S := by
  unfold mm_i1 at h
  split at h
  · exact ⟨_, _, rfl, h⟩
  · cases h
theorem mm_i2_inv {st : List Value} {f : Int32 → Int32 → List Value → mm_Act} {pc : Nat} {ls st' : List Value} {S : mm_S} (h : mm_i2 st f = mm_go pc ls st' S) : ∃ x y r, st = .int y :: .int x :: r ∧ f x y r = mm_go pc ls st' S := by
  unfold mm_i2 at h
  split at h
  · exact ⟨_, _, _, rfl, h⟩
  · cases h
theorem mm_j1_inv {st : List Value} {f : Int64 → List Value → mm_Act} {pc : Nat} {ls st' : List Value} {S : mm_S} (h : mm_j1 st f = mm_go pc ls st' S) : ∃ x r, st = .long x :: r ∧ f x r = mm_go pc ls st' S := by
  unfold mm_j1 at h
  split at h
  · exact ⟨_, _, rfl, h⟩
  · cases h
theorem mm_j2_inv {st : List Value} {f : Int64 → Int64 → List Value → mm_Act} {pc : Nat} {ls st' : List Value} {S : mm_S} (h : mm_j2 st f = mm_go pc ls st' S) : ∃ x y r, st = .long y :: .long x :: r ∧ f x y r = mm_go pc ls st' S := by
  unfold mm_j2 at h
  split at h
  · exact ⟨_, _, _, rfl, h⟩
  · cases h
theorem mm_r1_inv {st : List Value} {f : Nat → List Value → mm_Act} {pc : Nat} {ls st' : List Value} {S : mm_S} (h : mm_r1 st f = mm_go pc ls st' S) : ∃ (x : Nat) (r : List Value), st = .ref x :: r ∧ f x r = mm_go pc ls st' S := by
  unfold mm_r1 at h
  split at h
  · exact ⟨_, _, rfl, h⟩
  · cases h
theorem mm_pr_inv {st : List Value} {f : Value → Nat → List Value → mm_Act} {pc : Nat} {ls st' : List Value} {S : mm_S} (h : mm_pr st f = mm_go pc ls st' S) : ∃ (v : Value) (a : Nat) (r : List Value), st = v :: .ref a :: r ∧ f v a r = mm_go pc ls st' S := by
  unfold mm_pr at h
  split at h
  · exact ⟨_, _, _, rfl, h⟩
  · cases h
theorem mm_v1_inv {st : List Value} {f : Value → List Value → mm_Act} {pc : Nat} {ls st' : List Value} {S : mm_S} (h : mm_v1 st f = mm_go pc ls st' S) : ∃ v r, st = v :: r ∧ f v r = mm_go pc ls st' S := by
  unfold mm_v1 at h
  split at h
  · exact ⟨_, _, rfl, h⟩
  · cases h
theorem mm_gd_inv {b : Bool} {B : mm_Act} {pc : Nat} {ls st' : List Value} {S : mm_S} (h : mm_gd b B = mm_go pc ls st' S) : b = true ∧ B = mm_go pc ls st' S := by
  unfold mm_gd at h
  split at h
  · exact ⟨by assumption, h⟩
  · cases h
theorem mm_jp_inv {pc : Nat} {off : Int} {ls st : List Value} {S : mm_S} {pc' : Nat} {ls' st' : List Value} {S' : mm_S} (h : mm_jp pc off ls st S = mm_go pc' ls' st' S') : (pc : Int) + off = (pc' : Int) ∧ ls = ls' ∧ st = st' ∧ S = S' := by
  unfold mm_jp at h
  split at h
  · cases h
  · rename_i hn
    obtain ⟨rfl, h2, h3, h4⟩ := mm_go_inv h
    exact ⟨by omega, h2, h3, h4⟩
theorem mm_cj_inv {b : Bool} {pc : Nat} {off : Int} {ls st : List Value} {S : mm_S} {pc' : Nat} {ls' st' : List Value} {S' : mm_S} (h : mm_cj b pc off ls st S = mm_go pc' ls' st' S') : ∃ tgt : Nat, (pc : Int) + off = (tgt : Int) ∧ ls = ls' ∧ st = st' ∧ S = S' ∧ ((b = true ∧ pc' = tgt) ∨ (b = false ∧ pc' = pc + 3)) := by
  unfold mm_cj at h
  split at h
  · cases h
  · rename_i hn
    split at h
    · rename_i hb
      obtain ⟨rfl, h2, h3, h4⟩ := mm_go_inv h
      exact ⟨((pc : Int) + off).toNat, by omega, h2, h3, h4, Or.inl ⟨hb, rfl⟩⟩
    · rename_i hb
      obtain ⟨rfl, h2, h3, h4⟩ := mm_go_inv h
      exact ⟨((pc : Int) + off).toNat, by omega, h2, h3, h4, Or.inr ⟨by simpa using hb, rfl⟩⟩
theorem mm_t1 {S : mm_S} {v : Value} {l : List Value} (h : ∀ w ∈ v :: l, mm_vok S w) : ∀ w ∈ l, mm_vok S w := fun w hw => h w (List.mem_cons_of_mem _ hw)
theorem mm_p1 {S : mm_S} {v : Value} {l : List Value} (hv : mm_vok S v) (h : ∀ w ∈ l, mm_vok S w) : ∀ w ∈ v :: l, mm_vok S w := List.forall_mem_cons.mpr ⟨hv, h⟩
theorem mm_inb_in {i : Int32} {n : Nat} (h : mm_inb i n = true) : vp_in i n := by
  unfold mm_inb at h
  unfold vp_in
  simpa using h

theorem mo_iconst (n : Int) : mm_Ok (.iconst n) := by
  intro p l e R s m args below meth c Q D ca z A t XS d pc len ls st S pc2 ls2 st2 S2 aa H locs lm cells slots F I X hd hl hs hc hz K
  obtain ⟨hx, hb, hml, hown, hts, hnm, hcn, hK, hA, hdf, hdl⟩ := F
  obtain rfl : len = 1 := mm_lk_eq hl rfl (by decide)
  have hs : mm_go (pc + 1) ls (.int (Int32.ofInt n) :: st) S = _ := hs
  obtain ⟨rfl, rfl, rfl, rfl⟩ := mm_go_inv hs
  have K0 : (∀ v ∈ .int (Int32.ofInt n) :: st, mm_vok S v) → W p l e R s m args below meth c H locs cells slots Q (F0 m (pc + 1) lm ((.int (Int32.ofInt n) :: st).map (mm_ad aa z))) := fun hv => K aa H locs lm cells slots rfl rfl (fun _ _ => rfl) I ⟨X.1, hv, X.2.2⟩
  exact lv_iconst hx hb hd rfl (K0 (mm_p1 trivial X.2.1))

theorem mo_bipush (n : Int) : mm_Ok (.bipush n) := by
  intro p l e R s m args below meth c Q D ca z A t XS d pc len ls st S pc2 ls2 st2 S2 aa H locs lm cells slots F I X hd hl hs hc hz K
  obtain ⟨hx, hb, hml, hown, hts, hnm, hcn, hK, hA, hdf, hdl⟩ := F
  obtain rfl : len = 2 := mm_lk_eq hl rfl (by decide)
  have hs : mm_go (pc + 2) ls (.int (Int8.ofInt n).toInt32 :: st) S = _ := hs
  obtain ⟨rfl, rfl, rfl, rfl⟩ := mm_go_inv hs
  have K0 : (∀ v ∈ .int (Int8.ofInt n).toInt32 :: st, mm_vok S v) → W p l e R s m args below meth c H locs cells slots Q (F0 m (pc + 2) lm ((.int (Int8.ofInt n).toInt32 :: st).map (mm_ad aa z))) := fun hv => K aa H locs lm cells slots rfl rfl (fun _ _ => rfl) I ⟨X.1, hv, X.2.2⟩
  exact lv_bipush hx hb hd rfl (K0 (mm_p1 trivial X.2.1))

theorem mo_sipush (n : Int) : mm_Ok (.sipush n) := by
  intro p l e R s m args below meth c Q D ca z A t XS d pc len ls st S pc2 ls2 st2 S2 aa H locs lm cells slots F I X hd hl hs hc hz K
  obtain ⟨hx, hb, hml, hown, hts, hnm, hcn, hK, hA, hdf, hdl⟩ := F
  obtain rfl : len = 3 := mm_lk_eq hl rfl (by decide)
  have hs : mm_go (pc + 3) ls (.int (Int16.ofInt n).toInt32 :: st) S = _ := hs
  obtain ⟨rfl, rfl, rfl, rfl⟩ := mm_go_inv hs
  have K0 : (∀ v ∈ .int (Int16.ofInt n).toInt32 :: st, mm_vok S v) → W p l e R s m args below meth c H locs cells slots Q (F0 m (pc + 3) lm ((.int (Int16.ofInt n).toInt32 :: st).map (mm_ad aa z))) := fun hv => K aa H locs lm cells slots rfl rfl (fun _ _ => rfl) I ⟨X.1, hv, X.2.2⟩
  exact lv_sipush hx hb hd rfl (K0 (mm_p1 trivial X.2.1))

theorem mo_lconst (n : Fin 2) : mm_Ok (.lconst n) := by
  intro p l e R s m args below meth c Q D ca z A t XS d pc len ls st S pc2 ls2 st2 S2 aa H locs lm cells slots F I X hd hl hs hc hz K
  obtain ⟨hx, hb, hml, hown, hts, hnm, hcn, hK, hA, hdf, hdl⟩ := F
  obtain rfl : len = 1 := mm_lk_eq hl rfl (by decide)
  have hs : mm_go (pc + 1) ls (.long (Int64.ofNat (n : Nat)) :: st) S = _ := hs
  obtain ⟨rfl, rfl, rfl, rfl⟩ := mm_go_inv hs
  have K0 : (∀ v ∈ .long (Int64.ofNat (n : Nat)) :: st, mm_vok S v) → W p l e R s m args below meth c H locs cells slots Q (F0 m (pc + 1) lm ((.long (Int64.ofNat (n : Nat)) :: st).map (mm_ad aa z))) := fun hv => K aa H locs lm cells slots rfl rfl (fun _ _ => rfl) I ⟨X.1, hv, X.2.2⟩
  exact lv_lconst hx hb hd rfl (K0 (mm_p1 trivial X.2.1))

theorem mo_iload (k : Nat) : mm_Ok (.iload k) := by
  intro p l e R s m args below meth c Q D ca z A t XS d pc len ls st S pc2 ls2 st2 S2 aa H locs lm cells slots F I X hd hl hs hc hz K
  obtain ⟨hx, hb, hml, hown, hts, hnm, hcn, hK, hA, hdf, hdl⟩ := F
  obtain rfl : len = 2 := mm_lk_eq hl rfl (by decide)
  have hs : mm_i1 [mm_lg ls k] (fun x _ => mm_go (pc + 2) ls (.int x :: st) S) = _ := hs
  obtain ⟨x, r, hv, hs⟩ := mm_i1_inv hs
  have hv : mm_lg ls k = .int x := (List.cons.inj hv).1
  obtain ⟨rfl, rfl, rfl, rfl⟩ := mm_go_inv hs
  have K0 : (∀ v ∈ .int x :: st, mm_vok S v) → W p l e R s m args below meth c H locs cells slots Q (F0 m (pc + 2) lm ((.int x :: st).map (mm_ad aa z))) := fun hv => K aa H locs lm cells slots rfl rfl (fun _ _ => rfl) I ⟨X.1, hv, X.2.2⟩
  exact lv_iload hx hb hd (mm_Lr_get X.2.2 hv (by simp)) (K0 (mm_p1 trivial X.2.1))

theorem mo_iload_n (k : Fin 4) : mm_Ok (.iload_n k) := by
  intro p l e R s m args below meth c Q D ca z A t XS d pc len ls st S pc2 ls2 st2 S2 aa H locs lm cells slots F I X hd hl hs hc hz K
  obtain ⟨hx, hb, hml, hown, hts, hnm, hcn, hK, hA, hdf, hdl⟩ := F
  obtain rfl : len = 1 := mm_lk_eq hl rfl (by decide)
  have hs : mm_i1 [mm_lg ls (k : Nat)] (fun x _ => mm_go (pc + 1) ls (.int x :: st) S) = _ := hs
  obtain ⟨x, r, hv, hs⟩ := mm_i1_inv hs
  have hv : mm_lg ls (k : Nat) = .int x := (List.cons.inj hv).1
  obtain ⟨rfl, rfl, rfl, rfl⟩ := mm_go_inv hs
  have K0 : (∀ v ∈ .int x :: st, mm_vok S v) → W p l e R s m args below meth c H locs cells slots Q (F0 m (pc + 1) lm ((.int x :: st).map (mm_ad aa z))) := fun hv => K aa H locs lm cells slots rfl rfl (fun _ _ => rfl) I ⟨X.1, hv, X.2.2⟩
  exact lv_iload_n hx hb hd rfl (mm_Lr_get X.2.2 hv (by simp)) (K0 (mm_p1 trivial X.2.1))

theorem mo_lload (k : Nat) : mm_Ok (.lload k) := by
  intro p l e R s m args below meth c Q D ca z A t XS d pc len ls st S pc2 ls2 st2 S2 aa H locs lm cells slots F I X hd hl hs hc hz K
  obtain ⟨hx, hb, hml, hown, hts, hnm, hcn, hK, hA, hdf, hdl⟩ := F
  obtain rfl : len = 2 := mm_lk_eq hl rfl (by decide)
  have hs : mm_j1 [mm_lg ls k] (fun x _ => mm_go (pc + 2) ls (.long x :: st) S) = _ := hs
  obtain ⟨x, r, hv, hs⟩ := mm_j1_inv hs
  have hv : mm_lg ls k = .long x := (List.cons.inj hv).1
  obtain ⟨rfl, rfl, rfl, rfl⟩ := mm_go_inv hs
  have K0 : (∀ v ∈ .long x :: st, mm_vok S v) → W p l e R s m args below meth c H locs cells slots Q (F0 m (pc + 2) lm ((.long x :: st).map (mm_ad aa z))) := fun hv => K aa H locs lm cells slots rfl rfl (fun _ _ => rfl) I ⟨X.1, hv, X.2.2⟩
  exact lv_lload hx hb hd (mm_Lr_get X.2.2 hv (by simp)) (K0 (mm_p1 trivial X.2.1))

theorem mo_lload_n (k : Fin 4) : mm_Ok (.lload_n k) := by
  intro p l e R s m args below meth c Q D ca z A t XS d pc len ls st S pc2 ls2 st2 S2 aa H locs lm cells slots F I X hd hl hs hc hz K
  obtain ⟨hx, hb, hml, hown, hts, hnm, hcn, hK, hA, hdf, hdl⟩ := F
  obtain rfl : len = 1 := mm_lk_eq hl rfl (by decide)
  have hs : mm_j1 [mm_lg ls (k : Nat)] (fun x _ => mm_go (pc + 1) ls (.long x :: st) S) = _ := hs
  obtain ⟨x, r, hv, hs⟩ := mm_j1_inv hs
  have hv : mm_lg ls (k : Nat) = .long x := (List.cons.inj hv).1
  obtain ⟨rfl, rfl, rfl, rfl⟩ := mm_go_inv hs
  have K0 : (∀ v ∈ .long x :: st, mm_vok S v) → W p l e R s m args below meth c H locs cells slots Q (F0 m (pc + 1) lm ((.long x :: st).map (mm_ad aa z))) := fun hv => K aa H locs lm cells slots rfl rfl (fun _ _ => rfl) I ⟨X.1, hv, X.2.2⟩
  exact lv_lload_n hx hb hd rfl (mm_Lr_get X.2.2 hv (by simp)) (K0 (mm_p1 trivial X.2.1))

theorem mo_aload (k : Nat) : mm_Ok (.aload k) := by
  intro p l e R s m args below meth c Q D ca z A t XS d pc len ls st S pc2 ls2 st2 S2 aa H locs lm cells slots F I X hd hl hs hc hz K
  obtain ⟨hx, hb, hml, hown, hts, hnm, hcn, hK, hA, hdf, hdl⟩ := F
  obtain rfl : len = 2 := mm_lk_eq hl rfl (by decide)
  have hs : mm_r1 [mm_lg ls k] (fun x _ => mm_go (pc + 2) ls (.ref x :: st) S) = _ := hs
  obtain ⟨x, r, hv, hs⟩ := mm_r1_inv hs
  have hv : mm_lg ls k = .ref x := (List.cons.inj hv).1
  obtain ⟨rfl, rfl, rfl, rfl⟩ := mm_go_inv hs
  have K0 : (∀ v ∈ .ref x :: st, mm_vok S v) → W p l e R s m args below meth c H locs cells slots Q (F0 m (pc + 2) lm ((.ref x :: st).map (mm_ad aa z))) := fun hv => K aa H locs lm cells slots rfl rfl (fun _ _ => rfl) I ⟨X.1, hv, X.2.2⟩
  exact lv_aload hx hb hd (mm_Lr_get X.2.2 hv (by simp)) (K0 (mm_p1 (hv ▸ mm_lg_vok X.1 k) X.2.1))

theorem mo_aload_n (k : Fin 4) : mm_Ok (.aload_n k) := by
  intro p l e R s m args below meth c Q D ca z A t XS d pc len ls st S pc2 ls2 st2 S2 aa H locs lm cells slots F I X hd hl hs hc hz K
  obtain ⟨hx, hb, hml, hown, hts, hnm, hcn, hK, hA, hdf, hdl⟩ := F
  obtain rfl : len = 1 := mm_lk_eq hl rfl (by decide)
  have hs : mm_r1 [mm_lg ls (k : Nat)] (fun x _ => mm_go (pc + 1) ls (.ref x :: st) S) = _ := hs
  obtain ⟨x, r, hv, hs⟩ := mm_r1_inv hs
  have hv : mm_lg ls (k : Nat) = .ref x := (List.cons.inj hv).1
  obtain ⟨rfl, rfl, rfl, rfl⟩ := mm_go_inv hs
  have K0 : (∀ v ∈ .ref x :: st, mm_vok S v) → W p l e R s m args below meth c H locs cells slots Q (F0 m (pc + 1) lm ((.ref x :: st).map (mm_ad aa z))) := fun hv => K aa H locs lm cells slots rfl rfl (fun _ _ => rfl) I ⟨X.1, hv, X.2.2⟩
  exact lv_aload_n hx hb hd rfl (mm_Lr_get X.2.2 hv (by simp)) (K0 (mm_p1 (hv ▸ mm_lg_vok X.1 (k : Nat)) X.2.1))

theorem mo_istore (k : Nat) : mm_Ok (.istore k) := by
  intro p l e R s m args below meth c Q D ca z A t XS d pc len ls st S pc2 ls2 st2 S2 aa H locs lm cells slots F I X hd hl hs hc hz K
  obtain ⟨hx, hb, hml, hown, hts, hnm, hcn, hK, hA, hdf, hdl⟩ := F
  obtain rfl : len = 2 := mm_lk_eq hl rfl (by decide)
  have hs : mm_i1 st (fun x r => mm_gd (decide (k < ls.length)) (mm_go (pc + 2) (mm_l1 ls k (.int x)) r S)) = _ := hs
  obtain ⟨x, r, rfl, hs⟩ := mm_i1_inv hs
  obtain ⟨hf, hs⟩ := mm_gd_inv hs
  have hk := of_decide_eq_true hf
  obtain ⟨rfl, rfl, rfl, rfl⟩ := mm_go_inv hs
  rw [X.2.2.1] at hk
  have hzc : z.category = 1 := I.2.2.2.2.1.2.2.2.2.1
  refine lv_istore hx hb hd  X.2.2.2 hk rfl (fun lm2 h => ?_)
  exact K aa H locs lm2 cells slots rfl rfl (fun _ _ => rfl) I ⟨mm_l1_vok X.1 trivial, mm_t1 X.2.1, mm_Lr_1 hzc X.2.2 h⟩

theorem mo_istore_n (k : Fin 4) : mm_Ok (.istore_n k) := by
  intro p l e R s m args below meth c Q D ca z A t XS d pc len ls st S pc2 ls2 st2 S2 aa H locs lm cells slots F I X hd hl hs hc hz K
  obtain ⟨hx, hb, hml, hown, hts, hnm, hcn, hK, hA, hdf, hdl⟩ := F
  obtain rfl : len = 1 := mm_lk_eq hl rfl (by decide)
  have hs : mm_i1 st (fun x r => mm_gd (decide ((k : Nat) < ls.length)) (mm_go (pc + 1) (mm_l1 ls (k : Nat) (.int x)) r S)) = _ := hs
  obtain ⟨x, r, rfl, hs⟩ := mm_i1_inv hs
  obtain ⟨hf, hs⟩ := mm_gd_inv hs
  have hk := of_decide_eq_true hf
  obtain ⟨rfl, rfl, rfl, rfl⟩ := mm_go_inv hs
  rw [X.2.2.1] at hk
  have hzc : z.category = 1 := I.2.2.2.2.1.2.2.2.2.1
  refine lv_istore_n hx hb hd rfl  X.2.2.2 hk rfl (fun lm2 h => ?_)
  exact K aa H locs lm2 cells slots rfl rfl (fun _ _ => rfl) I ⟨mm_l1_vok X.1 trivial, mm_t1 X.2.1, mm_Lr_1 hzc X.2.2 h⟩

theorem mo_lstore (k : Nat) : mm_Ok (.lstore k) := by
  intro p l e R s m args below meth c Q D ca z A t XS d pc len ls st S pc2 ls2 st2 S2 aa H locs lm cells slots F I X hd hl hs hc hz K
  obtain ⟨hx, hb, hml, hown, hts, hnm, hcn, hK, hA, hdf, hdl⟩ := F
  obtain rfl : len = 2 := mm_lk_eq hl rfl (by decide)
  have hs : mm_j1 st (fun x r => mm_gd (decide (k + 1 < ls.length)) (mm_go (pc + 2) (mm_l2 ls k (.long x)) r S)) = _ := hs
  obtain ⟨x, r, rfl, hs⟩ := mm_j1_inv hs
  obtain ⟨hf, hs⟩ := mm_gd_inv hs
  have hk := of_decide_eq_true hf
  obtain ⟨rfl, rfl, rfl, rfl⟩ := mm_go_inv hs
  rw [X.2.2.1] at hk
  have hzc : z.category = 1 := I.2.2.2.2.1.2.2.2.2.1
  refine lv_lstore hx hb hd  X.2.2.2 hk rfl (fun lm2 h => ?_)
  exact K aa H locs lm2 cells slots rfl rfl (fun _ _ => rfl) I ⟨mm_l2_vok X.1 trivial, mm_t1 X.2.1, mm_Lr_2 hzc X.2.2 h⟩

theorem mo_lstore_n (k : Fin 4) : mm_Ok (.lstore_n k) := by
  intro p l e R s m args below meth c Q D ca z A t XS d pc len ls st S pc2 ls2 st2 S2 aa H locs lm cells slots F I X hd hl hs hc hz K
  obtain ⟨hx, hb, hml, hown, hts, hnm, hcn, hK, hA, hdf, hdl⟩ := F
  obtain rfl : len = 1 := mm_lk_eq hl rfl (by decide)
  have hs : mm_j1 st (fun x r => mm_gd (decide ((k : Nat) + 1 < ls.length)) (mm_go (pc + 1) (mm_l2 ls (k : Nat) (.long x)) r S)) = _ := hs
  obtain ⟨x, r, rfl, hs⟩ := mm_j1_inv hs
  obtain ⟨hf, hs⟩ := mm_gd_inv hs
  have hk := of_decide_eq_true hf
  obtain ⟨rfl, rfl, rfl, rfl⟩ := mm_go_inv hs
  rw [X.2.2.1] at hk
  have hzc : z.category = 1 := I.2.2.2.2.1.2.2.2.2.1
  refine lv_lstore_n hx hb hd rfl  X.2.2.2 hk rfl (fun lm2 h => ?_)
  exact K aa H locs lm2 cells slots rfl rfl (fun _ _ => rfl) I ⟨mm_l2_vok X.1 trivial, mm_t1 X.2.1, mm_Lr_2 hzc X.2.2 h⟩

theorem mo_astore (k : Nat) : mm_Ok (.astore k) := by
  intro p l e R s m args below meth c Q D ca z A t XS d pc len ls st S pc2 ls2 st2 S2 aa H locs lm cells slots F I X hd hl hs hc hz K
  obtain ⟨hx, hb, hml, hown, hts, hnm, hcn, hK, hA, hdf, hdl⟩ := F
  obtain rfl : len = 2 := mm_lk_eq hl rfl (by decide)
  have hs : mm_r1 st (fun x r => mm_gd (decide (k < ls.length)) (mm_go (pc + 2) (mm_l1 ls k (.ref x)) r S)) = _ := hs
  obtain ⟨x, r, rfl, hs⟩ := mm_r1_inv hs
  obtain ⟨hf, hs⟩ := mm_gd_inv hs
  have hk := of_decide_eq_true hf
  obtain ⟨rfl, rfl, rfl, rfl⟩ := mm_go_inv hs
  rw [X.2.2.1] at hk
  have h0 : mm_vok S (.ref x) := X.2.1 _ List.mem_cons_self
  have hzc : z.category = 1 := I.2.2.2.2.1.2.2.2.2.1
  refine lv_astore hx hb hd  X.2.2.2 hk rfl (fun lm2 h => ?_)
  exact K aa H locs lm2 cells slots rfl rfl (fun _ _ => rfl) I ⟨mm_l1_vok X.1 h0, mm_t1 X.2.1, mm_Lr_1 hzc X.2.2 h⟩

theorem mo_astore_n (k : Fin 4) : mm_Ok (.astore_n k) := by
  intro p l e R s m args below meth c Q D ca z A t XS d pc len ls st S pc2 ls2 st2 S2 aa H locs lm cells slots F I X hd hl hs hc hz K
  obtain ⟨hx, hb, hml, hown, hts, hnm, hcn, hK, hA, hdf, hdl⟩ := F
  obtain rfl : len = 1 := mm_lk_eq hl rfl (by decide)
  have hs : mm_r1 st (fun x r => mm_gd (decide ((k : Nat) < ls.length)) (mm_go (pc + 1) (mm_l1 ls (k : Nat) (.ref x)) r S)) = _ := hs
  obtain ⟨x, r, rfl, hs⟩ := mm_r1_inv hs
  obtain ⟨hf, hs⟩ := mm_gd_inv hs
  have hk := of_decide_eq_true hf
  obtain ⟨rfl, rfl, rfl, rfl⟩ := mm_go_inv hs
  rw [X.2.2.1] at hk
  have h0 : mm_vok S (.ref x) := X.2.1 _ List.mem_cons_self
  have hzc : z.category = 1 := I.2.2.2.2.1.2.2.2.2.1
  refine lv_astore_n hx hb hd rfl  X.2.2.2 hk rfl (fun lm2 h => ?_)
  exact K aa H locs lm2 cells slots rfl rfl (fun _ _ => rfl) I ⟨mm_l1_vok X.1 h0, mm_t1 X.2.1, mm_Lr_1 hzc X.2.2 h⟩

theorem mo_iinc (k : Nat) (n : Int) : mm_Ok (.iinc k n) := by
  intro p l e R s m args below meth c Q D ca z A t XS d pc len ls st S pc2 ls2 st2 S2 aa H locs lm cells slots F I X hd hl hs hc hz K
  obtain ⟨hx, hb, hml, hown, hts, hnm, hcn, hK, hA, hdf, hdl⟩ := F
  obtain rfl : len = 3 := mm_lk_eq hl rfl (by decide)
  have hs : mm_i1 [mm_lg ls k] (fun x _ => mm_gd (decide (k < ls.length)) (mm_go (pc + 3) (mm_l1 ls k (.int (x + Int32.ofInt n))) st S)) = _ := hs
  obtain ⟨x, r, hv, hs⟩ := mm_i1_inv hs
  have hv : mm_lg ls k = .int x := (List.cons.inj hv).1
  obtain ⟨hf, hs⟩ := mm_gd_inv hs
  have hk := of_decide_eq_true hf
  obtain ⟨rfl, rfl, rfl, rfl⟩ := mm_go_inv hs
  have hm : (k, mm_ad aa z (.int x)) ∈ mm_la aa z ls := mm_la_mem.mpr ⟨_, hk, hv, by simp, rfl⟩
  obtain ⟨j, hj⟩ := List.getElem?_of_mem hm
  rw [X.2.2.1] at hk
  have hzc : z.category = 1 := I.2.2.2.2.1.2.2.2.2.1
  refine lv_iinc hx hb hd X.2.2.2 (k := j) hj rfl hk rfl (fun lm2 h => ?_)
  exact K aa H locs lm2 cells slots rfl rfl (fun _ _ => rfl) I ⟨mm_l1_vok X.1 trivial, X.2.1, mm_Lr_1 hzc X.2.2 h⟩

theorem mo_iadd : mm_Ok (.iadd) := by
  intro p l e R s m args below meth c Q D ca z A t XS d pc len ls st S pc2 ls2 st2 S2 aa H locs lm cells slots F I X hd hl hs hc hz K
  obtain ⟨hx, hb, hml, hown, hts, hnm, hcn, hK, hA, hdf, hdl⟩ := F
  obtain rfl : len = 1 := mm_lk_eq hl rfl (by decide)
  have hs : mm_i2 st (fun x y r => mm_go (pc + 1) ls (.int (x + y) :: r) S) = _ := hs
  obtain ⟨x, y, r, rfl, hs⟩ := mm_i2_inv hs
  obtain ⟨rfl, rfl, rfl, rfl⟩ := mm_go_inv hs
  have K0 : (∀ v ∈ .int (x + y) :: r, mm_vok S v) → W p l e R s m args below meth c H locs cells slots Q (F0 m (pc + 1) lm ((.int (x + y) :: r).map (mm_ad aa z))) := fun hv => K aa H locs lm cells slots rfl rfl (fun _ _ => rfl) I ⟨X.1, hv, X.2.2⟩
  exact lv_iadd hx hb hd (K0 (mm_p1 trivial (mm_t1 (mm_t1 X.2.1))))

theorem mo_isub : mm_Ok (.isub) := by
  intro p l e R s m args below meth c Q D ca z A t XS d pc len ls st S pc2 ls2 st2 S2 aa H locs lm cells slots F I X hd hl hs hc hz K
  obtain ⟨hx, hb, hml, hown, hts, hnm, hcn, hK, hA, hdf, hdl⟩ := F
  obtain rfl : len = 1 := mm_lk_eq hl rfl (by decide)
  have hs : mm_i2 st (fun x y r => mm_go (pc + 1) ls (.int (x - y) :: r) S) = _ := hs
  obtain ⟨x, y, r, rfl, hs⟩ := mm_i2_inv hs
  obtain ⟨rfl, rfl, rfl, rfl⟩ := mm_go_inv hs
  have K0 : (∀ v ∈ .int (x - y) :: r, mm_vok S v) → W p l e R s m args below meth c H locs cells slots Q (F0 m (pc + 1) lm ((.int (x - y) :: r).map (mm_ad aa z))) := fun hv => K aa H locs lm cells slots rfl rfl (fun _ _ => rfl) I ⟨X.1, hv, X.2.2⟩
  exact lv_isub hx hb hd (K0 (mm_p1 trivial (mm_t1 (mm_t1 X.2.1))))

theorem mo_imul : mm_Ok (.imul) := by
  intro p l e R s m args below meth c Q D ca z A t XS d pc len ls st S pc2 ls2 st2 S2 aa H locs lm cells slots F I X hd hl hs hc hz K
  obtain ⟨hx, hb, hml, hown, hts, hnm, hcn, hK, hA, hdf, hdl⟩ := F
  obtain rfl : len = 1 := mm_lk_eq hl rfl (by decide)
  have hs : mm_i2 st (fun x y r => mm_go (pc + 1) ls (.int (x * y) :: r) S) = _ := hs
  obtain ⟨x, y, r, rfl, hs⟩ := mm_i2_inv hs
  obtain ⟨rfl, rfl, rfl, rfl⟩ := mm_go_inv hs
  have K0 : (∀ v ∈ .int (x * y) :: r, mm_vok S v) → W p l e R s m args below meth c H locs cells slots Q (F0 m (pc + 1) lm ((.int (x * y) :: r).map (mm_ad aa z))) := fun hv => K aa H locs lm cells slots rfl rfl (fun _ _ => rfl) I ⟨X.1, hv, X.2.2⟩
  exact lv_imul hx hb hd (K0 (mm_p1 trivial (mm_t1 (mm_t1 X.2.1))))

theorem mo_iand : mm_Ok (.iand) := by
  intro p l e R s m args below meth c Q D ca z A t XS d pc len ls st S pc2 ls2 st2 S2 aa H locs lm cells slots F I X hd hl hs hc hz K
  obtain ⟨hx, hb, hml, hown, hts, hnm, hcn, hK, hA, hdf, hdl⟩ := F
  obtain rfl : len = 1 := mm_lk_eq hl rfl (by decide)
  have hs : mm_i2 st (fun x y r => mm_go (pc + 1) ls (.int (x &&& y) :: r) S) = _ := hs
  obtain ⟨x, y, r, rfl, hs⟩ := mm_i2_inv hs
  obtain ⟨rfl, rfl, rfl, rfl⟩ := mm_go_inv hs
  have K0 : (∀ v ∈ .int (x &&& y) :: r, mm_vok S v) → W p l e R s m args below meth c H locs cells slots Q (F0 m (pc + 1) lm ((.int (x &&& y) :: r).map (mm_ad aa z))) := fun hv => K aa H locs lm cells slots rfl rfl (fun _ _ => rfl) I ⟨X.1, hv, X.2.2⟩
  exact lv_iand hx hb hd (K0 (mm_p1 trivial (mm_t1 (mm_t1 X.2.1))))

theorem mo_ior : mm_Ok (.ior) := by
  intro p l e R s m args below meth c Q D ca z A t XS d pc len ls st S pc2 ls2 st2 S2 aa H locs lm cells slots F I X hd hl hs hc hz K
  obtain ⟨hx, hb, hml, hown, hts, hnm, hcn, hK, hA, hdf, hdl⟩ := F
  obtain rfl : len = 1 := mm_lk_eq hl rfl (by decide)
  have hs : mm_i2 st (fun x y r => mm_go (pc + 1) ls (.int (x ||| y) :: r) S) = _ := hs
  obtain ⟨x, y, r, rfl, hs⟩ := mm_i2_inv hs
  obtain ⟨rfl, rfl, rfl, rfl⟩ := mm_go_inv hs
  have K0 : (∀ v ∈ .int (x ||| y) :: r, mm_vok S v) → W p l e R s m args below meth c H locs cells slots Q (F0 m (pc + 1) lm ((.int (x ||| y) :: r).map (mm_ad aa z))) := fun hv => K aa H locs lm cells slots rfl rfl (fun _ _ => rfl) I ⟨X.1, hv, X.2.2⟩
  exact lv_ior hx hb hd (K0 (mm_p1 trivial (mm_t1 (mm_t1 X.2.1))))

theorem mo_ixor : mm_Ok (.ixor) := by
  intro p l e R s m args below meth c Q D ca z A t XS d pc len ls st S pc2 ls2 st2 S2 aa H locs lm cells slots F I X hd hl hs hc hz K
  obtain ⟨hx, hb, hml, hown, hts, hnm, hcn, hK, hA, hdf, hdl⟩ := F
  obtain rfl : len = 1 := mm_lk_eq hl rfl (by decide)
  have hs : mm_i2 st (fun x y r => mm_go (pc + 1) ls (.int (x ^^^ y) :: r) S) = _ := hs
  obtain ⟨x, y, r, rfl, hs⟩ := mm_i2_inv hs
  obtain ⟨rfl, rfl, rfl, rfl⟩ := mm_go_inv hs
  have K0 : (∀ v ∈ .int (x ^^^ y) :: r, mm_vok S v) → W p l e R s m args below meth c H locs cells slots Q (F0 m (pc + 1) lm ((.int (x ^^^ y) :: r).map (mm_ad aa z))) := fun hv => K aa H locs lm cells slots rfl rfl (fun _ _ => rfl) I ⟨X.1, hv, X.2.2⟩
  exact lv_ixor hx hb hd (K0 (mm_p1 trivial (mm_t1 (mm_t1 X.2.1))))

theorem mo_idiv : mm_Ok (.idiv) := by
  intro p l e R s m args below meth c Q D ca z A t XS d pc len ls st S pc2 ls2 st2 S2 aa H locs lm cells slots F I X hd hl hs hc hz K
  obtain ⟨hx, hb, hml, hown, hts, hnm, hcn, hK, hA, hdf, hdl⟩ := F
  obtain rfl : len = 1 := mm_lk_eq hl rfl (by decide)
  have hs : mm_i2 st (fun x y r => mm_gd (!decide (y = 0)) (mm_go (pc + 1) ls (.int (x / y) :: r) S)) = _ := hs
  obtain ⟨x, y, r, rfl, hs⟩ := mm_i2_inv hs
  obtain ⟨hf, hs⟩ := mm_gd_inv hs
  have hne : ¬ y = 0 := by simpa using hf
  obtain ⟨rfl, rfl, rfl, rfl⟩ := mm_go_inv hs
  have K0 : (∀ v ∈ .int (x / y) :: r, mm_vok S v) → W p l e R s m args below meth c H locs cells slots Q (F0 m (pc + 1) lm ((.int (x / y) :: r).map (mm_ad aa z))) := fun hv => K aa H locs lm cells slots rfl rfl (fun _ _ => rfl) I ⟨X.1, hv, X.2.2⟩
  exact lv_idiv hx hb hd hne (K0 (mm_p1 trivial (mm_t1 (mm_t1 X.2.1))))

theorem mo_irem : mm_Ok (.irem) := by
  intro p l e R s m args below meth c Q D ca z A t XS d pc len ls st S pc2 ls2 st2 S2 aa H locs lm cells slots F I X hd hl hs hc hz K
  obtain ⟨hx, hb, hml, hown, hts, hnm, hcn, hK, hA, hdf, hdl⟩ := F
  obtain rfl : len = 1 := mm_lk_eq hl rfl (by decide)
  have hs : mm_i2 st (fun x y r => mm_gd (!decide (y = 0)) (mm_go (pc + 1) ls (.int (x - x / y * y) :: r) S)) = _ := hs
  obtain ⟨x, y, r, rfl, hs⟩ := mm_i2_inv hs
  obtain ⟨hf, hs⟩ := mm_gd_inv hs
  have hne : ¬ y = 0 := by simpa using hf
  obtain ⟨rfl, rfl, rfl, rfl⟩ := mm_go_inv hs
  have K0 : (∀ v ∈ .int (x - x / y * y) :: r, mm_vok S v) → W p l e R s m args below meth c H locs cells slots Q (F0 m (pc + 1) lm ((.int (x - x / y * y) :: r).map (mm_ad aa z))) := fun hv => K aa H locs lm cells slots rfl rfl (fun _ _ => rfl) I ⟨X.1, hv, X.2.2⟩
  exact lv_irem hx hb hd hne (K0 (mm_p1 trivial (mm_t1 (mm_t1 X.2.1))))

theorem mo_ishl : mm_Ok (.ishl) := by
  intro p l e R s m args below meth c Q D ca z A t XS d pc len ls st S pc2 ls2 st2 S2 aa H locs lm cells slots F I X hd hl hs hc hz K
  obtain ⟨hx, hb, hml, hown, hts, hnm, hcn, hK, hA, hdf, hdl⟩ := F
  obtain rfl : len = 1 := mm_lk_eq hl rfl (by decide)
  have hs : mm_i2 st (fun x y r => mm_go (pc + 1) ls (.int (x <<< (y &&& 31)) :: r) S) = _ := hs
  obtain ⟨x, y, r, rfl, hs⟩ := mm_i2_inv hs
  obtain ⟨rfl, rfl, rfl, rfl⟩ := mm_go_inv hs
  have K0 : (∀ v ∈ .int (x <<< (y &&& 31)) :: r, mm_vok S v) → W p l e R s m args below meth c H locs cells slots Q (F0 m (pc + 1) lm ((.int (x <<< (y &&& 31)) :: r).map (mm_ad aa z))) := fun hv => K aa H locs lm cells slots rfl rfl (fun _ _ => rfl) I ⟨X.1, hv, X.2.2⟩
  exact lv_ishl hx hb hd (K0 (mm_p1 trivial (mm_t1 (mm_t1 X.2.1))))

theorem mo_ishr : mm_Ok (.ishr) := by
  intro p l e R s m args below meth c Q D ca z A t XS d pc len ls st S pc2 ls2 st2 S2 aa H locs lm cells slots F I X hd hl hs hc hz K
  obtain ⟨hx, hb, hml, hown, hts, hnm, hcn, hK, hA, hdf, hdl⟩ := F
  obtain rfl : len = 1 := mm_lk_eq hl rfl (by decide)
  have hs : mm_i2 st (fun x y r => mm_go (pc + 1) ls (.int (x >>> (y &&& 31)) :: r) S) = _ := hs
  obtain ⟨x, y, r, rfl, hs⟩ := mm_i2_inv hs
  obtain ⟨rfl, rfl, rfl, rfl⟩ := mm_go_inv hs
  have K0 : (∀ v ∈ .int (x >>> (y &&& 31)) :: r, mm_vok S v) → W p l e R s m args below meth c H locs cells slots Q (F0 m (pc + 1) lm ((.int (x >>> (y &&& 31)) :: r).map (mm_ad aa z))) := fun hv => K aa H locs lm cells slots rfl rfl (fun _ _ => rfl) I ⟨X.1, hv, X.2.2⟩
  exact lv_ishr hx hb hd (K0 (mm_p1 trivial (mm_t1 (mm_t1 X.2.1))))

theorem mo_iushr : mm_Ok (.iushr) := by
  intro p l e R s m args below meth c Q D ca z A t XS d pc len ls st S pc2 ls2 st2 S2 aa H locs lm cells slots F I X hd hl hs hc hz K
  obtain ⟨hx, hb, hml, hown, hts, hnm, hcn, hK, hA, hdf, hdl⟩ := F
  obtain rfl : len = 1 := mm_lk_eq hl rfl (by decide)
  have hs : mm_i2 st (fun x y r => mm_go (pc + 1) ls (.int (x.toUInt32 >>> (y.toUInt32 &&& Int32.toUInt32 31)).toInt32 :: r) S) = _ := hs
  obtain ⟨x, y, r, rfl, hs⟩ := mm_i2_inv hs
  obtain ⟨rfl, rfl, rfl, rfl⟩ := mm_go_inv hs
  have K0 : (∀ v ∈ .int (x.toUInt32 >>> (y.toUInt32 &&& Int32.toUInt32 31)).toInt32 :: r, mm_vok S v) → W p l e R s m args below meth c H locs cells slots Q (F0 m (pc + 1) lm ((.int (x.toUInt32 >>> (y.toUInt32 &&& Int32.toUInt32 31)).toInt32 :: r).map (mm_ad aa z))) := fun hv => K aa H locs lm cells slots rfl rfl (fun _ _ => rfl) I ⟨X.1, hv, X.2.2⟩
  exact lv_iushr hx hb hd rfl (K0 (mm_p1 trivial (mm_t1 (mm_t1 X.2.1))))

theorem mo_ladd : mm_Ok (.ladd) := by
  intro p l e R s m args below meth c Q D ca z A t XS d pc len ls st S pc2 ls2 st2 S2 aa H locs lm cells slots F I X hd hl hs hc hz K
  obtain ⟨hx, hb, hml, hown, hts, hnm, hcn, hK, hA, hdf, hdl⟩ := F
  obtain rfl : len = 1 := mm_lk_eq hl rfl (by decide)
  have hs : mm_j2 st (fun x y r => mm_go (pc + 1) ls (.long (x + y) :: r) S) = _ := hs
  obtain ⟨x, y, r, rfl, hs⟩ := mm_j2_inv hs
  obtain ⟨rfl, rfl, rfl, rfl⟩ := mm_go_inv hs
  have K0 : (∀ v ∈ .long (x + y) :: r, mm_vok S v) → W p l e R s m args below meth c H locs cells slots Q (F0 m (pc + 1) lm ((.long (x + y) :: r).map (mm_ad aa z))) := fun hv => K aa H locs lm cells slots rfl rfl (fun _ _ => rfl) I ⟨X.1, hv, X.2.2⟩
  exact lv_ladd hx hb hd (K0 (mm_p1 trivial (mm_t1 (mm_t1 X.2.1))))

theorem mo_lsub : mm_Ok (.lsub) := by
  intro p l e R s m args below meth c Q D ca z A t XS d pc len ls st S pc2 ls2 st2 S2 aa H locs lm cells slots F I X hd hl hs hc hz K
  obtain ⟨hx, hb, hml, hown, hts, hnm, hcn, hK, hA, hdf, hdl⟩ := F
  obtain rfl : len = 1 := mm_lk_eq hl rfl (by decide)
  have hs : mm_j2 st (fun x y r => mm_go (pc + 1) ls (.long (x - y) :: r) S) = _ := hs
  obtain ⟨x, y, r, rfl, hs⟩ := mm_j2_inv hs
  obtain ⟨rfl, rfl, rfl, rfl⟩ := mm_go_inv hs
  have K0 : (∀ v ∈ .long (x - y) :: r, mm_vok S v) → W p l e R s m args below meth c H locs cells slots Q (F0 m (pc + 1) lm ((.long (x - y) :: r).map (mm_ad aa z))) := fun hv => K aa H locs lm cells slots rfl rfl (fun _ _ => rfl) I ⟨X.1, hv, X.2.2⟩
  exact lv_lsub hx hb hd (K0 (mm_p1 trivial (mm_t1 (mm_t1 X.2.1))))

theorem mo_lmul : mm_Ok (.lmul) := by
  intro p l e R s m args below meth c Q D ca z A t XS d pc len ls st S pc2 ls2 st2 S2 aa H locs lm cells slots F I X hd hl hs hc hz K
  obtain ⟨hx, hb, hml, hown, hts, hnm, hcn, hK, hA, hdf, hdl⟩ := F
  obtain rfl : len = 1 := mm_lk_eq hl rfl (by decide)
  have hs : mm_j2 st (fun x y r => mm_go (pc + 1) ls (.long (x * y) :: r) S) = _ := hs
  obtain ⟨x, y, r, rfl, hs⟩ := mm_j2_inv hs
  obtain ⟨rfl, rfl, rfl, rfl⟩ := mm_go_inv hs
  have K0 : (∀ v ∈ .long (x * y) :: r, mm_vok S v) → W p l e R s m args below meth c H locs cells slots Q (F0 m (pc + 1) lm ((.long (x * y) :: r).map (mm_ad aa z))) := fun hv => K aa H locs lm cells slots rfl rfl (fun _ _ => rfl) I ⟨X.1, hv, X.2.2⟩
  exact lv_lmul hx hb hd (K0 (mm_p1 trivial (mm_t1 (mm_t1 X.2.1))))

theorem mo_land : mm_Ok (.land) := by
  intro p l e R s m args below meth c Q D ca z A t XS d pc len ls st S pc2 ls2 st2 S2 aa H locs lm cells slots F I X hd hl hs hc hz K
  obtain ⟨hx, hb, hml, hown, hts, hnm, hcn, hK, hA, hdf, hdl⟩ := F
  obtain rfl : len = 1 := mm_lk_eq hl rfl (by decide)
  have hs : mm_j2 st (fun x y r => mm_go (pc + 1) ls (.long (x &&& y) :: r) S) = _ := hs
  obtain ⟨x, y, r, rfl, hs⟩ := mm_j2_inv hs
  obtain ⟨rfl, rfl, rfl, rfl⟩ := mm_go_inv hs
  have K0 : (∀ v ∈ .long (x &&& y) :: r, mm_vok S v) → W p l e R s m args below meth c H locs cells slots Q (F0 m (pc + 1) lm ((.long (x &&& y) :: r).map (mm_ad aa z))) := fun hv => K aa H locs lm cells slots rfl rfl (fun _ _ => rfl) I ⟨X.1, hv, X.2.2⟩
  exact lv_land hx hb hd (K0 (mm_p1 trivial (mm_t1 (mm_t1 X.2.1))))

theorem mo_lor : mm_Ok (.lor) := by
  intro p l e R s m args below meth c Q D ca z A t XS d pc len ls st S pc2 ls2 st2 S2 aa H locs lm cells slots F I X hd hl hs hc hz K
  obtain ⟨hx, hb, hml, hown, hts, hnm, hcn, hK, hA, hdf, hdl⟩ := F
  obtain rfl : len = 1 := mm_lk_eq hl rfl (by decide)
  have hs : mm_j2 st (fun x y r => mm_go (pc + 1) ls (.long (x ||| y) :: r) S) = _ := hs
  obtain ⟨x, y, r, rfl, hs⟩ := mm_j2_inv hs
  obtain ⟨rfl, rfl, rfl, rfl⟩ := mm_go_inv hs
  have K0 : (∀ v ∈ .long (x ||| y) :: r, mm_vok S v) → W p l e R s m args below meth c H locs cells slots Q (F0 m (pc + 1) lm ((.long (x ||| y) :: r).map (mm_ad aa z))) := fun hv => K aa H locs lm cells slots rfl rfl (fun _ _ => rfl) I ⟨X.1, hv, X.2.2⟩
  exact lv_lor hx hb hd (K0 (mm_p1 trivial (mm_t1 (mm_t1 X.2.1))))

theorem mo_ldiv : mm_Ok (.ldiv) := by
  intro p l e R s m args below meth c Q D ca z A t XS d pc len ls st S pc2 ls2 st2 S2 aa H locs lm cells slots F I X hd hl hs hc hz K
  obtain ⟨hx, hb, hml, hown, hts, hnm, hcn, hK, hA, hdf, hdl⟩ := F
  obtain rfl : len = 1 := mm_lk_eq hl rfl (by decide)
  have hs : mm_j2 st (fun x y r => mm_gd (!decide (y = 0)) (mm_go (pc + 1) ls (.long (x / y) :: r) S)) = _ := hs
  obtain ⟨x, y, r, rfl, hs⟩ := mm_j2_inv hs
  obtain ⟨hf, hs⟩ := mm_gd_inv hs
  have hne : ¬ y = 0 := by simpa using hf
  obtain ⟨rfl, rfl, rfl, rfl⟩ := mm_go_inv hs
  have K0 : (∀ v ∈ .long (x / y) :: r, mm_vok S v) → W p l e R s m args below meth c H locs cells slots Q (F0 m (pc + 1) lm ((.long (x / y) :: r).map (mm_ad aa z))) := fun hv => K aa H locs lm cells slots rfl rfl (fun _ _ => rfl) I ⟨X.1, hv, X.2.2⟩
  exact lv_ldiv hx hb hd hne (K0 (mm_p1 trivial (mm_t1 (mm_t1 X.2.1))))

theorem mo_lrem : mm_Ok (.lrem) := by
  intro p l e R s m args below meth c Q D ca z A t XS d pc len ls st S pc2 ls2 st2 S2 aa H locs lm cells slots F I X hd hl hs hc hz K
  obtain ⟨hx, hb, hml, hown, hts, hnm, hcn, hK, hA, hdf, hdl⟩ := F
  obtain rfl : len = 1 := mm_lk_eq hl rfl (by decide)
  have hs : mm_j2 st (fun x y r => mm_gd (!decide (y = 0)) (mm_go (pc + 1) ls (.long (x - x / y * y) :: r) S)) = _ := hs
  obtain ⟨x, y, r, rfl, hs⟩ := mm_j2_inv hs
  obtain ⟨hf, hs⟩ := mm_gd_inv hs
  have hne : ¬ y = 0 := by simpa using hf
  obtain ⟨rfl, rfl, rfl, rfl⟩ := mm_go_inv hs
  have K0 : (∀ v ∈ .long (x - x / y * y) :: r, mm_vok S v) → W p l e R s m args below meth c H locs cells slots Q (F0 m (pc + 1) lm ((.long (x - x / y * y) :: r).map (mm_ad aa z))) := fun hv => K aa H locs lm cells slots rfl rfl (fun _ _ => rfl) I ⟨X.1, hv, X.2.2⟩
  exact lv_lrem hx hb hd hne (K0 (mm_p1 trivial (mm_t1 (mm_t1 X.2.1))))

theorem mo_lcmp : mm_Ok (.lcmp) := by
  intro p l e R s m args below meth c Q D ca z A t XS d pc len ls st S pc2 ls2 st2 S2 aa H locs lm cells slots F I X hd hl hs hc hz K
  obtain ⟨hx, hb, hml, hown, hts, hnm, hcn, hK, hA, hdf, hdl⟩ := F
  obtain rfl : len = 1 := mm_lk_eq hl rfl (by decide)
  have hs : mm_j2 st (fun x y r => mm_go (pc + 1) ls (.int (lg_cmp x y) :: r) S) = _ := hs
  obtain ⟨x, y, r, rfl, hs⟩ := mm_j2_inv hs
  obtain ⟨rfl, rfl, rfl, rfl⟩ := mm_go_inv hs
  have K0 : (∀ v ∈ .int (lg_cmp x y) :: r, mm_vok S v) → W p l e R s m args below meth c H locs cells slots Q (F0 m (pc + 1) lm ((.int (lg_cmp x y) :: r).map (mm_ad aa z))) := fun hv => K aa H locs lm cells slots rfl rfl (fun _ _ => rfl) I ⟨X.1, hv, X.2.2⟩
  exact W.lcmp hx hb hd (K0 (mm_p1 trivial (mm_t1 (mm_t1 X.2.1))))

theorem mo_lshl : mm_Ok (.lshl) := by
  intro p l e R s m args below meth c Q D ca z A t XS d pc len ls st S pc2 ls2 st2 S2 aa H locs lm cells slots F I X hd hl hs hc hz K
  obtain ⟨hx, hb, hml, hown, hts, hnm, hcn, hK, hA, hdf, hdl⟩ := F
  obtain rfl : len = 1 := mm_lk_eq hl rfl (by decide)
  have hs : mm_i1 st (fun y r => mm_j1 r fun x r => mm_go (pc + 1) ls (.long (x <<< (y.toInt64 &&& 63)) :: r) S) = _ := hs
  obtain ⟨y, r, rfl, hs⟩ := mm_i1_inv hs
  obtain ⟨x, r, rfl, hs⟩ := mm_j1_inv hs
  obtain ⟨rfl, rfl, rfl, rfl⟩ := mm_go_inv hs
  have K0 : (∀ v ∈ .long (x <<< (y.toInt64 &&& 63)) :: r, mm_vok S v) → W p l e R s m args below meth c H locs cells slots Q (F0 m (pc + 1) lm ((.long (x <<< (y.toInt64 &&& 63)) :: r).map (mm_ad aa z))) := fun hv => K aa H locs lm cells slots rfl rfl (fun _ _ => rfl) I ⟨X.1, hv, X.2.2⟩
  exact lv_lshl hx hb hd rfl (K0 (mm_p1 trivial (mm_t1 (mm_t1 X.2.1))))

theorem mo_ineg : mm_Ok (.ineg) := by
  intro p l e R s m args below meth c Q D ca z A t XS d pc len ls st S pc2 ls2 st2 S2 aa H locs lm cells slots F I X hd hl hs hc hz K
  obtain ⟨hx, hb, hml, hown, hts, hnm, hcn, hK, hA, hdf, hdl⟩ := F
  obtain rfl : len = 1 := mm_lk_eq hl rfl (by decide)
  have hs : mm_i1 st (fun x r => mm_go (pc + 1) ls (.int (-x) :: r) S) = _ := hs
  obtain ⟨x, r, rfl, hs⟩ := mm_i1_inv hs
  obtain ⟨rfl, rfl, rfl, rfl⟩ := mm_go_inv hs
  have K0 : (∀ v ∈ .int (-x) :: r, mm_vok S v) → W p l e R s m args below meth c H locs cells slots Q (F0 m (pc + 1) lm ((.int (-x) :: r).map (mm_ad aa z))) := fun hv => K aa H locs lm cells slots rfl rfl (fun _ _ => rfl) I ⟨X.1, hv, X.2.2⟩
  exact lv_ineg hx hb hd (K0 (mm_p1 trivial (mm_t1 X.2.1)))

theorem mo_i2l : mm_Ok (.i2l) := by
  intro p l e R s m args below meth c Q D ca z A t XS d pc len ls st S pc2 ls2 st2 S2 aa H locs lm cells slots F I X hd hl hs hc hz K
  obtain ⟨hx, hb, hml, hown, hts, hnm, hcn, hK, hA, hdf, hdl⟩ := F
  obtain rfl : len = 1 := mm_lk_eq hl rfl (by decide)
  have hs : mm_i1 st (fun x r => mm_go (pc + 1) ls (.long x.toInt64 :: r) S) = _ := hs
  obtain ⟨x, r, rfl, hs⟩ := mm_i1_inv hs
  obtain ⟨rfl, rfl, rfl, rfl⟩ := mm_go_inv hs
  have K0 : (∀ v ∈ .long x.toInt64 :: r, mm_vok S v) → W p l e R s m args below meth c H locs cells slots Q (F0 m (pc + 1) lm ((.long x.toInt64 :: r).map (mm_ad aa z))) := fun hv => K aa H locs lm cells slots rfl rfl (fun _ _ => rfl) I ⟨X.1, hv, X.2.2⟩
  exact lv_i2l hx hb hd rfl (K0 (mm_p1 trivial (mm_t1 X.2.1)))

theorem mo_i2b : mm_Ok (.i2b) := by
  intro p l e R s m args below meth c Q D ca z A t XS d pc len ls st S pc2 ls2 st2 S2 aa H locs lm cells slots F I X hd hl hs hc hz K
  obtain ⟨hx, hb, hml, hown, hts, hnm, hcn, hK, hA, hdf, hdl⟩ := F
  obtain rfl : len = 1 := mm_lk_eq hl rfl (by decide)
  have hs : mm_i1 st (fun x r => mm_go (pc + 1) ls (.int x.toInt8.toInt32 :: r) S) = _ := hs
  obtain ⟨x, r, rfl, hs⟩ := mm_i1_inv hs
  obtain ⟨rfl, rfl, rfl, rfl⟩ := mm_go_inv hs
  have K0 : (∀ v ∈ .int x.toInt8.toInt32 :: r, mm_vok S v) → W p l e R s m args below meth c H locs cells slots Q (F0 m (pc + 1) lm ((.int x.toInt8.toInt32 :: r).map (mm_ad aa z))) := fun hv => K aa H locs lm cells slots rfl rfl (fun _ _ => rfl) I ⟨X.1, hv, X.2.2⟩
  exact lv_i2b hx hb hd rfl (K0 (mm_p1 trivial (mm_t1 X.2.1)))

theorem mo_i2s : mm_Ok (.i2s) := by
  intro p l e R s m args below meth c Q D ca z A t XS d pc len ls st S pc2 ls2 st2 S2 aa H locs lm cells slots F I X hd hl hs hc hz K
  obtain ⟨hx, hb, hml, hown, hts, hnm, hcn, hK, hA, hdf, hdl⟩ := F
  obtain rfl : len = 1 := mm_lk_eq hl rfl (by decide)
  have hs : mm_i1 st (fun x r => mm_go (pc + 1) ls (.int x.toInt16.toInt32 :: r) S) = _ := hs
  obtain ⟨x, r, rfl, hs⟩ := mm_i1_inv hs
  obtain ⟨rfl, rfl, rfl, rfl⟩ := mm_go_inv hs
  have K0 : (∀ v ∈ .int x.toInt16.toInt32 :: r, mm_vok S v) → W p l e R s m args below meth c H locs cells slots Q (F0 m (pc + 1) lm ((.int x.toInt16.toInt32 :: r).map (mm_ad aa z))) := fun hv => K aa H locs lm cells slots rfl rfl (fun _ _ => rfl) I ⟨X.1, hv, X.2.2⟩
  exact lv_i2s hx hb hd rfl (K0 (mm_p1 trivial (mm_t1 X.2.1)))

theorem mo_i2c : mm_Ok (.i2c) := by
  intro p l e R s m args below meth c Q D ca z A t XS d pc len ls st S pc2 ls2 st2 S2 aa H locs lm cells slots F I X hd hl hs hc hz K
  obtain ⟨hx, hb, hml, hown, hts, hnm, hcn, hK, hA, hdf, hdl⟩ := F
  obtain rfl : len = 1 := mm_lk_eq hl rfl (by decide)
  have hs : mm_i1 st (fun x r => mm_go (pc + 1) ls (.int (x.toUInt32 % 65536).toInt32 :: r) S) = _ := hs
  obtain ⟨x, r, rfl, hs⟩ := mm_i1_inv hs
  obtain ⟨rfl, rfl, rfl, rfl⟩ := mm_go_inv hs
  have K0 : (∀ v ∈ .int (x.toUInt32 % 65536).toInt32 :: r, mm_vok S v) → W p l e R s m args below meth c H locs cells slots Q (F0 m (pc + 1) lm ((.int (x.toUInt32 % 65536).toInt32 :: r).map (mm_ad aa z))) := fun hv => K aa H locs lm cells slots rfl rfl (fun _ _ => rfl) I ⟨X.1, hv, X.2.2⟩
  exact lv_i2c hx hb hd rfl (K0 (mm_p1 trivial (mm_t1 X.2.1)))

theorem mo_l2i : mm_Ok (.l2i) := by
  intro p l e R s m args below meth c Q D ca z A t XS d pc len ls st S pc2 ls2 st2 S2 aa H locs lm cells slots F I X hd hl hs hc hz K
  obtain ⟨hx, hb, hml, hown, hts, hnm, hcn, hK, hA, hdf, hdl⟩ := F
  obtain rfl : len = 1 := mm_lk_eq hl rfl (by decide)
  have hs : mm_j1 st (fun x r => mm_go (pc + 1) ls (.int x.toInt32 :: r) S) = _ := hs
  obtain ⟨x, r, rfl, hs⟩ := mm_j1_inv hs
  obtain ⟨rfl, rfl, rfl, rfl⟩ := mm_go_inv hs
  have K0 : (∀ v ∈ .int x.toInt32 :: r, mm_vok S v) → W p l e R s m args below meth c H locs cells slots Q (F0 m (pc + 1) lm ((.int x.toInt32 :: r).map (mm_ad aa z))) := fun hv => K aa H locs lm cells slots rfl rfl (fun _ _ => rfl) I ⟨X.1, hv, X.2.2⟩
  exact lv_l2i hx hb hd rfl (K0 (mm_p1 trivial (mm_t1 X.2.1)))

theorem mo_dup : mm_Ok (.dup) := by
  intro p l e R s m args below meth c Q D ca z A t XS d pc len ls st S pc2 ls2 st2 S2 aa H locs lm cells slots F I X hd hl hs hc hz K
  obtain ⟨hx, hb, hml, hown, hts, hnm, hcn, hK, hA, hdf, hdl⟩ := F
  obtain rfl : len = 1 := mm_lk_eq hl rfl (by decide)
  have hzc : z.category = 1 := I.2.2.2.2.1.2.2.2.2.1
  match st, X, hs with
  | v :: r, X, hs =>
    have hs : mm_gd (decide (v.category = 1)) (mm_go (pc + 1) ls (v :: v :: r) S) = _ := hs
    obtain ⟨hf, hs⟩ := mm_gd_inv hs
    have hf := of_decide_eq_true hf
    obtain ⟨rfl, rfl, rfl, rfl⟩ := mm_go_inv hs
    exact lv_dup hx hb hd ((mm_ad_cat hzc).trans hf) (K aa H locs lm cells slots rfl rfl (fun _ _ => rfl) I ⟨X.1, mm_p1 (X.2.1 _ List.mem_cons_self) X.2.1, X.2.2⟩)

theorem mo_pop : mm_Ok (.pop) := by
  intro p l e R s m args below meth c Q D ca z A t XS d pc len ls st S pc2 ls2 st2 S2 aa H locs lm cells slots F I X hd hl hs hc hz K
  obtain ⟨hx, hb, hml, hown, hts, hnm, hcn, hK, hA, hdf, hdl⟩ := F
  obtain rfl : len = 1 := mm_lk_eq hl rfl (by decide)
  have hzc : z.category = 1 := I.2.2.2.2.1.2.2.2.2.1
  match st, X, hs with
  | v :: r, X, hs =>
    have hs : mm_gd (decide (v.category = 1)) (mm_go (pc + 1) ls r S) = _ := hs
    obtain ⟨hf, hs⟩ := mm_gd_inv hs
    have hf := of_decide_eq_true hf
    obtain ⟨rfl, rfl, rfl, rfl⟩ := mm_go_inv hs
    exact lv_pop hx hb hd ((mm_ad_cat hzc).trans hf) (K aa H locs lm cells slots rfl rfl (fun _ _ => rfl) I ⟨X.1, mm_t1 X.2.1, X.2.2⟩)

theorem mo_pop2 : mm_Ok (.pop2) := by
  intro p l e R s m args below meth c Q D ca z A t XS d pc len ls st S pc2 ls2 st2 S2 aa H locs lm cells slots F I X hd hl hs hc hz K
  obtain ⟨hx, hb, hml, hown, hts, hnm, hcn, hK, hA, hdf, hdl⟩ := F
  obtain rfl : len = 1 := mm_lk_eq hl rfl (by decide)
  match st, X, hs with
  | .long x :: r, X, hs =>
    obtain ⟨rfl, rfl, rfl, rfl⟩ := mm_go_inv hs
    exact lv_pop2_2 hx hb hd rfl (K aa H locs lm cells slots rfl rfl (fun _ _ => rfl) I ⟨X.1, mm_t1 X.2.1, X.2.2⟩)

theorem mo_dup2 : mm_Ok (.dup2) := by
  intro p l e R s m args below meth c Q D ca z A t XS d pc len ls st S pc2 ls2 st2 S2 aa H locs lm cells slots F I X hd hl hs hc hz K
  obtain ⟨hx, hb, hml, hown, hts, hnm, hcn, hK, hA, hdf, hdl⟩ := F
  obtain rfl : len = 1 := mm_lk_eq hl rfl (by decide)
  have hzc : z.category = 1 := I.2.2.2.2.1.2.2.2.2.1
  have h2 : ∀ (v w : Value) (r : List Value), mm_Sx aa z S t ls lm (v :: w :: r) → mm_gd (decide (v.category = 1) && decide (w.category = 1)) (mm_go (pc + 1) ls (v :: w :: v :: w :: r) S) = mm_go pc2 ls2 st2 S2 → W p l e R s m args below meth c H locs cells slots Q (F0 m pc lm ((v :: w :: r).map (mm_ad aa z))) := by
    intro v w r X hs
    obtain ⟨hf, hs⟩ := mm_gd_inv hs
    rw [Bool.and_eq_true, decide_eq_true_eq, decide_eq_true_eq] at hf
    obtain ⟨rfl, rfl, rfl, rfl⟩ := mm_go_inv hs
    exact lv_dup2_11 hx hb hd ((mm_ad_cat hzc).trans hf.1) ((mm_ad_cat hzc).trans hf.2) (K aa H locs lm cells slots rfl rfl (fun _ _ => rfl) I ⟨X.1, mm_p1 (X.2.1 _ List.mem_cons_self) (mm_p1 (X.2.1 _ (List.mem_cons_of_mem _ List.mem_cons_self)) X.2.1), X.2.2⟩)
  match st, X, hs with
  | .long x :: r, X, hs =>
    obtain ⟨rfl, rfl, rfl, rfl⟩ := mm_go_inv hs
    exact lv_dup2_2 hx hb hd rfl (K aa H locs lm cells slots rfl rfl (fun _ _ => rfl) I ⟨X.1, mm_p1 trivial X.2.1, X.2.2⟩)
  | .int x :: w :: r, X, hs => exact h2 _ _ _ X hs
  | .ref x :: w :: r, X, hs => exact h2 _ _ _ X hs
  | .null :: w :: r, X, hs => exact h2 _ _ _ X hs
  | .float x :: w :: r, X, hs => exact h2 _ _ _ X hs
  | .double x :: w :: r, X, hs => exact h2 _ _ _ X hs
  | .retAddr x :: w :: r, X, hs => exact h2 _ _ _ X hs

theorem mo_goto (off : Int) : mm_Ok (.goto off) := by
  intro p l e R s m args below meth c Q D ca z A t XS d pc len ls st S pc2 ls2 st2 S2 aa H locs lm cells slots F I X hd hl hs hc hz K
  obtain ⟨hx, hb, hml, hown, hts, hnm, hcn, hK, hA, hdf, hdl⟩ := F
  obtain rfl : len = 3 := mm_lk_eq hl rfl (by decide)
  have hs : mm_jp pc off ls st S = _ := hs
  obtain ⟨ht, rfl, rfl, rfl⟩ := mm_jp_inv hs
  exact lv_goto hx hb hd ht (K aa H locs lm cells slots rfl rfl (fun _ _ => rfl) I X)

theorem mo_ifCond (cc : ClassFile.Cond) (off : Int) : mm_Ok (.ifCond cc off) := by
  intro p l e R s m args below meth c Q D ca z A t XS d pc len ls st S pc2 ls2 st2 S2 aa H locs lm cells slots F I X hd hl hs hc hz K
  obtain ⟨hx, hb, hml, hown, hts, hnm, hcn, hK, hA, hdf, hdl⟩ := F
  obtain rfl : len = 3 := mm_lk_eq hl rfl (by decide)
  have hs : mm_i1 st (fun x r => mm_cj (mm_c1 cc x) pc off ls r S) = _ := hs
  obtain ⟨x, r, rfl, hs⟩ := mm_i1_inv hs
  have X2 : mm_Sx aa z S t ls lm r := ⟨X.1, mm_t1 X.2.1, X.2.2⟩
  obtain ⟨tgt, ht, rfl, rfl, rfl, hq⟩ := mm_cj_inv hs
  have K2 : W p l e R s m args below meth c H locs cells slots Q (F0 m pc2 lm (r.map (mm_ad aa z))) := K aa H locs lm cells slots rfl rfl (fun _ _ => rfl) I X2
  cases cc with
  | eq =>
    have hq : ((decide (x = 0)) = true ∧ pc2 = tgt) ∨ ((decide (x = 0)) = false ∧ pc2 = pc + 3) := hq
    refine lv_if_eq hx hb hd ht (fun hT => ?_) (fun hT => ?_)
    · rcases hq with ⟨-, rfl⟩ | ⟨q, -⟩
      · exact K2
      · exact absurd q (by simp [hT])
    · rcases hq with ⟨q, -⟩ | ⟨-, rfl⟩
      · exact absurd q (by simp [hT])
      · exact K2
  | ne =>
    have hq : ((!decide (x = 0)) = true ∧ pc2 = tgt) ∨ ((!decide (x = 0)) = false ∧ pc2 = pc + 3) := hq
    refine lv_if_ne hx hb hd ht (fun hT => ?_) (fun hT => ?_)
    · rcases hq with ⟨-, rfl⟩ | ⟨q, -⟩
      · exact K2
      · exact absurd q (by simp [hT])
    · rcases hq with ⟨q, -⟩ | ⟨-, rfl⟩
      · exact absurd q (by simp [hT])
      · exact K2
  | lt =>
    have hq : ((decide (x < 0)) = true ∧ pc2 = tgt) ∨ ((decide (x < 0)) = false ∧ pc2 = pc + 3) := hq
    refine lv_if_lt hx hb hd ht (fun hT => ?_) (fun hT => ?_)
    · rcases hq with ⟨-, rfl⟩ | ⟨q, -⟩
      · exact K2
      · exact absurd q (by simp [hT])
    · rcases hq with ⟨q, -⟩ | ⟨-, rfl⟩
      · exact absurd q (by simp [hT])
      · exact K2
  | ge =>
    have hq : ((decide (0 ≤ x)) = true ∧ pc2 = tgt) ∨ ((decide (0 ≤ x)) = false ∧ pc2 = pc + 3) := hq
    refine lv_if_ge hx hb hd ht (fun hT => ?_) (fun hT => ?_)
    · rcases hq with ⟨-, rfl⟩ | ⟨q, -⟩
      · exact K2
      · exact absurd q (by simp [hT])
    · rcases hq with ⟨q, -⟩ | ⟨-, rfl⟩
      · exact absurd q (by simp [hT])
      · exact K2
  | gt =>
    have hq : ((decide (0 < x)) = true ∧ pc2 = tgt) ∨ ((decide (0 < x)) = false ∧ pc2 = pc + 3) := hq
    refine lv_if_gt hx hb hd ht (fun hT => ?_) (fun hT => ?_)
    · rcases hq with ⟨-, rfl⟩ | ⟨q, -⟩
      · exact K2
      · exact absurd q (by simp [hT])
    · rcases hq with ⟨q, -⟩ | ⟨-, rfl⟩
      · exact absurd q (by simp [hT])
      · exact K2
  | le =>
    have hq : ((decide (x ≤ 0)) = true ∧ pc2 = tgt) ∨ ((decide (x ≤ 0)) = false ∧ pc2 = pc + 3) := hq
    refine lv_if_le hx hb hd ht (fun hT => ?_) (fun hT => ?_)
    · rcases hq with ⟨-, rfl⟩ | ⟨q, -⟩
      · exact K2
      · exact absurd q (by simp [hT])
    · rcases hq with ⟨q, -⟩ | ⟨-, rfl⟩
      · exact absurd q (by simp [hT])
      · exact K2

theorem mo_if_icmp (cc : ClassFile.Cond) (off : Int) : mm_Ok (.if_icmp cc off) := by
  intro p l e R s m args below meth c Q D ca z A t XS d pc len ls st S pc2 ls2 st2 S2 aa H locs lm cells slots F I X hd hl hs hc hz K
  obtain ⟨hx, hb, hml, hown, hts, hnm, hcn, hK, hA, hdf, hdl⟩ := F
  obtain rfl : len = 3 := mm_lk_eq hl rfl (by decide)
  have hs : mm_i2 st (fun x y r => mm_cj (mm_c2 cc x y) pc off ls r S) = _ := hs
  obtain ⟨x, y, r, rfl, hs⟩ := mm_i2_inv hs
  have X2 : mm_Sx aa z S t ls lm r := ⟨X.1, mm_t1 (mm_t1 X.2.1), X.2.2⟩
  obtain ⟨tgt, ht, rfl, rfl, rfl, hq⟩ := mm_cj_inv hs
  have K2 : W p l e R s m args below meth c H locs cells slots Q (F0 m pc2 lm (r.map (mm_ad aa z))) := K aa H locs lm cells slots rfl rfl (fun _ _ => rfl) I X2
  cases cc with
  | eq =>
    have hq : ((decide (x = y)) = true ∧ pc2 = tgt) ∨ ((decide (x = y)) = false ∧ pc2 = pc + 3) := hq
    refine lv_icmp_eq hx hb hd ht (fun hT => ?_) (fun hT => ?_)
    · rcases hq with ⟨-, rfl⟩ | ⟨q, -⟩
      · exact K2
      · exact absurd q (by simp [hT])
    · rcases hq with ⟨q, -⟩ | ⟨-, rfl⟩
      · exact absurd q (by simp [hT])
      · exact K2
  | ne =>
    have hq : ((!decide (x = y)) = true ∧ pc2 = tgt) ∨ ((!decide (x = y)) = false ∧ pc2 = pc + 3) := hq
    refine lv_icmp_ne hx hb hd ht (fun hT => ?_) (fun hT => ?_)
    · rcases hq with ⟨-, rfl⟩ | ⟨q, -⟩
      · exact K2
      · exact absurd q (by simp [hT])
    · rcases hq with ⟨q, -⟩ | ⟨-, rfl⟩
      · exact absurd q (by simp [hT])
      · exact K2
  | lt =>
    have hq : ((decide (x < y)) = true ∧ pc2 = tgt) ∨ ((decide (x < y)) = false ∧ pc2 = pc + 3) := hq
    refine lv_icmp_lt hx hb hd ht (fun hT => ?_) (fun hT => ?_)
    · rcases hq with ⟨-, rfl⟩ | ⟨q, -⟩
      · exact K2
      · exact absurd q (by simp [hT])
    · rcases hq with ⟨q, -⟩ | ⟨-, rfl⟩
      · exact absurd q (by simp [hT])
      · exact K2
  | ge =>
    have hq : ((decide (y ≤ x)) = true ∧ pc2 = tgt) ∨ ((decide (y ≤ x)) = false ∧ pc2 = pc + 3) := hq
    refine lv_icmp_ge hx hb hd ht (fun hT => ?_) (fun hT => ?_)
    · rcases hq with ⟨-, rfl⟩ | ⟨q, -⟩
      · exact K2
      · exact absurd q (by simp [hT])
    · rcases hq with ⟨q, -⟩ | ⟨-, rfl⟩
      · exact absurd q (by simp [hT])
      · exact K2
  | gt =>
    have hq : ((decide (y < x)) = true ∧ pc2 = tgt) ∨ ((decide (y < x)) = false ∧ pc2 = pc + 3) := hq
    refine lv_icmp_gt hx hb hd ht (fun hT => ?_) (fun hT => ?_)
    · rcases hq with ⟨-, rfl⟩ | ⟨q, -⟩
      · exact K2
      · exact absurd q (by simp [hT])
    · rcases hq with ⟨q, -⟩ | ⟨-, rfl⟩
      · exact absurd q (by simp [hT])
      · exact K2
  | le =>
    have hq : ((decide (x ≤ y)) = true ∧ pc2 = tgt) ∨ ((decide (x ≤ y)) = false ∧ pc2 = pc + 3) := hq
    refine lv_icmp_le hx hb hd ht (fun hT => ?_) (fun hT => ?_)
    · rcases hq with ⟨-, rfl⟩ | ⟨q, -⟩
      · exact K2
      · exact absurd q (by simp [hT])
    · rcases hq with ⟨q, -⟩ | ⟨-, rfl⟩
      · exact absurd q (by simp [hT])
      · exact K2
end
section
/-! ===== instructions that look at the heap ===== -/
theorem mm_K0 {p : Program} {l : Launch} {e : Env} {R : Room} {s : State} {m : MethodId} {args : Array Value} {below : List Frame} {meth : Method} {c : Code} {Q : State → Prop} {D : va_G} {ca : Nat → ClassId} {z : Value} {A : Nat → Prop} {t : mm_mT} {XS : Nat × (Nat → Int32)} {aa : Nat → Nat} {S : mm_S} {cells slots pc2 : Nat} {ls st2 : List Value} {H : Heap} {locs : List Loc} {lm : Array Slot} (K : mm_Kx p l e R s m args below meth c Q D ca z A t XS aa S cells slots pc2 ls st2 S) (I : mm_Ix s D ca z A t XS aa S H locs) (X : mm_Sx aa z S t ls lm st2) : W p l e R s m args below meth c H locs cells slots Q (F0 m pc2 lm (st2.map (mm_ad aa z))) := K aa H locs lm cells slots rfl rfl (fun _ _ => rfl) I X
theorem mm_Xp {aa : Nat → Nat} {z : Value} {S : mm_S} {t : mm_mT} {ls : List Value} {lm : Array Slot} {st st2 : List Value} (X : mm_Sx aa z S t ls lm st) (h : (∀ v ∈ st, mm_vok S v) → ∀ v ∈ st2, mm_vok S v) : mm_Sx aa z S t ls lm st2 := ⟨X.1, h X.2.1, X.2.2⟩
theorem mm_isS_sp {a : Nat} (h : mm_isS a = true) : ∃ k : Nat, k < 12 ∧ a = 1000000 + 2 * k := by
  unfold mm_isS at h
  simp only [Bool.and_eq_true, decide_eq_true_eq] at h
  exact ⟨(a - 1000000) / 2, by omega, by omega⟩
theorem mo_tableswitch (df lo hi : Int) (offs : Array Int) : mm_Ok (.tableswitch df lo hi offs) := by
  intro p l e R s m args below meth c Q D ca z A t XS d pc len ls st S pc2 ls2 st2 S2 aa H locs lm cells slots F I X hd hl hs hc hz K
  obtain ⟨hx, hb, hml, hown, hts, hnm, hcn, hK, hA, hdf, hdl⟩ := F
  obtain ⟨x, r, rfl, hs1⟩ := mm_i1_inv hs
  clear hs
  have hs := hs1
  clear hs1
  by_cases h : x.toInt < lo ∨ hi < x.toInt
  · rw [if_pos h] at hs
    obtain ⟨ht, rfl, rfl, rfl⟩ := mm_jp_inv hs
    exact lv_tableOut hx hb hd h ht (mm_K0 K I (mm_Xp X mm_t1))
  · rw [if_neg h] at hs
    cases ho : offs[(x.toInt - lo).toNat]? with
    | none => rw [ho] at hs; cases hs
    | some off =>
      rw [ho] at hs
      obtain ⟨ht, rfl, rfl, rfl⟩ := mm_jp_inv hs
      exact lv_tableIn hx hb hd (fun q => h (Or.inl q)) (fun q => h (Or.inr q)) ho ht (mm_K0 K I (mm_Xp X mm_t1))
theorem mo_lookupswitch (df : Int) (ps : Array (Int × Int)) : mm_Ok (.lookupswitch df ps) := by
  intro p l e R s m args below meth c Q D ca z A t XS d pc len ls st S pc2 ls2 st2 S2 aa H locs lm cells slots F I X hd hl hs hc hz K
  obtain ⟨hx, hb, hml, hown, hts, hnm, hcn, hK, hA, hdf, hdl⟩ := F
  obtain ⟨x, r, rfl, hs1⟩ := mm_i1_inv hs
  clear hs
  have hs := hs1
  clear hs1
  obtain ⟨hp, hs⟩ := mm_gd_inv hs
  obtain ⟨ht, rfl, rfl, rfl⟩ := mm_jp_inv hs
  exact lv_lookup hx hb hd hp rfl ht (mm_K0 K I (mm_Xp X mm_t1))
theorem mo_ldc (i : Nat) : mm_Ok (.ldc i) := by
  intro p l e R s m args below meth c Q D ca z A t XS d pc len ls st S pc2 ls2 st2 S2 aa H locs lm cells slots F I X hd hl hs hc hz K
  obtain ⟨hx, hb, hml, hown, hts, hnm, hcn, hK, hA, hdf, hdl⟩ := F
  obtain rfl : len = 2 := mm_lk_eq hl rfl (by decide)
  unfold mm_st at hs
  cases hv : mm_fd mm_LC t.2.2.2.2 i with
  | none => simp only [hv] at hs; cases hs
  | some v =>
    simp only [hv] at hs
    obtain ⟨rfl, rfl, rfl, rfl⟩ := mm_go_inv hs
    rcases mm_LC_ok _ (mm_fd_mem hv) with ⟨w, g1, g2⟩ | ⟨k, hk, g1, g2, g3⟩
    · have h1 : v = .int w := g1
      subst h1
      exact lv_ldc hx hb hown (hts _ g2) hd (mm_K0 K I (mm_Xp X (mm_p1 trivial)))
    · have h1 : v = .ref (1000000 + 2 * k) := g1
      have h2 : t.2.2.2.2 = 5 := g2
      have h3 : i = (mm_sx k).1 := g3
      clear g1 g2 g3
      subst h1
      have K1 := mm_K0 K I (mm_Xp X (mm_p1 (v := .ref (1000000 + 2 * k)) (Or.inr (Nat.le_add_right _ _))))
      rw [List.map_cons, mm_ad_ref] at K1
      have hZ := I.2.2.2.2.1.2.1 k hk
      rw [← h3] at hZ
      have hown5 : s.vm.findClass "PennyMore$Reader" = some m.cls := by
        rw [h2] at hown
        exact hown
      exact va_ldcS hx hb hown5 hZ hd K1
theorem mo_ldc_w (i : Nat) : mm_Ok (.ldc_w i) := by
  intro p l e R s m args below meth c Q D ca z A t XS d pc len ls st S pc2 ls2 st2 S2 aa H locs lm cells slots F I X hd hl hs hc hz K
  obtain ⟨hx, hb, hml, hown, hts, hnm, hcn, hK, hA, hdf, hdl⟩ := F
  obtain rfl : len = 3 := mm_lk_eq hl rfl (by decide)
  unfold mm_st at hs
  cases hv : mm_fd mm_LC t.2.2.2.2 i with
  | none => simp only [hv] at hs; cases hs
  | some v =>
    simp only [hv] at hs
    cases v with
    | int v =>
      obtain ⟨rfl, rfl, rfl, rfl⟩ := mm_go_inv hs
      rcases mm_LC_ok _ (mm_fd_mem hv) with ⟨w, h1, h2⟩ | ⟨k, hk, h1, h2, h3⟩
      · have h1 : Value.int v = .int w := h1
        cases h1
        exact lv_ldcw hx hb hown (hts _ h2) hd (mm_K0 K I (mm_Xp X (mm_p1 trivial)))
      · cases h1
    | _ => cases hs
theorem mo_ldc2_w (i : Nat) : mm_Ok (.ldc2_w i) := by
  intro p l e R s m args below meth c Q D ca z A t XS d pc len ls st S pc2 ls2 st2 S2 aa H locs lm cells slots F I X hd hl hs hc hz K
  obtain ⟨hx, hb, hml, hown, hts, hnm, hcn, hK, hA, hdf, hdl⟩ := F
  obtain rfl : len = 3 := mm_lk_eq hl rfl (by decide)
  unfold mm_st at hs
  cases hv : mm_fd mm_L2 t.2.2.2.2 i with
  | none => simp only [hv] at hs; cases hs
  | some v =>
    simp only [hv] at hs
    obtain ⟨rfl, rfl, rfl, rfl⟩ := mm_go_inv hs
    exact lv_ldc2 hx hb hown (hts _ (mm_L2_ok _ (mm_fd_mem hv))) hd (mm_K0 K I (mm_Xp X (mm_p1 trivial)))
theorem mo_getstatic (i : Nat) : mm_Ok (.getstatic i) := by
  intro p l e R s m args below meth c Q D ca z A t XS d pc len ls st S pc2 ls2 st2 S2 aa H locs lm cells slots F I X hd hl hs hc hz K
  obtain ⟨hx, hb, hml, hown, hts, hnm, hcn, hK, hA, hdf, hdl⟩ := F
  obtain rfl : len = 3 := mm_lk_eq hl rfl (by decide)
  have hs : (if t.2.2.2.2 = 13 ∧ i = 38 then mm_go (pc + 3) ls (.int 1 :: st) S else if t.2.2.2.2 = 13 ∧ i = 1053 then mm_go (pc + 3) ls (mm_FM :: st) S else none) = mm_go pc2 ls2 st2 S2 := hs
  by_cases h1 : t.2.2.2.2 = 13 ∧ i = 38
  · rw [if_pos h1] at hs
    obtain ⟨rfl, rfl, rfl, rfl⟩ := mm_go_inv hs
    obtain ⟨h2, rfl⟩ := h1
    rw [h2] at hown
    exact va_gets hx hb I.2.2.2.2.1.2.2.1 I.2.2.1 hown (hts _ mm_gs1) (fun _ h => h) hd (mm_K0 K I (mm_Xp X (mm_p1 trivial)))
  · rw [if_neg h1] at hs
    by_cases h1 : t.2.2.2.2 = 13 ∧ i = 1053
    · rw [if_pos h1] at hs
      obtain ⟨rfl, rfl, rfl, rfl⟩ := mm_go_inv hs
      obtain ⟨h2, rfl⟩ := h1
      rw [h2] at hown
      have K1 := mm_K0 K I (mm_Xp X (mm_p1 (v := mm_FM) trivial))
      exact va_gets hx hb I.2.2.2.2.1.2.2.2.1 I.2.2.1 hown (hts _ mm_gs2) (fun _ h => h) hd K1
    · rw [if_neg h1] at hs
      cases hs
theorem mm_famT {f k : Nat} (hf : f = 0 ∨ mm_bk f = false) (h : mm_fam f k = true) : mm_T k = mm_T f ∧ mm_NF k = mm_NF f ∧ mm_tg k = mm_tg f := by
  unfold mm_fam at h
  by_cases h0 : f = 0
  · subst h0
    simp only [beq_self_eq_true, if_true, mm_bk, Bool.or_eq_true, beq_iff_eq] at h
    rcases h with (((((h|h)|h)|h)|h)|h)|h <;> subst h <;> refine ⟨rfl, rfl, ?_⟩ <;> funext j <;> (match j with
      | 0 => rfl
      | 1 => rfl
      | 2 => rfl
      | 3 => rfl
      | j + 4 => rfl)
  · simp only [beq_iff_eq, h0, if_false] at h
    subst h
    exact ⟨rfl, rfl, rfl⟩
theorem mm_obj_sp {S : mm_S} {a f : Nat} (h : mm_obj S a f = true) : a < mm_n S ∧ mm_K S a < 13 ∧ mm_fam f (mm_K S a) = true := by
  unfold mm_obj at h
  simp only [Bool.and_eq_true, decide_eq_true_eq] at h
  exact ⟨h.1.1, h.1.2, h.2⟩
theorem mm_fs_get {aa : Nat → Nat} {S : mm_S} {k i j : Nat} (h : j < mm_NF k) : (mm_fs aa S k i)[j]? = some (if mm_tg k j = 1 then .long (mm_L S i j) else if mm_tg k j = 2 then va_rf ((mm_R S i j).map aa) else .int (mm_M S i j)) := by
  simp [mm_fs, h]
theorem mm_fs_len {aa : Nat → Nat} {S : mm_S} {k i : Nat} : (mm_fs aa S k i).length = mm_NF k := by simp [mm_fs]
theorem mm_ce1_obj {ca : Nat → ClassId} {aa : Nat → Nat} {S : mm_S} {i : Nat} (h : mm_K S i < 13) : mm_ce1 ca aa S i = .inr (mm_K S i, mm_fs aa S (mm_K S i) i) := by
  unfold mm_ce1
  rw [if_pos h]
theorem mo_getfield (i : Nat) : mm_Ok (.getfield i) := by
  intro p l e R s m args below meth c Q D ca z A t XS d pc len ls st S pc2 ls2 st2 S2 aa H locs lm cells slots F I X hd hl hs hc hz K
  obtain ⟨hx, hb, hml, hown, hts, hnm, hcn, hK, hA, hdf, hdl⟩ := F
  obtain rfl : len = 3 := mm_lk_eq hl rfl (by decide)
  obtain ⟨a, r, rfl, hs1⟩ := mm_r1_inv hs
  clear hs
  have hs := hs1
  clear hs1
  by_cases h13 : t.2.2.2.2 = 13
  · rw [if_pos h13] at hs
    by_cases hS : mm_isS a = true
    · rw [if_pos hS] at hs
      obtain ⟨k, hk, rfl⟩ := mm_isS_sp hS
      rw [h13] at hown
      have hE := I.2.2.2.2.1.1.1 k hk
      by_cases h9 : i = 9
      · rw [if_pos h9] at hs
        obtain ⟨rfl, rfl, rfl, rfl⟩ := mm_go_inv hs
        subst h9
        have K1 := mm_K0 K I (mm_Xp X (fun h => mm_p1 (v := .ref (1000000 + 2 * k + 1)) (Or.inr (Nat.le_trans (Nat.le_add_right 1000000 (2 * k)) (Nat.le_succ _))) (mm_t1 h)))
        rw [List.map_cons, mm_ad_ref] at K1
        rw [List.map_cons, mm_ad_ref]
        exact vk_getf hx hb hE.2.2.1 I.2.2.1 hown (hts _ mm_gs3) (fun _ h => h) hd K1
      · rw [if_neg h9] at hs
        by_cases h15 : i = 15
        · rw [if_pos h15] at hs
          obtain ⟨rfl, rfl, rfl, rfl⟩ := mm_go_inv hs
          subst h15
          have K1 := mm_K0 K I (mm_Xp X (fun h => mm_p1 (v := .int 0) trivial (mm_t1 h)))
          rw [List.map_cons, mm_ad_ref]
          exact vk_getf hx hb hE.2.1 I.2.2.1 hown (hts _ mm_gs4) (fun _ h => h) hd K1
        · rw [if_neg h15] at hs; cases hs
    · rw [if_neg hS] at hs; cases hs
  · rw [if_neg h13] at hs
    cases hf : mm_fd mm_FL t.2.2.2.2 i with
    | none => rw [hf] at hs; cases hs
    | some e0 =>
      obtain ⟨f, k, tg, fi⟩ := e0
      simp only [hf] at hs
      cases hg : mm_gf S f k tg a with
      | none => rw [hg] at hs; cases hs
      | some v =>
        rw [hg] at hs
        obtain ⟨rfl, rfl, rfl, rfl⟩ := mm_go_inv hs
        obtain ⟨ref, w1, w2, w3, w4, w5, w6⟩ := mm_FL_ok _ (mm_fd_mem hf)
        simp only at w1 w2 w3 w4 w5 w6
        unfold mm_gf at hg
        by_cases ho : mm_obj S a f = true
        · rw [if_pos ho] at hg
          obtain ⟨ha, hk13, hfam⟩ := mm_obj_sp ho
          obtain ⟨t1, t2, t3⟩ := mm_famT w5.2 hfam
          have hcell := mm_ws_get (ca := ca) (aa := aa) ha
          rw [mm_ce1_obj hk13] at hcell
          have hkN : k < mm_NF (mm_K S a) := by rw [t2]; exact w3
          have hfv := mm_fs_get (aa := aa) (S := S) (i := a) hkN
          rw [t3, w4] at hfv
          have hvv : mm_vok S v ∧ mm_ad aa z v = (if tg = 1 then .long (mm_L S a k) else if tg = 2 then va_rf ((mm_R S a k).map aa) else .int (mm_M S a k)) := by
            by_cases g1 : tg = 1
            · rw [if_pos g1] at hg ⊢
              cases hg
              exact ⟨trivial, rfl⟩
            · rw [if_neg g1] at hg ⊢
              by_cases g2 : tg = 2
              · rw [if_pos g2] at hg ⊢
                cases hg
                have hlt : ∀ b, mm_R S a k = some b → b < mm_n S := I.2.2.2.1.1 a ha k
                refine ⟨?_, mm_ad_rv⟩
                cases hr : mm_R S a k with
                | none => exact trivial
                | some b => exact Or.inl (hlt b hr)
              · rw [if_neg g2] at hg ⊢
                cases hg
                exact ⟨trivial, rfl⟩
          have K1 := mm_K0 K I (mm_Xp X (fun h => mm_p1 hvv.1 (mm_t1 h)))
          rw [List.map_cons, hvv.2] at K1
          rw [List.map_cons, mm_ad_ref]
          refine va_get (C := mm_ck (mm_K S a)) (T := mm_T (mm_K S a)) (N := mm_NF (mm_K S a)) (ci := mm_K S a) (ref := ref) hx hb hts (mm_uws _ hk13) hown hK I.1 a hcell (mm_cls_get _ hk13) k hkN (by rw [t1]; exact hts _ w1) ?_ hfv hd K1
          rw [t1]
          rcases w2 with rfl | w2
          · exact fun _ h => h
          · exact u_same (hts _ w2)
        · rw [if_neg ho] at hg; cases hg
theorem mm_fs_sM {aa : Nat → Nat} {S : mm_S} {q a k : Nat} {x : Int32} (h1 : ¬ mm_tg q k = 1) (h2 : ¬ mm_tg q k = 2) : (mm_fs aa S q a).set k (.int x) = mm_fs aa (mm_sM S a (mm_u (mm_M S a) k x)) q a := by
  apply List.ext_getElem?
  intro j
  by_cases hj : j < mm_NF q
  · rw [mm_fs_get hj]
    have e1 : mm_M (mm_sM S a (mm_u (mm_M S a) k x)) a = mm_u (mm_M S a) k x := mm_u_self
    have e2 : mm_L (mm_sM S a (mm_u (mm_M S a) k x)) = mm_L S := rfl
    have e3 : mm_R (mm_sM S a (mm_u (mm_M S a) k x)) = mm_R S := rfl
    rw [e1, e2, e3]
    by_cases h : j = k
    · subst h
      rw [List.getElem?_set_self (by rw [mm_fs_len]; exact hj), if_neg h1, if_neg h2, mm_u_self]
    · rw [List.getElem?_set_ne (Ne.symm h), mm_fs_get hj, mm_u_ne h]
  · rw [List.getElem?_eq_none (by rw [List.length_set, mm_fs_len]; omega), List.getElem?_eq_none (by rw [mm_fs_len]; omega)]
theorem mm_fs_sL {aa : Nat → Nat} {S : mm_S} {q a k : Nat} {x : Int64} (h1 : mm_tg q k = 1) : (mm_fs aa S q a).set k (.long x) = mm_fs aa (mm_sL S a (mm_u (mm_L S a) k x)) q a := by
  apply List.ext_getElem?
  intro j
  by_cases hj : j < mm_NF q
  · rw [mm_fs_get hj]
    have e1 : mm_L (mm_sL S a (mm_u (mm_L S a) k x)) a = mm_u (mm_L S a) k x := mm_u_self
    have e2 : mm_M (mm_sL S a (mm_u (mm_L S a) k x)) = mm_M S := rfl
    have e3 : mm_R (mm_sL S a (mm_u (mm_L S a) k x)) = mm_R S := rfl
    rw [e1, e2, e3]
    by_cases h : j = k
    · subst h
      rw [List.getElem?_set_self (by rw [mm_fs_len]; exact hj), if_pos h1, mm_u_self]
    · rw [List.getElem?_set_ne (Ne.symm h), mm_fs_get hj, mm_u_ne h]
  · rw [List.getElem?_eq_none (by rw [List.length_set, mm_fs_len]; omega), List.getElem?_eq_none (by rw [mm_fs_len]; omega)]
theorem mm_fs_sR {aa : Nat → Nat} {S : mm_S} {q a k b : Nat} (h1 : mm_tg q k = 2) : (mm_fs aa S q a).set k (.ref (aa b)) = mm_fs aa (mm_sR S a (mm_u (mm_R S a) k (some b))) q a := by
  apply List.ext_getElem?
  intro j
  by_cases hj : j < mm_NF q
  · rw [mm_fs_get hj]
    have e1 : mm_R (mm_sR S a (mm_u (mm_R S a) k (some b))) a = mm_u (mm_R S a) k (some b) := mm_u_self
    have e2 : mm_M (mm_sR S a (mm_u (mm_R S a) k (some b))) = mm_M S := rfl
    have e3 : mm_L (mm_sR S a (mm_u (mm_R S a) k (some b))) = mm_L S := rfl
    rw [e1, e2, e3]
    by_cases h : j = k
    · subst h
      rw [List.getElem?_set_self (by rw [mm_fs_len]; exact hj), if_neg (by omega), if_pos h1, mm_u_self]
      rfl
    · rw [List.getElem?_set_ne (Ne.symm h), mm_fs_get hj, mm_u_ne h]
  · rw [List.getElem?_eq_none (by rw [List.length_set, mm_fs_len]; omega), List.getElem?_eq_none (by rw [mm_fs_len]; omega)]
theorem mm_wf_sR {S : mm_S} {a k : Nat} {o : Option Nat} (h : mm_wf S) (ho : ∀ b, o = some b → b < mm_n S) : mm_wf (mm_sR S a (mm_u (mm_R S a) k o)) := by
  refine ⟨fun i hi j b hb => ?_, h.2⟩
  have hb : mm_u (mm_R S) a (mm_u (mm_R S a) k o) i j = some b := hb
  by_cases h1 : i = a
  · subst h1
    rw [mm_u_self] at hb
    by_cases h2 : j = k
    · subst h2
      rw [mm_u_self] at hb
      exact ho b hb
    · rw [mm_u_ne h2] at hb
      exact h.1 i hi j b hb
  · rw [mm_u_ne h1] at hb
    exact h.1 i hi j b hb
/-- the script is none of the cells -/
theorem mm_Ix_sM {s : State} {D : va_G} {ca : Nat → ClassId} {z : Value} {A : Nat → Prop} {t : mm_mT} {XS : Nat × (Nat → Int32)} {aa : Nat → Nat} {S : mm_S} {H H1 : Heap} {locs locs1 : List Loc} {a : Nat} {f : Nat → Int32} (I : mm_Ix s D ca z A t XS aa S H locs) (ha : a < mm_n S) {e1 : va_E} (he : mm_ce1 ca aa (mm_sM S a f) a = e1) (h1 : va_P D mm_cl_s ((mm_ws ca aa S).set a (aa a, e1)) H1) (h2 : va_D A ((mm_ws ca aa S).set a (aa a, e1))) (h3 : va_S A s.heap H1 locs1) : mm_Ix s D ca z A t XS aa (mm_sM S a f) H1 locs1 := by
  have hset := mm_ws_set (ca := ca) (aa := aa) (S := S) (S' := mm_sM S a f) (i := a) he rfl mm_ce1_sM
  rw [hset] at h1 h2
  have hne : mm_SC ≠ a := by
    have := I.2.2.2.1.2
    show 3000000 ≠ a
    omega
  have hm : mm_M (mm_sM S a f) mm_SC = mm_M S mm_SC := mm_u_ne hne
  exact ⟨h1, h2, h3, I.2.2.2.1, I.2.2.2.2.1, I.2.2.2.2.2.1, hm.trans I.2.2.2.2.2.2.1, I.2.2.2.2.2.2.2⟩
theorem mm_Ix_sL {s : State} {D : va_G} {ca : Nat → ClassId} {z : Value} {A : Nat → Prop} {t : mm_mT} {XS : Nat × (Nat → Int32)} {aa : Nat → Nat} {S : mm_S} {H H1 : Heap} {locs locs1 : List Loc} {a : Nat} {f : Nat → Int64} (I : mm_Ix s D ca z A t XS aa S H locs) {e1 : va_E} (he : mm_ce1 ca aa (mm_sL S a f) a = e1) (h1 : va_P D mm_cl_s ((mm_ws ca aa S).set a (aa a, e1)) H1) (h2 : va_D A ((mm_ws ca aa S).set a (aa a, e1))) (h3 : va_S A s.heap H1 locs1) : mm_Ix s D ca z A t XS aa (mm_sL S a f) H1 locs1 := by
  have hset := mm_ws_set (ca := ca) (aa := aa) (S := S) (S' := mm_sL S a f) (i := a) he rfl mm_ce1_sL
  rw [hset] at h1 h2
  exact ⟨h1, h2, h3, I.2.2.2.1, I.2.2.2.2.1, I.2.2.2.2.2⟩
theorem mm_Ix_sR {s : State} {D : va_G} {ca : Nat → ClassId} {z : Value} {A : Nat → Prop} {t : mm_mT} {XS : Nat × (Nat → Int32)} {aa : Nat → Nat} {S : mm_S} {H H1 : Heap} {locs locs1 : List Loc} {a k : Nat} {o : Option Nat} (I : mm_Ix s D ca z A t XS aa S H locs) (ho : ∀ b, o = some b → b < mm_n S) {e1 : va_E} (he : mm_ce1 ca aa (mm_sR S a (mm_u (mm_R S a) k o)) a = e1) (h1 : va_P D mm_cl_s ((mm_ws ca aa S).set a (aa a, e1)) H1) (h2 : va_D A ((mm_ws ca aa S).set a (aa a, e1))) (h3 : va_S A s.heap H1 locs1) : mm_Ix s D ca z A t XS aa (mm_sR S a (mm_u (mm_R S a) k o)) H1 locs1 := by
  have hset := mm_ws_set (ca := ca) (aa := aa) (S := S) (S' := mm_sR S a (mm_u (mm_R S a) k o)) (i := a) he rfl mm_ce1_sR
  rw [hset] at h1 h2
  exact ⟨h1, h2, h3, mm_wf_sR I.2.2.2.1 ho, I.2.2.2.2.1, I.2.2.2.2.2⟩
theorem mo_putfield (i : Nat) : mm_Ok (.putfield i) := by
  intro p l e R s m args below meth c Q D ca z A t XS d pc len ls st S pc2 ls2 st2 S2 aa H locs lm cells slots F I X hd hl hs hc hz K
  obtain ⟨hx, hb, hml, hown, hts, hnm, hcn, hK, hA, hdf, hdl⟩ := F
  obtain rfl : len = 3 := mm_lk_eq hl rfl (by decide)
  obtain ⟨v, a, r, rfl, hs1⟩ := mm_pr_inv hs
  clear hs
  have hs := hs1
  clear hs1
  · cases hf : mm_fd mm_FL t.2.2.2.2 i with
    | none => rw [hf] at hs; cases hs
    | some e0 =>
      obtain ⟨f, k, tg, fi⟩ := e0
      simp only [hf] at hs
      obtain ⟨hfin, hs⟩ := mm_gd_inv hs
      cases hg : mm_pf S f k tg a v with
      | none => rw [hg] at hs; cases hs
      | some S1 =>
        rw [hg] at hs
        obtain ⟨rfl, rfl, rfl, rfl⟩ := mm_go_inv hs
        obtain ⟨ref, w1, w2, w3, w4, w5, w6⟩ := mm_FL_ok _ (mm_fd_mem hf)
        simp only at w1 w2 w3 w4 w5 w6
        unfold mm_pf at hg
        by_cases ho : mm_obj S a f = true
        · rw [if_pos ho] at hg
          obtain ⟨ha, hk13, hfam⟩ := mm_obj_sp ho
          obtain ⟨t1, t2, t3⟩ := mm_famT w5.2 hfam
          have hcell := mm_ws_get (ca := ca) (aa := aa) ha
          rw [mm_ce1_obj hk13] at hcell
          have hkN : k < mm_NF (mm_K S a) := by rw [t2]; exact w3
          have htg : mm_tg (mm_K S a) k = tg := by rw [t3]; exact w4
          have hty := mm_tgs _ hk13 k hkN
          rw [htg] at hty
          -- one row for every sort of value
          have go : ∀ (v1 : Value), mm_ad aa z v = v1 → narrow (mm_ty (mm_K S a) k) v1 = v1 → fits (mm_ty (mm_K S a) k) v1 = true → (∀ (H1 : Heap) (locs1 : List Loc), va_P D mm_cl_s ((mm_ws ca aa S).set a (aa a, .inr (mm_K S a, (mm_fs aa S (mm_K S a) a).set k v1))) H1 → va_D A ((mm_ws ca aa S).set a (aa a, .inr (mm_K S a, (mm_fs aa S (mm_K S a) a).set k v1))) → va_S A s.heap H1 locs1 → mm_Ix s D ca z A t XS aa S1 H1 locs1 ∧ mm_n S1 = mm_n S ∧ mm_z S1 = mm_z S) → W p l e R s m args below meth c H locs cells slots Q (F0 m pc lm ((v :: .ref a :: r).map (mm_ad aa z))) := by
            intro v1 hv1 hn1 hf1 hnext
            rw [List.map_cons, List.map_cons, mm_ad_ref, hv1]
            have kk : ∀ (H1 : Heap) (locs1 : List Loc), va_P D mm_cl_s ((mm_ws ca aa S).set a (aa a, .inr (mm_K S a, (mm_fs aa S (mm_K S a) a).set k v1))) H1 → va_D A ((mm_ws ca aa S).set a (aa a, .inr (mm_K S a, (mm_fs aa S (mm_K S a) a).set k v1))) → va_S A s.heap H1 locs1 → W p l e R s m args below meth c H1 locs1 cells slots Q (F0 m (pc + 3) lm (r.map (mm_ad aa z))) := by
              intro H1 locs1 a1 a2 a3
              obtain ⟨b1, b2, b3⟩ := hnext H1 locs1 a1 a2 a3
              have hvk : ∀ w, mm_vok S w → mm_vok S1 w := by
                intro w hw
                unfold mm_vok at hw ⊢
                rw [b2]
                exact hw
              exact K aa H1 locs1 lm cells slots (by rw [b2]) (by rw [b3]) (fun _ _ => rfl) b1 ⟨fun w hw => hvk w (X.1 w hw), fun w hw => hvk w (mm_t1 (mm_t1 X.2.1) w hw), X.2.2⟩
            have hsm : ∀ x, s.fieldFound? (mm_T (mm_K S a) k).1 (mm_T (mm_K S a) k).2.1 (mm_T (mm_K S a) k).2.2.1 = some x → s.fieldFound? ref (mm_T (mm_K S a) k).2.1 (mm_T (mm_K S a) k).2.2.1 = some x := by
              rw [t1]
              rcases w2 with rfl | w2
              · exact fun _ h => h
              · exact u_same (hts _ w2)
            rcases w6 with ⟨w6, w7⟩ | ⟨w6, w7⟩
            · exact va_put (C := mm_ck (mm_K S a)) (T := mm_T (mm_K S a)) (N := mm_NF (mm_K S a)) (ci := mm_K S a) (ref := ref) hx hb hts (mm_uws _ hk13) (mm_ty (mm_K S a)) (mm_tys _ hk13) (mm_nms _ hk13) hown hK I.1 I.2.1 I.2.2.1 a hcell (mm_cls_get _ hk13) k hkN (by rw [t1]; exact hts _ w1) hsm (by rw [t1]; exact w7) (mm_tys _ hk13 k hkN) hn1 hf1 (by rw [mm_fs_len]; exact hkN) hd kk
            · have hin : t.1.name = "<init>" ∧ (mm_T f k).1 = t.1.cls := by
                simp only [Bool.or_eq_true, Bool.and_eq_true, decide_eq_true_eq] at hfin
                rcases hfin with q | q
                · omega
                · exact q
              exact va_putF (C := mm_ck (mm_K S a)) (T := mm_T (mm_K S a)) (N := mm_NF (mm_K S a)) (ci := mm_K S a) (ref := ref) hx hb hts (mm_uws _ hk13) (mm_ty (mm_K S a)) (mm_tys _ hk13) (mm_nms _ hk13) hown hK I.1 I.2.1 I.2.2.1 a hcell (mm_cls_get _ hk13) k hkN (by rw [t1]; exact hts _ w1) hsm (by rw [t1]; exact w7) (hnm hin.1) (by rw [t1]; exact hin.2.trans hcn) (mm_tys _ hk13 k hkN) hn1 hf1 (by rw [mm_fs_len]; exact hkN) hd kk
          split at hg
          · rename_i x
            cases hg
            rcases hty with ⟨-, h⟩ | ⟨h, -⟩ | ⟨h, -⟩ | ⟨h, -⟩
            · rw [h] at go
              refine go (.int x) rfl rfl rfl fun H1 locs1 a1 a2 a3 => ⟨mm_Ix_sM I ha ?_ a1 a2 a3, rfl, rfl⟩
              rw [mm_fs_sM (by omega) (by omega)]
              exact mm_ce1_obj (S := mm_sM S a _) hk13
            · omega
            · omega
            · omega
          · rename_i x
            split at hg
            · rename_i hx01
              cases hg
              rcases hty with ⟨h, -⟩ | ⟨h, -⟩ | ⟨-, h⟩ | ⟨h, -⟩
              · omega
              · omega
              · rw [h] at go
                refine go (.int x) rfl (by rcases hx01 with rfl | rfl <;> rfl) (by rcases hx01 with rfl | rfl <;> rfl) fun H1 locs1 a1 a2 a3 => ⟨mm_Ix_sM I ha ?_ a1 a2 a3, rfl, rfl⟩
                rw [mm_fs_sM (by omega) (by omega)]
                exact mm_ce1_obj (S := mm_sM S a _) hk13
              · omega
            · cases hg
          · rename_i x
            cases hg
            rcases hty with ⟨h, -⟩ | ⟨-, h⟩ | ⟨h, -⟩ | ⟨h, -⟩
            · omega
            · rw [h] at go
              refine go (.long x) rfl rfl rfl fun H1 locs1 a1 a2 a3 => ⟨mm_Ix_sL I ?_ a1 a2 a3, rfl, rfl⟩
              rw [mm_fs_sL htg]
              exact mm_ce1_obj (S := mm_sL S a _) hk13
            · omega
            · omega
          · rename_i b
            split at hg
            · rename_i hbn
              cases hg
              rcases hty with ⟨h, -⟩ | ⟨h, -⟩ | ⟨h, -⟩ | ⟨-, h⟩
              · omega
              · omega
              · omega
              · refine go (.ref (aa b)) (mm_ad_ref) (by rcases h with ⟨n, h⟩ | ⟨n, h⟩ <;> rw [h] <;> rfl) (by rcases h with ⟨n, h⟩ | ⟨n, h⟩ <;> rw [h] <;> rfl) fun H1 locs1 a1 a2 a3 => ⟨mm_Ix_sR I (fun b' hb' => by cases hb'; exact hbn) ?_ a1 a2 a3, rfl, rfl⟩
                rw [mm_fs_sR htg]
                exact mm_ce1_obj (S := mm_sR S a _) hk13
            · cases hg
          · cases hg
        · rw [if_neg ho] at hg; cases hg
end
section
/-! ===== arrays, new cells, library calls ===== -/
theorem mm_arr_sp {S : mm_S} {a k : Nat} (h : mm_arr S a k = true) : a < mm_n S ∧ mm_K S a = k := by
  unfold mm_arr at h
  simp only [Bool.and_eq_true, decide_eq_true_eq] at h
  exact h
theorem mm_ce1_i {ca : Nat → ClassId} {aa : Nat → Nat} {S : mm_S} {i : Nat} (h : mm_K S i = 13) : mm_ce1 ca aa S i = .inl (ca 13, mm_N S i, .inl (mm_M S i)) := by
  unfold mm_ce1
  rw [h]; rfl
theorem mm_ce1_z {ca : Nat → ClassId} {aa : Nat → Nat} {S : mm_S} {i : Nat} (h : mm_K S i = 15) : mm_ce1 ca aa S i = .inl (ca 15, mm_N S i, .inl (mm_M S i)) := by
  unfold mm_ce1
  rw [h]; rfl
theorem mm_ce1_j {ca : Nat → ClassId} {aa : Nat → Nat} {S : mm_S} {i : Nat} (h : mm_K S i = 14) : mm_ce1 ca aa S i = .inl (ca 14, mm_N S i, .inr (.inl (mm_L S i))) := by
  unfold mm_ce1
  rw [h]; rfl
theorem mm_ce1_q {ca : Nat → ClassId} {aa : Nat → Nat} {S : mm_S} {i k : Nat} (h : mm_K S i = k) (hk : k = 16 ∨ k = 17 ∨ k = 18) : mm_ce1 ca aa S i = .inl (ca k, mm_N S i, .inr (.inr (.inr (.inr fun j => (mm_R S i j).map aa)))) := by
  unfold mm_ce1
  rw [h]
  rcases hk with rfl | rfl | rfl <;> rfl
theorem mm_isB_sp {a : Nat} (h : mm_isB a = true) : ∃ k : Nat, k < 12 ∧ a = 1000000 + 2 * k + 1 ∧ mm_by a = (mm_sx k).2.2 := by
  unfold mm_isB at h
  simp only [Bool.and_eq_true, decide_eq_true_eq] at h
  obtain ⟨⟨h1, h2⟩, h3⟩ := h
  obtain ⟨b, rfl⟩ := Nat.exists_eq_add_of_le h1
  have h4 : b < 24 := Nat.lt_of_add_lt_add_left (n := 1000000) h2
  have e1 : mm_by (1000000 + b) = (mm_sx (b / 2)).2.2 := by
    have e0 : (1000000 + b) % 1000000 / 2 = b / 2 := by
      rw [Nat.add_mod_left, Nat.mod_eq_of_lt (by omega)]
    exact congrArg (fun k => (mm_sx k).2.2) e0
  have h5 : b % 2 = 1 := by
    have h6 : (1000000 + b) % 2 = b % 2 := by rw [Nat.add_mod]; simp
    rw [← h6]; exact h3
  have h7 : b / 2 < 12 := by omega
  have h8 : b = 2 * (b / 2) + 1 := by omega
  have h9 : 1000000 + b = 1000000 + 2 * (b / 2) + 1 := (congrArg (fun x => 1000000 + x) h8).trans (Nat.add_assoc 1000000 (2 * (b / 2)) 1).symm
  exact ⟨b / 2, h7, h9, e1⟩
theorem mm_sl_get {k : Nat} (h : k < 12) : mm_sl.getD k 0 = (mm_sx k).2.2.length := by
  simp [mm_sl, List.getD_eq_getElem?_getD, h]
theorem mm_sb_get {k : Nat} (h : k < 12) : mm_sb.getD k [] = (mm_sx k).2.2 := by
  simp [mm_sb, List.getD_eq_getElem?_getD, h]
theorem mo_iaload : mm_Ok .iaload := by
  intro p l e R s m args below meth c Q D ca z A t XS d pc len ls st S pc2 ls2 st2 S2 aa H locs lm cells slots F I X hd hl hs hc hz K
  obtain ⟨hx, hb, hml, hown, hts, hnm, hcn, hK, hA, hdf, hdl⟩ := F
  obtain rfl : len = 1 := mm_lk_eq hl rfl (by decide)
  obtain ⟨i, r, rfl, hs1⟩ := mm_i1_inv hs
  obtain ⟨a, r, rfl, hs2⟩ := mm_r1_inv hs1
  clear hs hs1
  by_cases h13 : mm_arr S a 13 = true
  case neg =>
    rw [if_neg h13] at hs2
    obtain ⟨hg, hs⟩ := mm_gd_inv hs2
    obtain ⟨rfl, rfl, rfl, rfl⟩ := mm_go_inv hs
    rw [Bool.and_eq_true, Bool.and_eq_true, decide_eq_true_eq, decide_eq_true_eq] at hg
    obtain ⟨⟨hsc, hg1⟩, hg2⟩ := hg
    have hg : t.2.2.2.2 = 17 ∧ mm_inb i (mm_N S a) = true := ⟨hg1, hg2⟩
    obtain ⟨hX, hbl, hbA⟩ := I.2.2.2.2.2.2.2 hg.1
    subst hsc
    rw [I.2.2.2.2.2.1] at hg
    rw [I.2.2.2.2.2.2.1] at K
    rw [List.map_cons, List.map_cons, mm_ad_ref]
    exact va_sld hx hb hX hbl hbA I.2.2.1 (mm_inb_in hg.2) hd (mm_K0 K I (mm_Xp X fun h => mm_p1 trivial (mm_t1 (mm_t1 h))))
  case pos =>
    rw [if_pos h13] at hs2
    obtain ⟨hg, hs⟩ := mm_gd_inv hs2
    obtain ⟨rfl, rfl, rfl, rfl⟩ := mm_go_inv hs
    obtain ⟨ha, hk⟩ := mm_arr_sp h13
    have hcell := mm_ws_get (ca := ca) (aa := aa) ha
    rw [mm_ce1_i hk] at hcell
    rw [List.map_cons, List.map_cons, mm_ad_ref]
    exact va_iald hx hb hK I.1 a 0 hcell rfl (mm_inb_in hg) hd (mm_K0 K I (mm_Xp X fun h => mm_p1 trivial (mm_t1 (mm_t1 h))))
theorem mo_laload : mm_Ok .laload := by
  intro p l e R s m args below meth c Q D ca z A t XS d pc len ls st S pc2 ls2 st2 S2 aa H locs lm cells slots F I X hd hl hs hc hz K
  obtain ⟨hx, hb, hml, hown, hts, hnm, hcn, hK, hA, hdf, hdl⟩ := F
  obtain rfl : len = 1 := mm_lk_eq hl rfl (by decide)
  obtain ⟨i, r, rfl, hs1⟩ := mm_i1_inv hs
  obtain ⟨a, r, rfl, hs2⟩ := mm_r1_inv hs1
  clear hs hs1
  obtain ⟨hg, hs⟩ := mm_gd_inv hs2
  obtain ⟨rfl, rfl, rfl, rfl⟩ := mm_go_inv hs
  rw [Bool.and_eq_true] at hg
  obtain ⟨ha, hk⟩ := mm_arr_sp hg.1
  have hcell := mm_ws_get (ca := ca) (aa := aa) ha
  rw [mm_ce1_j hk] at hcell
  rw [List.map_cons, List.map_cons, mm_ad_ref]
  exact va_lald hx hb hK I.1 a 1 hcell rfl (mm_inb_in hg.2) hd (mm_K0 K I (mm_Xp X fun h => mm_p1 trivial (mm_t1 (mm_t1 h))))
theorem mo_baload : mm_Ok .baload := by
  intro p l e R s m args below meth c Q D ca z A t XS d pc len ls st S pc2 ls2 st2 S2 aa H locs lm cells slots F I X hd hl hs hc hz K
  obtain ⟨hx, hb, hml, hown, hts, hnm, hcn, hK, hA, hdf, hdl⟩ := F
  obtain rfl : len = 1 := mm_lk_eq hl rfl (by decide)
  obtain ⟨i, r, rfl, hs1⟩ := mm_i1_inv hs
  obtain ⟨a, r, rfl, hs2⟩ := mm_r1_inv hs1
  clear hs hs1
  by_cases h15 : mm_arr S a 15 = true
  case neg =>
    rw [if_neg h15] at hs2
    obtain ⟨hg, hs⟩ := mm_gd_inv hs2
    obtain ⟨rfl, rfl, rfl, rfl⟩ := mm_go_inv hs
    rw [Bool.and_eq_true] at hg
    obtain ⟨hB, hg⟩ := hg
    obtain ⟨k, hk, rfl, hby⟩ := mm_isB_sp hB
    rw [hby] at K hg
    have hE := (I.2.2.2.2.1.1.1 k hk).2.2.2
    rw [mm_sl_get hk, mm_sb_get hk] at hE
    rw [List.map_cons, List.map_cons, mm_ad_ref]
    exact va_tb hx hb hE I.2.2.1 (mm_inb_in hg) rfl hd (mm_K0 K I (mm_Xp X fun h => mm_p1 trivial (mm_t1 (mm_t1 h))))
  case pos =>
    rw [if_pos h15] at hs2
    obtain ⟨hg, hs⟩ := mm_gd_inv hs2
    obtain ⟨rfl, rfl, rfl, rfl⟩ := mm_go_inv hs
    obtain ⟨ha, hk⟩ := mm_arr_sp h15
    have hcell := mm_ws_get (ca := ca) (aa := aa) ha
    rw [mm_ce1_z hk] at hcell
    rw [List.map_cons, List.map_cons, mm_ad_ref]
    exact va_zald hx hb hK I.1 a 2 hcell rfl (mm_inb_in hg) hd (mm_K0 K I (mm_Xp X fun h => mm_p1 trivial (mm_t1 (mm_t1 h))))
theorem mm_arrq_sp {S : mm_S} {a : Nat} (h : (mm_arr S a 16 || mm_arr S a 17 || mm_arr S a 18) = true) : a < mm_n S ∧ (mm_K S a = 16 ∨ mm_K S a = 17 ∨ mm_K S a = 18) := by
  simp only [Bool.or_eq_true] at h
  rcases h with (h | h) | h
  · obtain ⟨h1, h2⟩ := mm_arr_sp h; exact ⟨h1, Or.inl h2⟩
  · obtain ⟨h1, h2⟩ := mm_arr_sp h; exact ⟨h1, Or.inr (Or.inl h2)⟩
  · obtain ⟨h1, h2⟩ := mm_arr_sp h; exact ⟨h1, Or.inr (Or.inr h2)⟩
theorem mm_ats_q {ca : Nat → ClassId} {k : Nat} (hk : k = 16 ∨ k = 17 ∨ k = 18) : (mm_ats ca)[k - 13]? = some (ca k, .object (mm_ce k)) := by
  rcases hk with rfl | rfl | rfl <;> rfl
theorem mo_aaload : mm_Ok .aaload := by
  intro p l e R s m args below meth c Q D ca z A t XS d pc len ls st S pc2 ls2 st2 S2 aa H locs lm cells slots F I X hd hl hs hc hz K
  obtain ⟨hx, hb, hml, hown, hts, hnm, hcn, hK, hA, hdf, hdl⟩ := F
  obtain rfl : len = 1 := mm_lk_eq hl rfl (by decide)
  obtain ⟨i, r, rfl, hs1⟩ := mm_i1_inv hs
  obtain ⟨a, r, rfl, hs2⟩ := mm_r1_inv hs1
  clear hs hs1
  obtain ⟨hg, hs⟩ := mm_gd_inv hs2
  obtain ⟨rfl, rfl, rfl, rfl⟩ := mm_go_inv hs
  rw [Bool.and_eq_true] at hg
  obtain ⟨ha, hk⟩ := mm_arrq_sp hg.1
  have hcell := mm_ws_get (ca := ca) (aa := aa) ha
  rw [mm_ce1_q rfl hk] at hcell
  have hlt : ∀ b, mm_R S a i.toNatClampNeg = some b → b < mm_n S := I.2.2.2.1.1 a ha _
  have K1 := mm_K0 K I (mm_Xp X fun h => mm_p1 (v := mm_rv (mm_R S a i.toNatClampNeg)) (by
    cases hr : mm_R S a i.toNatClampNeg with
    | none => exact trivial
    | some b => exact Or.inl (hlt b hr)) (mm_t1 (mm_t1 h)))
  rw [List.map_cons, mm_ad_rv] at K1
  rw [List.map_cons, List.map_cons, mm_ad_ref]
  exact va_aldq hx hb hK I.1 a (mm_K S a - 13) hcell (mm_ats_q hk) (mm_inb_in hg.2) hd K1
theorem mm_upd_u {f : Nat → Int32} {k : Nat} {x : Int32} : upd f k x = mm_u f k x := rfl
theorem mo_iastore : mm_Ok .iastore := by
  intro p l e R s m args below meth c Q D ca z A t XS d pc len ls st S pc2 ls2 st2 S2 aa H locs lm cells slots F I X hd hl hs hc hz K
  obtain ⟨hx, hb, hml, hown, hts, hnm, hcn, hK, hA, hdf, hdl⟩ := F
  obtain rfl : len = 1 := mm_lk_eq hl rfl (by decide)
  obtain ⟨i, x, r, rfl, hs1⟩ := mm_i2_inv hs
  obtain ⟨a, r, rfl, hs2⟩ := mm_r1_inv hs1
  clear hs hs1
  obtain ⟨hg, hs⟩ := mm_gd_inv hs2
  obtain ⟨rfl, rfl, rfl, rfl⟩ := mm_go_inv hs
  rw [Bool.and_eq_true] at hg
  obtain ⟨ha, hk⟩ := mm_arr_sp hg.1
  have hcell := mm_ws_get (ca := ca) (aa := aa) ha
  rw [mm_ce1_i hk] at hcell
  rw [List.map_cons, List.map_cons, List.map_cons, mm_ad_ref]
  refine va_iast hx hb hK I.1 I.2.1 I.2.2.1 a 0 hcell rfl (mm_inb_in hg.2) hd (fun H1 locs1 a1 a2 a3 => ?_)
  refine K aa H1 locs1 lm cells slots rfl rfl (fun _ _ => rfl) (mm_Ix_sM I ha ?_ a1 a2 a3) ⟨X.1, mm_t1 (mm_t1 (mm_t1 X.2.1)), X.2.2⟩
  rw [mm_ce1_i (S := mm_sM S a _) hk]
  have e1 : mm_M (mm_sM S a (mm_u (mm_M S a) i.toNatClampNeg x)) a = mm_u (mm_M S a) i.toNatClampNeg x := mm_u_self
  rw [e1]; rfl
theorem mo_lastore : mm_Ok .lastore := by
  intro p l e R s m args below meth c Q D ca z A t XS d pc len ls st S pc2 ls2 st2 S2 aa H locs lm cells slots F I X hd hl hs hc hz K
  obtain ⟨hx, hb, hml, hown, hts, hnm, hcn, hK, hA, hdf, hdl⟩ := F
  obtain rfl : len = 1 := mm_lk_eq hl rfl (by decide)
  obtain ⟨x, r, rfl, hs0⟩ := mm_j1_inv hs
  obtain ⟨i, r, rfl, hs1⟩ := mm_i1_inv hs0
  obtain ⟨a, r, rfl, hs2⟩ := mm_r1_inv hs1
  clear hs hs0 hs1
  obtain ⟨hg, hs⟩ := mm_gd_inv hs2
  obtain ⟨rfl, rfl, rfl, rfl⟩ := mm_go_inv hs
  rw [Bool.and_eq_true] at hg
  obtain ⟨ha, hk⟩ := mm_arr_sp hg.1
  have hcell := mm_ws_get (ca := ca) (aa := aa) ha
  rw [mm_ce1_j hk] at hcell
  rw [List.map_cons, List.map_cons, List.map_cons, mm_ad_ref]
  refine va_last hx hb hK I.1 I.2.1 I.2.2.1 a 1 hcell rfl (mm_inb_in hg.2) hd (fun H1 locs1 a1 a2 a3 => ?_)
  refine K aa H1 locs1 lm cells slots rfl rfl (fun _ _ => rfl) (mm_Ix_sL I ?_ a1 a2 a3) ⟨X.1, mm_t1 (mm_t1 (mm_t1 X.2.1)), X.2.2⟩
  rw [mm_ce1_j (S := mm_sL S a _) hk]
  have e1 : mm_L (mm_sL S a (mm_u (mm_L S a) i.toNatClampNeg x)) a = mm_u (mm_L S a) i.toNatClampNeg x := mm_u_self
  rw [e1]; rfl
theorem mo_bastore : mm_Ok .bastore := by
  intro p l e R s m args below meth c Q D ca z A t XS d pc len ls st S pc2 ls2 st2 S2 aa H locs lm cells slots F I X hd hl hs hc hz K
  obtain ⟨hx, hb, hml, hown, hts, hnm, hcn, hK, hA, hdf, hdl⟩ := F
  obtain rfl : len = 1 := mm_lk_eq hl rfl (by decide)
  obtain ⟨i, x, r, rfl, hs1⟩ := mm_i2_inv hs
  obtain ⟨a, r, rfl, hs2⟩ := mm_r1_inv hs1
  clear hs hs1
  obtain ⟨hg, hs⟩ := mm_gd_inv hs2
  obtain ⟨rfl, rfl, rfl, rfl⟩ := mm_go_inv hs
  rw [Bool.and_eq_true] at hg
  obtain ⟨ha, hk⟩ := mm_arr_sp hg.1
  have hcell := mm_ws_get (ca := ca) (aa := aa) ha
  rw [mm_ce1_z hk] at hcell
  rw [List.map_cons, List.map_cons, List.map_cons, mm_ad_ref]
  refine va_zast hx hb hK I.1 I.2.1 I.2.2.1 a 2 hcell rfl (mm_inb_in hg.2) hd (fun H1 locs1 a1 a2 a3 => ?_)
  refine K aa H1 locs1 lm cells slots rfl rfl (fun _ _ => rfl) (mm_Ix_sM I ha ?_ a1 a2 a3) ⟨X.1, mm_t1 (mm_t1 (mm_t1 X.2.1)), X.2.2⟩
  rw [mm_ce1_z (S := mm_sM S a _) hk]
  have e1 : mm_M (mm_sM S a (mm_u (mm_M S a) i.toNatClampNeg (vp_nar .boolean x))) a = mm_u (mm_M S a) i.toNatClampNeg (vp_nar .boolean x) := mm_u_self
  rw [e1]; rfl
theorem mo_aastore : mm_Ok .aastore := by
  intro p l e R s m args below meth c Q D ca z A t XS d pc len ls st S pc2 ls2 st2 S2 aa H locs lm cells slots F I X hd hl hs hc hz K
  obtain ⟨hx, hb, hml, hown, hts, hnm, hcn, hK, hA, hdf, hdl⟩ := F
  obtain rfl : len = 1 := mm_lk_eq hl rfl (by decide)
  obtain ⟨v, r, rfl, hs0⟩ := mm_v1_inv hs
  obtain ⟨i, r, rfl, hs1⟩ := mm_i1_inv hs0
  obtain ⟨a, r, rfl, hs2⟩ := mm_r1_inv hs1
  clear hs hs0 hs1
  obtain ⟨hg, hs⟩ := mm_gd_inv hs2
  clear hs2
  rw [Bool.and_eq_true] at hg
  obtain ⟨ha, hk⟩ := mm_arrq_sp hg.1
  have hcell := mm_ws_get (ca := ca) (aa := aa) ha
  rw [mm_ce1_q rfl hk] at hcell
  have hset : ∀ o : Option Nat, mm_ce1 ca aa (mm_sR S a (mm_u (mm_R S a) i.toNatClampNeg o)) a = .inl (ca (mm_K S a), mm_N S a, .inr (.inr (.inr (.inr (va_up (fun j => (mm_R S a j).map aa) i.toNatClampNeg (o.map aa)))))) := by
    intro o
    rw [mm_ce1_q (S := mm_sR S a _) (k := mm_K S a) rfl hk]
    have e1 : mm_R (mm_sR S a (mm_u (mm_R S a) i.toNatClampNeg o)) a = mm_u (mm_R S a) i.toNatClampNeg o := mm_u_self
    rw [e1]
    refine congrArg (fun f => (Sum.inl (ca (mm_K S a), mm_N S a, .inr (.inr (.inr (.inr f)))) : va_E)) ?_
    funext j
    by_cases hj : j = i.toNatClampNeg
    · simp [mm_u, va_up, hj]
    · simp [mm_u, va_up, hj]
  cases v with
  | null =>
    obtain ⟨rfl, rfl, rfl, rfl⟩ := mm_go_inv hs
    rw [List.map_cons, List.map_cons, List.map_cons, mm_ad_ref]
    refine va_astqN hx hb hK I.1 I.2.1 I.2.2.1 a (mm_K S a - 13) hcell (mm_ats_q hk) (mm_inb_in hg.2) hd (fun H1 locs1 a1 a2 a3 => ?_)
    exact K aa H1 locs1 lm cells slots rfl rfl (fun _ _ => rfl) (mm_Ix_sR I (fun b h => by cases h) (hset none) a1 a2 a3) ⟨X.1, mm_t1 (mm_t1 (mm_t1 X.2.1)), X.2.2⟩
  | ref b =>
    have hb0 : ∃ b0 : Nat, b0 = b := ⟨b, rfl⟩
    obtain ⟨b0, hb0⟩ := hb0
    obtain ⟨ho, hs⟩ := mm_gd_inv hs
    obtain ⟨rfl, rfl, rfl, rfl⟩ := mm_go_inv hs
    obtain ⟨hbn, hb13, hfam⟩ := mm_obj_sp ho
    have hcb := mm_ws_get (ca := ca) (aa := aa) hbn
    rw [mm_ce1_obj hb13] at hcb
    rw [List.map_cons, List.map_cons, List.map_cons, mm_ad_ref, mm_ad_ref]
    have kk : ∀ (H1 : Heap) (locs1 : List Loc), va_P D mm_cl_s ((mm_ws ca aa S).set a (aa a, .inl (ca (mm_K S a), mm_N S a, .inr (.inr (.inr (.inr (va_up (fun j => (mm_R S a j).map aa) i.toNatClampNeg (some (aa b))))))))) H1 → va_D A ((mm_ws ca aa S).set a (aa a, .inl (ca (mm_K S a), mm_N S a, .inr (.inr (.inr (.inr (va_up (fun j => (mm_R S a j).map aa) i.toNatClampNeg (some (aa b))))))))) → va_S A s.heap H1 locs1 → W p l e R s m args below meth c H1 locs1 cells slots Q (F0 m (pc + 1) lm (r.map (mm_ad aa z))) := fun H1 locs1 a1 a2 a3 =>
      K aa H1 locs1 lm cells slots rfl rfl (fun _ _ => rfl) (mm_Ix_sR I (fun b' h => by cases h; exact hbn) (hset (some b)) a1 a2 a3) ⟨X.1, mm_t1 (mm_t1 (mm_t1 X.2.1)), X.2.2⟩
    have hor : mm_ck (mm_K S b) = mm_ce (mm_K S a) ∨ (mm_ck (mm_K S b), mm_ce (mm_K S a)) ∈ mm_E1 := by
      rcases hk with h | h | h
      · rw [h] at hfam ⊢
        exact mm_cb _ hfam
      · rw [h] at hfam ⊢
        have h6 : mm_K S b = 6 := by
          unfold mm_fam at hfam
          simp at hfam
          exact hfam.symm
        rw [h6]
        exact Or.inl rfl
      · rw [h] at hfam ⊢
        have h8 : mm_K S b = 8 := by
          unfold mm_fam at hfam
          simp at hfam
          exact hfam.symm
        rw [h8]
        exact Or.inl rfl
    rcases hor with h | h
    · exact va_astq (r := (mm_ck (mm_K S b), mm_T (mm_K S b), mm_NF (mm_K S b))) hx hb hK I.1 I.2.1 I.2.2.1 a (mm_K S a - 13) b (mm_K S b) hcell (by rw [mm_ats_q hk, ← h]) hcb (mm_cls_get _ hb13) (mm_inb_in hg.2) hd kk
    · exact va_astqO (r := (mm_ck (mm_K S b), mm_T (mm_K S b), mm_NF (mm_K S b))) hx hb hK I.1 I.2.1 I.2.2.1 a (mm_K S a - 13) b (mm_K S b) hcell (mm_ats_q hk) (I.2.2.2.2.1.2.2.2.2.2.2.1 _ h) hcb (mm_cls_get _ hb13) (mm_inb_in hg.2) hd kk
  | _ => cases hs
theorem mo_arraylength : mm_Ok .arraylength := by
  intro p l e R s m args below meth c Q D ca z A t XS d pc len ls st S pc2 ls2 st2 S2 aa H locs lm cells slots F I X hd hl hs hc hz K
  obtain ⟨hx, hb, hml, hown, hts, hnm, hcn, hK, hA, hdf, hdl⟩ := F
  obtain rfl : len = 1 := mm_lk_eq hl rfl (by decide)
  obtain ⟨a, r, rfl, hs2⟩ := mm_r1_inv hs
  clear hs
  by_cases hg : (decide (a < mm_n S) && decide (13 ≤ mm_K S a) && decide (mm_K S a < 19)) = true
  · rw [if_pos hg] at hs2
    obtain ⟨rfl, rfl, rfl, rfl⟩ := mm_go_inv hs2
    simp only [Bool.and_eq_true, decide_eq_true_eq] at hg
    obtain ⟨⟨ha, hk1⟩, hk2⟩ := hg
    have hcell := mm_ws_get (ca := ca) (aa := aa) ha
    have K1 := mm_K0 K I (mm_Xp X fun h => mm_p1 (v := .int (Int32.ofNat (mm_N S a))) trivial (mm_t1 h))
    rw [List.map_cons, mm_ad_ref]
    obtain h | h | h | h : mm_K S a = 13 ∨ mm_K S a = 14 ∨ mm_K S a = 15 ∨ (mm_K S a = 16 ∨ mm_K S a = 17 ∨ mm_K S a = 18) := by omega
    · rw [mm_ce1_i h] at hcell
      exact va_alen hx hb hK I.1 a 0 hcell rfl rfl hd K1
    · rw [mm_ce1_j h] at hcell
      exact va_alen hx hb hK I.1 a 1 hcell rfl rfl hd K1
    · rw [mm_ce1_z h] at hcell
      exact va_alen hx hb hK I.1 a 2 hcell rfl rfl hd K1
    · rw [mm_ce1_q rfl h] at hcell
      exact va_alen hx hb hK I.1 a (mm_K S a - 13) hcell (mm_ats_q h) rfl hd K1
  · rw [if_neg hg] at hs2
    by_cases hB : mm_isB a = true
    · rw [if_pos hB] at hs2
      obtain ⟨rfl, rfl, rfl, rfl⟩ := mm_go_inv hs2
      obtain ⟨k, hk, rfl, hby⟩ := mm_isB_sp hB
      rw [hby] at K
      have hE := (I.2.2.2.2.1.1.1 k hk).2.2.2
      rw [mm_sl_get hk, mm_sb_get hk] at hE
      rw [List.map_cons, mm_ad_ref]
      exact va_tlen hx hb hE I.2.2.1 rfl hd (mm_K0 K I (mm_Xp X fun h => mm_p1 trivial (mm_t1 h)))
    · rw [if_neg hB] at hs2
      obtain ⟨hg, hs⟩ := mm_gd_inv hs2
      obtain ⟨rfl, rfl, rfl, rfl⟩ := mm_go_inv hs
      rw [Bool.and_eq_true, decide_eq_true_eq, decide_eq_true_eq] at hg
      obtain ⟨hsc, hg1⟩ := hg
      obtain ⟨hX, hbl, hbA⟩ := I.2.2.2.2.2.2.2 hg1
      subst hsc
      rw [I.2.2.2.2.2.1] at K
      rw [List.map_cons, mm_ad_ref]
      exact va_slen hx hb hX hbl hbA I.2.2.1 hd (mm_K0 K I (mm_Xp X fun h => mm_p1 trivial (mm_t1 h)))
/-! ===== a new cell ===== -/
theorem mm_Ev_aa {z : Value} {aa bb : Nat → Nat} {A : Nat → Prop} {U : State} {H : Heap} (h : ∀ i, 1000000 ≤ i → bb i = aa i) (E : mm_Ev z aa A U H) : mm_Ev z bb A U H := by
  have e1 : (fun k => bb (1000000 + 2 * k)) = (fun k => aa (1000000 + 2 * k)) := funext fun k => h _ (by omega)
  have e2 : (fun k => bb (1000000 + 2 * k + 1)) = (fun k => aa (1000000 + 2 * k + 1)) := funext fun k => h _ (by omega)
  unfold mm_Ev at E ⊢
  rw [e1, e2]
  refine ⟨E.1, fun k hk => ?_, E.2.2⟩
  rw [h _ (by omega)]
  exact E.2.1 k hk
theorem mm_wf_nw {S : mm_S} {k n : Nat} (h : mm_wf S) (hn : mm_n S < 1000000) : mm_wf (mm_nw S k n) := by
  refine ⟨fun i hi j b hb => ?_, by show mm_n S + 1 ≤ 1000000; omega⟩
  have hi : i < mm_n S + 1 := hi
  show b < mm_n S + 1
  by_cases h1 : i = mm_n S
  · have e1 : mm_R (mm_nw S k n) i = fun _ => none := by rw [h1]; exact mm_u_self
    rw [e1] at hb
    cases hb
  · have e1 : mm_R (mm_nw S k n) i = mm_R S i := mm_u_ne h1
    rw [e1] at hb
    have := h.1 i (by omega) j b hb
    omega
theorem mm_vok_nw {S : mm_S} {k n : Nat} {v : Value} (h : mm_vok S v) : mm_vok (mm_nw S k n) v := by
  cases v <;> try exact trivial
  rename_i i
  rcases h with h | h
  · exact Or.inl (Nat.lt_succ_of_lt h)
  · exact Or.inr h
theorem mm_nw_ok {p : Program} {l : Launch} {e : Env} {R : Room} {s : State} {m : MethodId} {args : Array Value} {below : List Frame} {meth : Method} {c : Code} {Q : State → Prop} {D : va_G} {ca : Nat → ClassId} {z : Value} {A : Nat → Prop} {t : mm_mT} {XS : Nat × (Nat → Int32)} {pc2 : Nat} {ls r : List Value} {S : mm_S} {aa : Nat → Nat} {H H1 : Heap} {locs locs1 : List Loc} {lm : Array Slot} {cells slots k n q : Nat} {e1 : va_E} (hn : mm_n S < 1000000) (I : mm_Ix s D ca z A t XS aa S H locs) (hl : ∀ v ∈ ls, mm_vok S v) (hr : ∀ v ∈ r, mm_vok S v) (hL : mm_Lr aa z ls lm t.2.2.1) (he : mm_ce1 ca aa (mm_nw S k n) (mm_n S) = e1) (h1 : va_P D mm_cl_s (mm_ws ca aa S ++ [(q, e1)]) H1) (h2 : va_D A (mm_ws ca aa S ++ [(q, e1)])) (h3 : va_S A s.heap H1 locs1) (K : mm_Kx p l e R s m args below meth c Q D ca z A t XS aa S cells slots pc2 ls (.ref (mm_n S) :: r) (mm_nw S k n)) : W p l e R s m args below meth c H1 locs1 (cells + 1) (slots + n) Q (F0 m pc2 lm (.ref q :: r.map (mm_ad aa z))) := by
  have hag : ∀ i, i < mm_n S ∨ 1000000 ≤ i → mm_u aa (mm_n S) q i = aa i := fun i hi => mm_u_ne (by omega)
  have hnone : mm_R (mm_nw S k n) (mm_n S) = fun _ => none := mm_u_self
  have he2 : mm_ce1 ca (mm_u aa (mm_n S) q) (mm_nw S k n) (mm_n S) = e1 := by
    rw [mm_ce1_aa (aa := aa) (fun j b h => by rw [hnone] at h; cases h)]
    exact he
  have hpush := mm_ws_push (ca := ca) (aa := aa) (S := S) (k := k) (n := n) (q := q) I.2.2.2.1 he2
  rw [hpush] at h1 h2
  have hne : mm_SC ≠ mm_n S := by show 3000000 ≠ mm_n S; omega
  have K1 := K (mm_u aa (mm_n S) q) H1 locs1 lm (cells + 1) (slots + n) (by show cells + 1 + mm_n S = cells + (mm_n S + 1); omega) (by show slots + n + mm_z S = slots + (mm_z S + n); omega) hag
    ⟨h1, h2, h3, mm_wf_nw I.2.2.2.1 hn, mm_Ev_aa (fun i hi => hag i (Or.inr hi)) I.2.2.2.2.1, (show mm_N (mm_nw S k n) mm_SC = mm_N S mm_SC from mm_u_ne hne).trans I.2.2.2.2.2.1, (show mm_M (mm_nw S k n) mm_SC = mm_M S mm_SC from mm_u_ne hne).trans I.2.2.2.2.2.2.1, fun h => by
      rw [hag mm_SC (Or.inr (by decide))]
      exact I.2.2.2.2.2.2.2 h⟩
    ⟨fun v hv => mm_vok_nw (hl v hv), mm_p1 (Or.inl (Nat.lt_succ_self _)) fun v hv => mm_vok_nw (hr v hv), mm_Lr_aa hL hl hag⟩
  rw [List.map_cons, mm_ad_ref, mm_u_self, mm_map_aa hr hag] at K1
  exact K1
theorem mo_newarray (ty : ArrayType) : mm_Ok (.newarray ty) := by
  intro p l e R s m args below meth c Q D ca z A t XS d pc len ls st S pc2 ls2 st2 S2 aa H locs lm cells slots F I X hd hl hs hc hz K
  obtain ⟨hx, hb, hml, hown, hts, hnm, hcn, hK, hA, hdf, hdl⟩ := F
  obtain rfl : len = 2 := mm_lk_eq hl rfl (by decide)
  obtain ⟨n, r, rfl, hs2⟩ := mm_i1_inv hs
  clear hs
  obtain ⟨hg, hs⟩ := mm_gd_inv hs2
  simp only [Bool.and_eq_true, decide_eq_true_eq, Bool.not_eq_true', decide_eq_false_iff_not] at hg
  obtain ⟨⟨hn0, hn1⟩, hn2⟩ := hg
  have hr := mm_t1 X.2.1
  cases ty with
  | int =>
    obtain ⟨rfl, rfl, rfl, rfl⟩ := mm_go_inv hs
    have hc : cells + (mm_n S + 1) ≤ R.cells + mm_n S := hc
    have hz : slots + (mm_z S + n.toNatClampNeg) ≤ R.slots + mm_z S := hz
    refine va_newa (atype := .int) hx hb (hts _ mm_ar_i) rfl hK I.1 I.2.1 I.2.2.1 hA (a0 := (n.toNatClampNeg, .inl fun _ => 0)) (fun _ => rfl) hn0 rfl (by show n.toNatClampNeg * 4 ≤ 536870912; omega) (by omega) (by omega) hd (fun q cA H1 hK1 a1 a2 a3 => ?_)
    have hcA : cA = ca 13 := Option.some.inj (((hK1.2 6 (cA, .int) rfl).2).symm.trans ((hK.2 0 (ca 13, .int) rfl).2))
    subst hcA
    refine mm_nw_ok hn2 I X.1 hr X.2.2 ?_ a1 a2 a3 K
    have hk : mm_K (mm_nw S 13 n.toNatClampNeg) (mm_n S) = 13 := mm_u_self
    have hN : mm_N (mm_nw S 13 n.toNatClampNeg) (mm_n S) = n.toNatClampNeg := mm_u_self
    have hM : mm_M (mm_nw S 13 n.toNatClampNeg) (mm_n S) = fun _ => 0 := mm_u_self
    rw [mm_ce1_i hk, hN, hM]
  | long =>
    obtain ⟨rfl, rfl, rfl, rfl⟩ := mm_go_inv hs
    have hc : cells + (mm_n S + 1) ≤ R.cells + mm_n S := hc
    have hz : slots + (mm_z S + n.toNatClampNeg) ≤ R.slots + mm_z S := hz
    refine va_newa (atype := .long) hx hb (hts _ mm_ar_j) rfl hK I.1 I.2.1 I.2.2.1 hA (a0 := (n.toNatClampNeg, .inr (.inl fun _ => 0))) (fun _ => rfl) hn0 rfl (by show n.toNatClampNeg * 8 ≤ 536870912; omega) (by omega) (by omega) hd (fun q cA H1 hK1 a1 a2 a3 => ?_)
    have hcA : cA = ca 14 := Option.some.inj (((hK1.2 6 (cA, .long) rfl).2).symm.trans ((hK.2 1 (ca 14, .long) rfl).2))
    subst hcA
    refine mm_nw_ok hn2 I X.1 hr X.2.2 ?_ a1 a2 a3 K
    have hk : mm_K (mm_nw S 14 n.toNatClampNeg) (mm_n S) = 14 := mm_u_self
    have hN : mm_N (mm_nw S 14 n.toNatClampNeg) (mm_n S) = n.toNatClampNeg := mm_u_self
    have hM : mm_L (mm_nw S 14 n.toNatClampNeg) (mm_n S) = fun _ => 0 := mm_u_self
    rw [mm_ce1_j hk, hN, hM]
  | boolean =>
    obtain ⟨rfl, rfl, rfl, rfl⟩ := mm_go_inv hs
    have hc : cells + (mm_n S + 1) ≤ R.cells + mm_n S := hc
    have hz : slots + (mm_z S + n.toNatClampNeg) ≤ R.slots + mm_z S := hz
    refine va_newa (atype := .boolean) hx hb (hts _ mm_ar_z) rfl hK I.1 I.2.1 I.2.2.1 hA (a0 := (n.toNatClampNeg, .inl fun _ => 0)) (fun _ => rfl) hn0 rfl (by show n.toNatClampNeg * 1 ≤ 536870912; omega) (by omega) (by omega) hd (fun q cA H1 hK1 a1 a2 a3 => ?_)
    have hcA : cA = ca 15 := Option.some.inj (((hK1.2 6 (cA, .boolean) rfl).2).symm.trans ((hK.2 2 (ca 15, .boolean) rfl).2))
    subst hcA
    refine mm_nw_ok hn2 I X.1 hr X.2.2 ?_ a1 a2 a3 K
    have hk : mm_K (mm_nw S 15 n.toNatClampNeg) (mm_n S) = 15 := mm_u_self
    have hN : mm_N (mm_nw S 15 n.toNatClampNeg) (mm_n S) = n.toNatClampNeg := mm_u_self
    have hM : mm_M (mm_nw S 15 n.toNatClampNeg) (mm_n S) = fun _ => 0 := mm_u_self
    rw [mm_ce1_z hk, hN, hM]
  | _ => cases hs
theorem mo_anewarray (i : Nat) : mm_Ok (.anewarray i) := by
  intro p l e R s m args below meth c Q D ca z A t XS d pc len ls st S pc2 ls2 st2 S2 aa H locs lm cells slots F I X hd hl hs hc hz K
  obtain ⟨hx, hb, hml, hown, hts, hnm, hcn, hK, hA, hdf, hdl⟩ := F
  obtain rfl : len = 3 := mm_lk_eq hl rfl (by decide)
  obtain ⟨n, r, rfl, hs2⟩ := mm_i1_inv hs
  clear hs
  obtain ⟨hg, hs⟩ := mm_gd_inv hs2
  simp only [Bool.and_eq_true, decide_eq_true_eq, Bool.not_eq_true', decide_eq_false_iff_not] at hg
  obtain ⟨⟨hn0, hn1⟩, hn2⟩ := hg
  have hr := mm_t1 X.2.1
  cases hv : mm_fd mm_AN t.2.2.2.2 i with
  | none => rw [hv] at hs; cases hs
  | some k =>
    rw [hv] at hs
    obtain ⟨rfl, rfl, rfl, rfl⟩ := mm_go_inv hs
    obtain ⟨w1, w2, w3⟩ := mm_AN_ok _ (mm_fd_mem hv)
    have w1 : k = 16 ∨ k = 17 ∨ k = 18 := w1
    have hc : cells + (mm_n S + 1) ≤ R.cells + mm_n S := hc
    have hz : slots + (mm_z S + n.toNatClampNeg) ≤ R.slots + mm_z S := hz
    refine va_newq hx hb hown (hts _ w2) (I.2.2.2.2.1.2.2.2.2.2.2.2.1 _ w3) hK I.1 I.2.1 I.2.2.1 hA hn0 rfl (by omega) (by omega) (by omega) hd (fun q cA H1 hK1 a1 a2 a3 => ?_)
    have hcA : cA = ca k := by
      obtain ⟨_, _, _, _, _, h1⟩ := (hK1.2 6 (cA, .object (mm_ce k)) rfl).2
      obtain ⟨_, _, _, _, _, h2⟩ := (hK.2 (k - 13) (ca k, .object (mm_ce k)) (mm_ats_q w1)).2
      exact Option.some.inj (h1.symm.trans h2)
    subst hcA
    refine mm_nw_ok hn2 I X.1 hr X.2.2 ?_ a1 a2 a3 K
    have hk : mm_K (mm_nw S k n.toNatClampNeg) (mm_n S) = k := mm_u_self
    have hN : mm_N (mm_nw S k n.toNatClampNeg) (mm_n S) = n.toNatClampNeg := mm_u_self
    have hM : mm_R (mm_nw S k n.toNatClampNeg) (mm_n S) = fun _ => none := mm_u_self
    rw [mm_ce1_q hk w1, hN, hM]
    rfl
theorem mo_new (i : Nat) : mm_Ok (.new i) := by
  intro p l e R s m args below meth c Q D ca z A t XS d pc len ls st S pc2 ls2 st2 S2 aa H locs lm cells slots F I X hd hl hs hc hz K
  obtain ⟨hx, hb, hml, hown, hts, hnm, hcn, hK, hA, hdf, hdl⟩ := F
  obtain rfl : len = 3 := mm_lk_eq hl rfl (by decide)
  obtain ⟨hg, hs2⟩ := mm_gd_inv hs
  clear hs
  have hn2 := of_decide_eq_true hg
  cases hv : mm_fd mm_NW t.2.2.2.2 i with
  | none => rw [hv] at hs2; cases hs2
  | some k =>
    rw [hv] at hs2
    obtain ⟨rfl, rfl, rfl, rfl⟩ := mm_go_inv hs2
    obtain ⟨w1, w2, w3, w4⟩ := mm_NW_ok _ (mm_fd_mem hv)
    have w1 : k < 13 := w1
    have hc : cells + (mm_n S + 1) ≤ R.cells + mm_n S := hc
    have hz : slots + (mm_z S + mm_NF k) ≤ R.slots + mm_z S := hz
    have hL : mm_L (mm_nw S k (mm_NF k)) (mm_n S) = fun _ => 0 := mm_u_self
    have hM : mm_M (mm_nw S k (mm_NF k)) (mm_n S) = fun _ => 0 := mm_u_self
    have hR : mm_R (mm_nw S k (mm_NF k)) (mm_n S) = fun _ => none := mm_u_self
    have hfs : ∀ j, j < mm_NF k → defaultValue (mm_ty k j) = vp_V (mm_fs aa (mm_nw S k (mm_NF k)) k (mm_n S)) j := by
      intro j hj
      unfold vp_V
      rw [List.getD_eq_getElem?_getD, mm_fs_get hj, hL, hM, hR]
      rcases mm_tgs k w1 j hj with ⟨h1, h2⟩ | ⟨h1, h2⟩ | ⟨h1, h2⟩ | ⟨h1, h2⟩
      · rw [h1, h2]; rfl
      · rw [h1, h2]; rfl
      · rw [h1, h2]; rfl
      · rw [h1]
        rcases h2 with ⟨n, h2⟩ | ⟨n, h2⟩ <;> rw [h2] <;> rfl
    refine va_new (C := mm_ck k) (T := mm_T k) (N := mm_NF k) (ci := k) hx hb hts (mm_uws _ w1) (mm_ty k) (mm_tys _ w1) hown (hts _ w2) (hts _ w3) (hts _ w4) hK I.1 I.2.1 I.2.2.1 hA (mm_cls_get _ w1) hfs (by omega) (by omega) hd (fun q H1 a1 a2 a3 => ?_)
    refine mm_nw_ok hn2 I X.1 X.2.1 X.2.2 ?_ a1 a2 a3 K
    have hk : mm_K (mm_nw S k (mm_NF k)) (mm_n S) = k := mm_u_self
    rw [mm_ce1_obj (by rw [hk]; exact w1), hk]
theorem mo_instanceof (i : Nat) : mm_Ok (.instanceof i) := by
  intro p l e R s m args below meth c Q D ca z A t XS d pc len ls st S pc2 ls2 st2 S2 aa H locs lm cells slots F I X hd hl hs hc hz K
  obtain ⟨hx, hb, hml, hown, hts, hnm, hcn, hK, hA, hdf, hdl⟩ := F
  obtain rfl : len = 3 := mm_lk_eq hl rfl (by decide)
  obtain ⟨a, r, rfl, hs2⟩ := mm_r1_inv hs
  clear hs
  cases hv : mm_fd mm_IO t.2.2.2.2 i with
  | none => rw [hv] at hs2; cases hs2
  | some q0 =>
    obtain ⟨nm, yes⟩ := q0
    rw [hv] at hs2
    obtain ⟨ho, hs⟩ := mm_gd_inv hs2
    obtain ⟨rfl, rfl, rfl, rfl⟩ := mm_go_inv hs
    obtain ⟨ha, h13, hfam⟩ := mm_obj_sp ho
    obtain ⟨w1, w2, w3⟩ := mm_IO_ok _ (mm_fd_mem hv)
    simp only at w1 w2 w3
    have hcell := mm_ws_get (ca := ca) (aa := aa) ha
    rw [mm_ce1_obj h13] at hcell
    have hr := va_recv hK I.1 (mm_cls_get _ h13) hcell
    rw [List.map_cons, mm_ad_ref]
    have K1 := mm_K0 K I (mm_Xp X fun h => mm_p1 (v := .int (if mm_K S a ∈ yes then 1 else 0)) trivial (mm_t1 h))
    by_cases hy : mm_K S a ∈ yes
    · simp only [if_pos hy] at K1
      rcases w2 _ hy with h | h
      · rw [← h] at w1
        exact va_instE hx hb hown (hts _ w1) hr hd K1
      · exact va_instY hx hb hown (hts _ w1) (I.2.2.2.2.1.2.2.2.2.2.2.1 _ h) hr hd K1
    · simp only [if_neg hy] at K1
      exact va_instNo hx hb hown (hts _ w1) (I.2.2.2.2.1.2.2.2.2.2.1 _ (w3 _ hfam hy)) hr hd K1
theorem mm_lmsz {aa : Nat → Nat} {z : Value} {ls : List Value} {lm : Array Slot} {n : Nat} (h : mm_Lr aa z ls lm n) : lm.size = n := h.2.1
theorem mo_invokestatic (i : Nat) : mm_Ok (.invokestatic i) := by
  intro p l e R s m args below meth c Q D ca z A t XS d pc len ls st S pc2 ls2 st2 S2 aa H locs lm cells slots F I X hd hl hs hc hz K
  obtain ⟨hx, hb, hml, hown, hts, hnm, hcn, hK, hA, hdf, hdl⟩ := F
  obtain rfl : len = 3 := mm_lk_eq hl rfl (by decide)
  have hzc : z.category = 1 := I.2.2.2.2.1.2.2.2.2.1
  have hsz : c.maxLocals = lm.size := by rw [hml, mm_lmsz X.2.2]
  unfold mm_st at hs
  cases hv : mm_fd mm_AC t.2.2.2.2 i with
  | some u =>
    simp only [hv] at hs
    obtain ⟨dp, n, r, rfl, hs1⟩ := mm_i2_inv hs
    obtain ⟨a, r, rfl, hs2⟩ := mm_r1_inv hs1
    obtain ⟨sp, r, rfl, hs3⟩ := mm_i1_inv hs2
    obtain ⟨a0, r, rfl, hs4⟩ := mm_r1_inv hs3
    clear hs hs1 hs2 hs3
    obtain ⟨hg, hs⟩ := mm_gd_inv hs4
    rw [Bool.and_eq_true, decide_eq_true_eq, decide_eq_true_eq] at hg
    obtain ⟨hd1, hcs⟩ := hg
    have hlink := mm_AC_ok _ (mm_fd_mem hv)
    have hnw : nativeFrameWords "java/lang/System" "arraycopy" 5 ≤ 30 := by decide +kernel
    have hroom : ((r.map (mm_ad aa z)).map fun v => v.category).sum + (nativeFrameWords "java/lang/System" "arraycopy" 5 + 11) ≤ R.locals := by
      rw [mm_cs_map hzc]; omega
    have hvr : ∀ v ∈ r, mm_vok S v := mm_t1 (mm_t1 (mm_t1 (mm_t1 (mm_t1 X.2.1))))
    have cpy : ∀ {n0 n1 : Nat}, mm_cpOk sp dp n n0 n1 = true → ¬ sp < 0 ∧ ¬ dp < 0 ∧ ¬ n < 0 ∧ sp.toNatClampNeg + n.toNatClampNeg ≤ n0 ∧ dp.toNatClampNeg + n.toNatClampNeg ≤ n1 := by
      intro n0 n1 h
      unfold mm_cpOk at h
      simp only [Bool.and_eq_true, decide_eq_true_eq, Bool.not_eq_true', decide_eq_false_iff_not] at h
      exact ⟨h.1.1.1.1, h.1.1.1.2, h.1.1.2, h.1.2, h.2⟩
    by_cases h1 : (mm_arr S a0 13 && mm_arr S a 13 && mm_cpOk sp dp n (mm_N S a0) (mm_N S a)) = true
    · rw [if_pos h1] at hs
      obtain ⟨rfl, rfl, rfl, rfl⟩ := mm_go_inv hs
      rw [Bool.and_eq_true, Bool.and_eq_true] at h1
      obtain ⟨ha0, hk0⟩ := mm_arr_sp h1.1.1
      obtain ⟨ha, hk⟩ := mm_arr_sp h1.1.2
      obtain ⟨g1, g2, g3, g4, g5⟩ := cpy h1.2
      have hc0 := mm_ws_get (ca := ca) (aa := aa) ha0
      rw [mm_ce1_i hk0] at hc0
      have hc1 := mm_ws_get (ca := ca) (aa := aa) ha
      rw [mm_ce1_i hk] at hc1
      simp only [List.map_cons]
      rw [mm_ad_ref, mm_ad_ref]
      refine va_copyi hx hb hsz hown (hts _ hlink) (hts _ mm_ac1) (hts _ mm_ac2) (hts _ mm_ac3) hK I.1 I.2.1 I.2.2.1 a0 a 0 0 hc0 hc1 rfl rfl rfl g1 g2 g3 g4 g5 (fun _ _ => rfl) (by omega) hroom hd (fun H1 locs1 a1 a2 a3 => ?_)
      refine K aa H1 locs1 lm cells slots rfl rfl (fun _ _ => rfl) (mm_Ix_sM I ha ?_ a1 a2 a3) ⟨X.1, hvr, X.2.2⟩
      rw [mm_ce1_i (S := mm_sM S a _) hk]
      have e1 : mm_M (mm_sM S a (va_cpy (mm_M S a0) (mm_M S a) sp.toNatClampNeg dp.toNatClampNeg n.toNatClampNeg)) a = va_cpy (mm_M S a0) (mm_M S a) sp.toNatClampNeg dp.toNatClampNeg n.toNatClampNeg := mm_u_self
      rw [e1]; rfl
    · rw [if_neg h1] at hs
      by_cases h1 : (mm_arr S a0 14 && mm_arr S a 14 && mm_cpOk sp dp n (mm_N S a0) (mm_N S a)) = true
      · rw [if_pos h1] at hs
        obtain ⟨rfl, rfl, rfl, rfl⟩ := mm_go_inv hs
        rw [Bool.and_eq_true, Bool.and_eq_true] at h1
        obtain ⟨ha0, hk0⟩ := mm_arr_sp h1.1.1
        obtain ⟨ha, hk⟩ := mm_arr_sp h1.1.2
        obtain ⟨g1, g2, g3, g4, g5⟩ := cpy h1.2
        have hc0 := mm_ws_get (ca := ca) (aa := aa) ha0
        rw [mm_ce1_j hk0] at hc0
        have hc1 := mm_ws_get (ca := ca) (aa := aa) ha
        rw [mm_ce1_j hk] at hc1
        simp only [List.map_cons]
        rw [mm_ad_ref, mm_ad_ref]
        refine va_copyl hx hb hsz hown (hts _ hlink) (hts _ mm_ac1) (hts _ mm_ac2) (hts _ mm_ac3) hK I.1 I.2.1 I.2.2.1 a0 a 1 1 hc0 hc1 rfl rfl rfl g1 g2 g3 g4 g5 (fun _ _ => rfl) (by omega) hroom hd (fun H1 locs1 a1 a2 a3 => ?_)
        refine K aa H1 locs1 lm cells slots rfl rfl (fun _ _ => rfl) (mm_Ix_sL I ?_ a1 a2 a3) ⟨X.1, hvr, X.2.2⟩
        rw [mm_ce1_j (S := mm_sL S a _) hk]
        have e1 : mm_L (mm_sL S a (va_cpy (mm_L S a0) (mm_L S a) sp.toNatClampNeg dp.toNatClampNeg n.toNatClampNeg)) a = va_cpy (mm_L S a0) (mm_L S a) sp.toNatClampNeg dp.toNatClampNeg n.toNatClampNeg := mm_u_self
        rw [e1]; rfl
      · rw [if_neg h1] at hs
        cases hs
  | none =>
    simp only [hv] at hs
    cases hm : mm_fd mm_MX t.2.2.2.2 i with
    | none =>
      simp only [hm] at hs
      cases hq : mm_fd mm_ST t.2.2.2.2 i with
      | none => simp only [hq] at hs; cases hs
      | some q =>
        simp only [hq] at hs
        obtain ⟨-, hs⟩ := mm_gd_inv hs
        cases hs
    | some k =>
      simp only [hm] at hs
      obtain ⟨x, y, r, rfl, hs1⟩ := mm_i2_inv hs
      clear hs
      obtain ⟨hg, hs⟩ := mm_gd_inv hs1
      rw [Bool.and_eq_true, decide_eq_true_eq, decide_eq_true_eq] at hg
      obtain ⟨hd1, hcs⟩ := hg
      obtain ⟨rfl, rfl, rfl, rfl⟩ := mm_go_inv hs
      have hroom : ((r.map (mm_ad aa z)).map fun v => v.category).sum + 13 ≤ R.locals := by
        rw [mm_cs_map hzc]; omega
      have K1 := mm_K0 K I (mm_Xp X fun h => mm_p1 (v := .int (if k = 0 then (if y < x then y else x) else (if x < y then y else x))) trivial (mm_t1 (mm_t1 h)))
      rcases mm_MX_ok _ (mm_fd_mem hm) with ⟨h1, h2⟩ | ⟨h1, h2⟩
      · have h1 : k = 0 := h1
        subst h1
        exact va_mmin hx hb hsz hown (hts _ h2) (hts _ mm_mx_min1) (hts _ mm_mx_0) (hts _ mm_mx_min2) (by omega) hroom (by omega) (by omega) hd K1
      · have h1 : k = 1 := h1
        subst h1
        exact va_mmax hx hb hsz hown (hts _ h2) (hts _ mm_mx_max1) (hts _ mm_mx_0) (hts _ mm_mx_max2) (by omega) hroom (by omega) (by omega) hd K1
theorem mo_invokespecial (i : Nat) : mm_Ok (.invokespecial i) := by
  intro p l e R s m args below meth c Q D ca z A t XS d pc len ls st S pc2 ls2 st2 S2 aa H locs lm cells slots F I X hd hl hs hc hz K
  obtain ⟨hx, hb, hml, hown, hts, hnm, hcn, hK, hA, hdf, hdl⟩ := F
  obtain rfl : len = 3 := mm_lk_eq hl rfl (by decide)
  have hzc : z.category = 1 := I.2.2.2.2.1.2.2.2.2.1
  have hsz : c.maxLocals = lm.size := by rw [hml, mm_lmsz X.2.2]
  unfold mm_st at hs
  cases hv : mm_fd mm_OI t.2.2.2.2 i with
  | some u =>
    simp only [hv] at hs
    obtain ⟨a, r, rfl, hs1⟩ := mm_r1_inv hs
    clear hs
    obtain ⟨hg, hs⟩ := mm_gd_inv hs1
    simp only [Bool.and_eq_true, decide_eq_true_eq] at hg
    obtain ⟨hd1, hcs⟩ := hg
    obtain ⟨rfl, rfl, rfl, rfl⟩ := mm_go_inv hs
    rw [List.map_cons, mm_ad_ref]
    have K1 := mm_K0 K I (mm_Xp X mm_t1)
    have hroom := lv_room (m := m) (pc := pc) (ls := lm) (rest := .ref (aa a) :: r.map (mm_ad aa z)) (st := r.map (mm_ad aa z)) (by rw [mm_cs_map hzc]; exact hcs)
    exact W.objInit hx hb hown (hts _ (mm_OI_ok _ (mm_fd_mem hv))) (hts _ mm_oi1) (hts _ mm_oi2) rfl hsz.symm rfl hd (by omega) (by omega) K1
  | none =>
    simp only [hv] at hs
    cases hq : mm_fd mm_SP t.2.2.2.2 i with
    | none => simp only [hq] at hs; cases hs
    | some q =>
      simp only [hq] at hs
      obtain ⟨-, hs⟩ := mm_gd_inv hs
      obtain ⟨a, r, -, hs⟩ := mm_r1_inv hs
      obtain ⟨-, hs⟩ := mm_gd_inv hs
      cases hs
theorem mo_invokevirtual (i : Nat) : mm_Ok (.invokevirtual i) := by
  intro p l e R s m args below meth c Q D ca z A t XS d pc len ls st S pc2 ls2 st2 S2 aa H locs lm cells slots F I X hd hl hs hc hz K
  unfold mm_st at hs
  cases hq : mm_fd mm_VT t.2.2.2.2 i with
  | none => simp only [hq] at hs; cases hs
  | some q =>
    simp only [hq] at hs
    obtain ⟨-, hs⟩ := mm_gd_inv hs
    obtain ⟨a, r, -, hs⟩ := mm_r1_inv hs
    obtain ⟨-, hs⟩ := mm_gd_inv hs
    cases hy : mm_lu q.2 (mm_rk S a) with
    | none => simp only [hy] at hs; cases hs
    | some y => simp only [hy] at hs; cases hs
end
section
/-! ===== a frame's run; a method's contract; calls ===== -/
theorem mo_stuck {i : Instr} (h : ∀ d t pc ls st S, mm_st d t pc ls st S i = none) : mm_Ok i := by
  intro p l e R s m args below meth c Q D ca z A t XS d pc len ls st S pc2 ls2 st2 S2 aa H locs lm cells slots F I X hd hl hs hc hz K
  rw [h] at hs
  cases hs
theorem mm_ire_inv {st : List Value} {rt : Option FieldType} {S : mm_S} {A : (Nat × List Value × List Value × mm_S) ⊕ ((Nat × List Value × List Value × mm_S) ⊕ (Option Value × mm_S))} (h : mm_ire st rt S = some A) : ∃ (x : Int32) (ty : FieldType), st = [.int x] ∧ rt = some ty ∧ narrow ty (.int x) = .int x ∧ ty ≠ .long ∧ A = .inr (.inr (some (.int x), S)) := by
  unfold mm_ire at h
  split at h
  · split at h
    · rename_i x ty hq
      exact ⟨x, ty, rfl, rfl, hq.1, hq.2, (Option.some.inj h).symm⟩
    · cases h
  · cases h
theorem mm_lre_inv {st : List Value} {rt : Option FieldType} {S : mm_S} {A : (Nat × List Value × List Value × mm_S) ⊕ ((Nat × List Value × List Value × mm_S) ⊕ (Option Value × mm_S))} (h : mm_lre st rt S = some A) : ∃ (x : Int64), st = [.long x] ∧ rt = some .long ∧ A = .inr (.inr (some (.long x), S)) := by
  unfold mm_lre at h
  split at h
  · exact ⟨_, rfl, rfl, (Option.some.inj h).symm⟩
  · cases h
theorem mm_are_inv {st : List Value} {rt : Option FieldType} {S : mm_S} {A : (Nat × List Value × List Value × mm_S) ⊕ ((Nat × List Value × List Value × mm_S) ⊕ (Option Value × mm_S))} (h : mm_are st rt S = some A) : ∃ (a : Nat) (n : String), st = [.ref a] ∧ rt = some (.object n) ∧ A = .inr (.inr (some (.ref a), S)) := by
  unfold mm_are at h
  split at h
  · exact ⟨_, _, rfl, rfl, (Option.some.inj h).symm⟩
  · cases h
theorem mm_vre_inv {st : List Value} {rt : Option FieldType} {S : mm_S} {A : (Nat × List Value × List Value × mm_S) ⊕ ((Nat × List Value × List Value × mm_S) ⊕ (Option Value × mm_S))} (h : mm_vre st rt S = some A) : st = [] ∧ rt = none ∧ A = .inr (.inr (none, S)) := by
  unfold mm_vre at h
  split at h
  · exact ⟨rfl, rfl, (Option.some.inj h).symm⟩
  · cases h
theorem mm_ok_all (i : Instr) : mm_Ok i := by
  cases i with
  | iconst n => exact mo_iconst n
  | bipush n => exact mo_bipush n
  | sipush n => exact mo_sipush n
  | lconst n => exact mo_lconst n
  | ldc n => exact mo_ldc n
  | ldc_w n => exact mo_ldc_w n
  | ldc2_w n => exact mo_ldc2_w n
  | iload_n k => exact mo_iload_n k
  | iload k => exact mo_iload k
  | lload_n k => exact mo_lload_n k
  | lload k => exact mo_lload k
  | aload_n k => exact mo_aload_n k
  | aload k => exact mo_aload k
  | istore_n k => exact mo_istore_n k
  | istore k => exact mo_istore k
  | lstore_n k => exact mo_lstore_n k
  | lstore k => exact mo_lstore k
  | astore_n k => exact mo_astore_n k
  | astore k => exact mo_astore k
  | iinc k n => exact mo_iinc k n
  | iadd => exact mo_iadd
  | isub => exact mo_isub
  | imul => exact mo_imul
  | iand => exact mo_iand
  | ior => exact mo_ior
  | ixor => exact mo_ixor
  | idiv => exact mo_idiv
  | irem => exact mo_irem
  | ishl => exact mo_ishl
  | ishr => exact mo_ishr
  | iushr => exact mo_iushr
  | ineg => exact mo_ineg
  | i2l => exact mo_i2l
  | i2b => exact mo_i2b
  | i2s => exact mo_i2s
  | i2c => exact mo_i2c
  | l2i => exact mo_l2i
  | ladd => exact mo_ladd
  | lsub => exact mo_lsub
  | lmul => exact mo_lmul
  | land => exact mo_land
  | lor => exact mo_lor
  | ldiv => exact mo_ldiv
  | lrem => exact mo_lrem
  | lshl => exact mo_lshl
  | lcmp => exact mo_lcmp
  | dup => exact mo_dup
  | pop => exact mo_pop
  | pop2 => exact mo_pop2
  | dup2 => exact mo_dup2
  | goto off => exact mo_goto off
  | ifCond c off => exact mo_ifCond c off
  | if_icmp c off => exact mo_if_icmp c off
  | tableswitch df lo hi offs => exact mo_tableswitch df lo hi offs
  | lookupswitch df ps => exact mo_lookupswitch df ps
  | getstatic i => exact mo_getstatic i
  | getfield i => exact mo_getfield i
  | putfield i => exact mo_putfield i
  | iaload => exact mo_iaload
  | laload => exact mo_laload
  | baload => exact mo_baload
  | aaload => exact mo_aaload
  | iastore => exact mo_iastore
  | lastore => exact mo_lastore
  | bastore => exact mo_bastore
  | aastore => exact mo_aastore
  | arraylength => exact mo_arraylength
  | newarray ty => exact mo_newarray ty
  | anewarray i => exact mo_anewarray i
  | new i => exact mo_new i
  | instanceof i => exact mo_instanceof i
  | invokestatic i => exact mo_invokestatic i
  | invokevirtual i => exact mo_invokevirtual i
  | invokespecial i => exact mo_invokespecial i
  | ireturn =>
    intro p l e R s m args below meth c Q D ca z A t XS d pc len ls st S pc2 ls2 st2 S2 aa H locs lm cells slots F I X hd hl hs hc hz K
    have hs : mm_ire st t.2.2.2.1 S = some _ := hs
    obtain ⟨_, _, _, _, _, _, h⟩ := mm_ire_inv hs
    cases h
  | lreturn =>
    intro p l e R s m args below meth c Q D ca z A t XS d pc len ls st S pc2 ls2 st2 S2 aa H locs lm cells slots F I X hd hl hs hc hz K
    have hs : mm_lre st t.2.2.2.1 S = some _ := hs
    obtain ⟨_, _, _, h⟩ := mm_lre_inv hs
    cases h
  | areturn =>
    intro p l e R s m args below meth c Q D ca z A t XS d pc len ls st S pc2 ls2 st2 S2 aa H locs lm cells slots F I X hd hl hs hc hz K
    have hs : mm_are st t.2.2.2.1 S = some _ := hs
    obtain ⟨_, _, _, _, h⟩ := mm_are_inv hs
    cases h
  | return_ =>
    intro p l e R s m args below meth c Q D ca z A t XS d pc len ls st S pc2 ls2 st2 S2 aa H locs lm cells slots F I X hd hl hs hc hz K
    have hs : mm_vre st t.2.2.2.1 S = some _ := hs
    obtain ⟨_, _, h⟩ := mm_vre_inv hs
    cases h
  | _ => exact mo_stuck fun _ _ _ _ _ _ => rfl
end
section
/-! ===== contracts of whole runs ===== -/
def mm_Rk (t : mm_mT) (pc : Nat) (v : Option Value) : Prop := match v with
  | none => decode t.2.1 pc = .ok (.return_, 1) ∧ t.2.2.2.1 = none
  | some (.int x) => decode t.2.1 pc = .ok (.ireturn, 1) ∧ ∃ ty, t.2.2.2.1 = some ty ∧ narrow ty (.int x) = .int x
  | some (.long _) => decode t.2.1 pc = .ok (.lreturn, 1) ∧ t.2.2.2.1 = some .long
  | some (.ref a) => decode t.2.1 pc = .ok (.areturn, 1) ∧ ∃ n, t.2.2.2.1 = some (.object n)
  | _ => False
def mm_Fm (f : Nat) : Prop := ∀ (p : Program) (l : Launch) (e : Env) (R : Room) (s : State) (m : MethodId) (args : Array Value) (below : List Frame) (meth : Method) (c : Code) (Q : State → Prop) (D : va_G) (ca : Nat → ClassId) (z : Value) (A : Nat → Prop) (t : mm_mT) (XS : Nat × (Nat → Int32)) (d y pc : Nat) (ls st : List Value) (S : mm_S) (v : Option Value) (S' : mm_S) (aa : Nat → Nat) (H : Heap) (locs : List Loc) (lm : Array Slot) (cells slots : Nat),
  mm_mt[y]? = some t → mm_run f d y pc ls st S = some (v, S') → mm_Fx p R s m args meth c D ca A d t → mm_Ix s D ca z A t XS aa S H locs → mm_Sx aa z S t ls lm st → cells + mm_n S' ≤ R.cells + mm_n S → slots + mm_z S' ≤ R.slots + mm_z S →
  (∀ (pc' : Nat) (aa' : Nat → Nat) (H' : Heap) (locs' : List Loc) (lm' : Array Slot) (cells' slots' : Nat), cells' + mm_n S = cells + mm_n S' → slots' + mm_z S = slots + mm_z S' → (∀ i, i < mm_n S ∨ 1000000 ≤ i → aa' i = aa i) → mm_Rk t pc' v → mm_Ix s D ca z A t XS aa' S' H' locs' → (∀ w ∈ v.toList, mm_vok S' w) → W p l e R s m args below meth c H' locs' cells' slots' Q (F0 m pc' lm' (v.toList.map (mm_ad aa' z)))) →
  W p l e R s m args below meth c H locs cells slots Q (F0 m pc lm (st.map (mm_ad aa z)))
theorem mm_run_mono : ∀ (f d y pc : Nat) (ls st : List Value) (S : mm_S) (v : Option Value) (S' : mm_S), mm_run f d y pc ls st S = some (v, S') → mm_n S ≤ mm_n S' ∧ mm_z S ≤ mm_z S' := by
  intro f
  induction f with
  | zero => intro d y pc ls st S v S' h; cases h
  | succ f ih =>
    intro d y pc ls st S v S' h
    unfold mm_run at h
    cases ht : mm_mt[y]? with
    | none => rw [ht] at h; cases h
    | some t =>
      simp only [ht] at h
      cases hd : decode t.2.1 pc with
      | error x => rw [hd] at h; cases h
      | ok il =>
        obtain ⟨i, len⟩ := il
        simp only [hd] at h
        by_cases hl : (mm_lk i len && mm_mo i S (mm_st d t pc ls st S i)) = true
        · simp only [if_pos hl] at h
          rw [Bool.and_eq_true] at hl
          obtain ⟨-, hm⟩ := hl
          cases ha : mm_st d t pc ls st S i with
          | none => rw [ha] at h; cases h
          | some B =>
            rw [ha] at hm
            rcases B with q | q | q
            · simp only [ha] at h
              simp only [mm_mo, Bool.and_eq_true, decide_eq_true_eq] at hm
              have := ih _ _ _ _ _ _ _ _ h
              omega
            · simp only [ha] at h
              simp only [mm_mo, Bool.and_eq_true, decide_eq_true_eq] at hm
              cases d with
              | zero => cases h
              | succ d =>
                simp only at h
                by_cases hq : q.1 < mm_nc
                · simp only [if_pos hq] at h
                  cases hu : mm_mt[q.1]? with
                  | none => rw [hu] at h; cases h
                  | some u =>
                    simp only [hu] at h
                    by_cases hf : (mm_as q.2.1).length ≤ u.2.2.1
                    · simp only [if_pos hf] at h
                      cases hr : mm_run f d q.1 0 (mm_en u.2.2.1 q.2.1) [] q.2.2.2 with
                      | none => rw [hr] at h; cases h
                      | some w =>
                        rw [hr] at h
                        have h1 := ih _ _ _ _ _ _ _ _ hr
                        have h2 := ih _ _ _ _ _ _ _ _ h
                        omega
                    · rw [if_neg hf] at h; cases h
                · rw [if_neg hq] at h; cases h
            · simp only [ha] at h
              simp only [mm_mo, Bool.and_eq_true, decide_eq_true_eq] at hm
              cases h
              exact hm.1
        · rw [if_neg hl] at h; cases h
theorem mm_Ev_vm {z : Value} {aa : Nat → Nat} {A : Nat → Prop} {u U : State} {H : Heap} (hv : U.vm = u.vm) (E : mm_Ev z aa A u H) : mm_Ev z aa A U H := by
  have al : u.vm.Alike U.vm := by rw [hv]; exact Vm.Alike.refl _
  exact ⟨vk_S.moved al E.1, fun k hk => vk_R.same hv (E.2.1 k hk), va_Z.moved al E.2.2.1, va_Z.moved al E.2.2.2.1, E.2.2.2.2.1, fun q hq => va_Nc.moved al (E.2.2.2.2.2.1 q hq), fun q hq => va_Nw.same rfl hv.symm (E.2.2.2.2.2.2.1 q hq), fun q hq => va_AO.moved al (E.2.2.2.2.2.2.2.1 q hq), fun q hq => va_Nw.same rfl hv.symm (E.2.2.2.2.2.2.2.2 q hq)⟩
theorem mm_Ev_warm {z : Value} {aa : Nat → Nat} {A : Nat → Prop} {s U : State} {H : Heap} (hW : s.WarmedH U.vm) (E : mm_Ev z aa A s H) : mm_Ev z aa A U H := by
  have al := hW.alike
  exact ⟨vk_S.moved al E.1, fun k hk => vk_R.warm hW (E.2.1 k hk), va_Z.moved al E.2.2.1, va_Z.moved al E.2.2.2.1, E.2.2.2.2.1, fun q hq => va_Nc.moved al (E.2.2.2.2.2.1 q hq), fun q hq => va_Nw.warmC hW (E.2.2.2.2.2.2.1 q hq), fun q hq => va_AO.moved al (E.2.2.2.2.2.2.2.1 q hq), fun q hq => va_Nw.warmM hW (E.2.2.2.2.2.2.2.2 q hq)⟩
theorem mm_Ev_kept {z : Value} {aa : Nat → Nat} {A B : Nat → Prop} {U : State} {H H1 : Heap} (hq : ∀ a : Nat, a < H.size → ¬ A a → H1[a]? = H[a]?) (hAB : ∀ q, B q → A q) (E : mm_Ev z aa A U H) : mm_Ev z aa B U H1 :=
  ⟨(E.1.kept hq).narrow hAB, E.2.1, (E.2.2.1.kept hq).narrow hAB, (E.2.2.2.1.kept hq).narrow hAB, E.2.2.2.2⟩
theorem mm_free {A : Nat → Prop} {ws : va_W} {H0 H : Heap} {locs : List Loc} (hD : va_D A ws) (hS : va_S A H0 H locs) (hA : ∀ q, H0.size ≤ q → A q) : ∀ q, va_A ws H.size q → A q := by
  intro q h
  rcases h with ⟨k, e, h⟩ | h
  · exact hD.2 k (q, e) h
  · exact hA q (Nat.le_trans hS.1 h)
def mm_rm (d k n : Nat) : Room := { frames := d, cells := k, slots := n, locals := 60 * d }
def mm_Pc (D : va_G) (ca : Nat → ClassId) (z : Value) (aa : Nat → Nat) (S : mm_S) (sz : Nat) (U : State) : Prop := U.heap.size = sz ∧ va_P D mm_cl_s (mm_ws ca aa S) U.heap ∧ va_K D mm_cl_s (mm_ats ca) U ∧ va_D (fun _ => True) (mm_ws ca aa S) ∧ mm_Ev z aa (va_A (mm_ws ca aa S) sz) U U.heap
def mm_Qc (D : va_G) (ca : Nat → ClassId) (z : Value) (aa : Nat → Nat) (XS : Nat × (Nat → Int32)) (S : mm_S) (sz : Nat) (v : Option Value) (S' : mm_S) : Array Value → State → Outcome → State → Prop := fun _ st o t =>
  (∃ aa' : Nat → Nat, o = .returned (v.map (mm_ad aa' z)) ∧ (∀ i, i < mm_n S ∨ 1000000 ≤ i → aa' i = aa i) ∧ va_P D mm_cl_s (mm_ws ca aa' S') t.heap ∧ va_D (va_A (mm_ws ca aa S) sz) (mm_ws ca aa' S') ∧ mm_wf S' ∧ mm_N S' mm_SC = XS.1 ∧ mm_M S' mm_SC = XS.2 ∧ ∀ w ∈ v.toList, mm_vok S' w) ∧ va_F (va_A (mm_ws ca aa S) sz) st t
theorem mm_en_vok {S : mm_S} {n : Nat} {as : List Value} (h : ∀ w ∈ as, mm_vok S w) : ∀ w ∈ mm_en n as, mm_vok S w := by
  have h2 : ∀ (l : List Value), (∀ w ∈ l, mm_vok S w) → ∀ w ∈ mm_as l, mm_vok S w := by
    intro l
    induction l with
    | nil => intro _ w hw; cases hw
    | cons v l ih =>
      intro hl w hw
      unfold mm_as at hw
      split at hw
      · rcases List.mem_cons.mp hw with rfl | hw
        · exact hl _ List.mem_cons_self
        · rcases List.mem_cons.mp hw with rfl | hw
          · exact trivial
          · exact ih (mm_t1 hl) w hw
      · rcases List.mem_cons.mp hw with rfl | hw
        · exact hl _ List.mem_cons_self
        · exact ih (mm_t1 hl) w hw
  intro w hw
  rcases List.mem_append.mp hw with hw | hw
  · exact h2 as h w hw
  · rw [(List.mem_replicate.mp hw).2]; exact trivial
theorem mm_met {f : Nat} (hF : mm_Fm f) {y : Nat} {u : mm_mT} (hy : mm_mc[y]? = some u) {d : Nat} {as : List Value} {S : mm_S} {v : Option Value} {S' : mm_S} (hlen : (mm_as as).length ≤ u.2.2.1) (hr : mm_run f d y 0 (mm_en u.2.2.1 as) [] S = some (v, S')) (l : Launch) (D : va_G) (ca : Nat → ClassId) (z : Value) (aa : Nat → Nat) (XS : Nat × (Nat → Int32)) (sz : Nat) (hwf : mm_wf S) (hvok : ∀ w ∈ as, mm_vok S w) (hN : mm_N S mm_SC = XS.1) (hM : mm_M S mm_SC = XS.2) :
    Met l u.1 (.code u.1 u.2.1 u.2.2.1 u.2.2.2.1 :: mm_G) (mm_rm d (mm_n S' - mm_n S) (mm_z S' - mm_z S)) (va_Pc (as.map (mm_ad aa z)) (mm_Pc D ca z aa S sz)) (mm_Qc D ca z aa XS S sz v S') (mm_n S' - mm_n S) (mm_z S' - mm_z S) (va_A (mm_ws ca aa S) sz) := by
  obtain ⟨u1, u2, u3, u4, u5, u6⟩ := mm_mc_ok u (List.mem_of_getElem? hy)
  have hmono := mm_run_mono _ _ _ _ _ _ _ _ _ hr
  have hyt : mm_mt[y]? = some u := by
    unfold mm_mt
    rw [List.getElem?_append_left (List.getElem?_eq_some_iff.mp hy).1]
    exact hy
  refine Met.ofW (cc := u.2.1) (maxL := u.2.2.1) (ret := u.2.2.2.1) u2 rfl ?_
  intro p e s m args below meth c s₁ B hml hv
  obtain ⟨rfl, hsz, hP, hK, hD0, hE⟩ := hv
  have hx := B.exec
  have hb := B.bytes
  have hrt := B.returns
  have hts0 := atoms_spec (ws := .code u.1 u.2.1 u.2.2.1 u.2.2.2.1 :: mm_G) B.pre
  have hts : ∀ w ∈ mm_G, w.before (as.map (mm_ad aa z)).toArray s = true := fun w hw => hts0 w (List.mem_cons_of_mem _ hw)
  have hown : s.vm.findClass u.1.cls = some m.cls := findClass_of_methodNamed B.named
  have hlocks := B.notSynchronized
  have hin : meth.name = u.1.name := (name_of_methodNamed B.named B.method).1
  have hzc : z.category = 1 := hE.2.2.2.2.1
  subst hsz
  rw [lg_entry_eq]
  rw [u4] at hown
  refine hF p l e (mm_rm d (mm_n S' - mm_n S) (mm_z S' - mm_z S)) s m _ below meth c _ D ca z (va_A (mm_ws ca aa S) s.heap.size) u XS d y 0 (mm_en u.2.2.1 as) [] S v S' aa s.heap [] _ 0 0 hyt hr
    ⟨hx, hb, hml, hown, hts, fun h => hin.trans h, u4, hK, fun q h => Or.inr h, Nat.le_refl _, Nat.le_refl _⟩
    ⟨hP, hD0.self, va_S.rf, hwf, hE, hN, hM, fun h => absurd h u5⟩
    ⟨mm_en_vok hvok, fun w h => (by cases h), mm_en_Lr hzc hlen⟩ (by show 0 + mm_n S' ≤ (mm_n S' - mm_n S) + mm_n S; omega) (by show 0 + mm_z S' ≤ (mm_z S' - mm_z S) + mm_z S; omega) ?_
  intro pc' aa' H' locs' lm' cells' slots' hc1 hz1 hag hk I' hvk
  obtain rfl : cells' = mm_n S' - mm_n S := by omega
  obtain rfl : slots' = mm_z S' - mm_z S := by omega
  have hfree : ∀ q ∈ locs', va_A (mm_ws ca aa S) s.heap.size q.base := I'.2.2.1.2.2
  have hq : ∀ (w : Option Value), w = v.map (mm_ad aa' z) → ∀ t : State, t.heap = H' → s.WarmedH t.vm → mm_Qc D ca z aa XS S s.heap.size v S' (as.map (mm_ad aa z)).toArray s (.returned w) t := by
    intro w hw t ht _
    exact ⟨⟨aa', by rw [hw], hag, by rw [ht]; exact I'.1, I'.2.1, I'.2.2.2.1, I'.2.2.2.2.2.1, I'.2.2.2.2.2.2.1, hvk⟩, I'.2.2.1.F ht⟩
  match v, hk, hq with
  | none, hk, hq => exact W.vret hx hb (hrt.trans hk.2) (hq none rfl) hfree hk.1 hlocks
  | some (.int x), hk, hq =>
    obtain ⟨h1, ty, h2, h3⟩ := hk
    exact W.zret hx hb (hrt.trans h2) h3 (hq _ rfl) hfree h1 hlocks
  | some (.long x), hk, hq => exact W.lret hx hb (hrt.trans hk.2) (hq _ rfl) hfree hk.1 hlocks
  | some (.ref a), hk, hq =>
    obtain ⟨h1, n, h2⟩ := hk
    exact W.aret hx hb (hrt.trans h2) (Or.inl ⟨n, rfl⟩) (Or.inr ⟨aa' a, mm_ad_ref⟩) (hq _ rfl) hfree h1 hlocks
theorem mm_blind {D : va_G} {ca : Nat → ClassId} {z : Value} {aa : Nat → Nat} {S : mm_S} {sz : Nat} {av : List Value} : FrameBlind (va_Pc av (mm_Pc D ca z aa S sz)) := by
  intro a U g mk h
  obtain ⟨h1, h2, h3, h4, h5, h6⟩ := h
  exact ⟨h1, h2, h3, va_K.moved (u := U) (U := U.calling g mk a) (Vm.Alike.refl U.vm) h4, h5, mm_Ev_vm (u := U) (U := U.calling g mk a) rfl h6⟩
section MMC
variable {p : Program} {l : Launch} {e : Env} {R : Room} {s : State} {m : MethodId} {args : Array Value} {below : List Frame} {meth : Method} {c : Code} {H : Heap} {locs : List Loc} {cells slots : Nat} {Q : State → Prop}
theorem mm_callg {D : va_G} {ca : Nat → ClassId} {z : Value} {aa : Nat → Nat} {XS : Nat × (Nat → Int32)} {S S' : mm_S} {v : Option Value} {pc mc ms : Nat} {lm : Array Slot} {st0 rest : List Value} {a : Array Value} {A0 : Nat → Prop} {H0 : Heap}
    (hr : va_Run p l e R s m args below meth c H locs cells slots mc ms (F0 m pc lm st0) rest (mm_Qc D ca z aa XS S H.size v S' a) (va_A (mm_ws ca aa S) H.size)) (hS : va_S A0 H0 H locs) (hf : ∀ q, va_A (mm_ws ca aa S) H.size q → A0 q)
    (kk : ∀ (aa' : Nat → Nat) (H1 : Heap) (locs1 : List Loc), (∀ i, i < mm_n S ∨ 1000000 ≤ i → aa' i = aa i) → va_P D mm_cl_s (mm_ws ca aa' S') H1 → va_D A0 (mm_ws ca aa' S') → mm_wf S' → mm_N S' mm_SC = XS.1 → mm_M S' mm_SC = XS.2 → (∀ w ∈ v.toList, mm_vok S' w) → va_S A0 H0 H1 locs1 → W p l e R s m args below meth c H1 locs1 (cells + mc) (slots + ms) Q (F0 m (pc + 3) lm ((v.toList.map (mm_ad aa' z)) ++ rest))) :
    W p l e R s m args below meth c H locs cells slots Q (F0 m pc lm st0) := by
  intro T hT X
  obtain ⟨w, st₀, t, T', L, h0, X', hL, e1, e2, ⟨⟨aa', hv, hag, hP1, hD1, hw1, hN1, hM1, hvk⟩, hz, hk⟩, st⟩ := hr T hT X
  cases hv
  rw [h0] at hz hk
  obtain ⟨t2, a1, b1⟩ := kk aa' T'.heap (locs ++ L) hag (by rw [e1]; exact hP1) (hD1.weaken fun _ q _ h => hf q.1 h) hw1 hN1 hM1 hvk
    ⟨Nat.le_trans hS.1 (by rw [e1]; exact hz), fun q h1 h2 => by rw [e1, hk q (Nat.lt_of_lt_of_le h1 hS.1) (fun z => h2 (hf q z))]; exact hS.2.1 q h1 h2, fun q hq => by
      rcases List.mem_append.mp hq with h | h
      · exact hS.2.2 q h
      · exact hf _ (hL q h)⟩ T' rfl X'
  refine ⟨t2, st t2 ?_, b1⟩
  have e3 : (v.map (mm_ad aa' z)).toList ++ rest = v.toList.map (mm_ad aa' z) ++ rest := by cases v <;> rfl
  rw [e3]
  exact a1
end MMC
end
section
/-! ===== calls ===== -/
theorem mm_i1_some {st : List Value} {f : Int32 → List Value → mm_Act} {B : (Nat × List Value × List Value × mm_S) ⊕ ((Nat × List Value × List Value × mm_S) ⊕ (Option Value × mm_S))} (h : mm_i1 st f = some B) : ∃ x r, st = .int x :: r ∧ f x r = some B := by
  unfold mm_i1 at h
  split at h
  · exact ⟨_, _, rfl, h⟩
  · cases h
theorem mm_i2_some {st : List Value} {f : Int32 → Int32 → List Value → mm_Act} {B : (Nat × List Value × List Value × mm_S) ⊕ ((Nat × List Value × List Value × mm_S) ⊕ (Option Value × mm_S))} (h : mm_i2 st f = some B) : ∃ x y r, st = .int y :: .int x :: r ∧ f x y r = some B := by
  unfold mm_i2 at h
  split at h
  · exact ⟨_, _, _, rfl, h⟩
  · cases h
theorem mm_r1_some {st : List Value} {f : Nat → List Value → mm_Act} {B : (Nat × List Value × List Value × mm_S) ⊕ ((Nat × List Value × List Value × mm_S) ⊕ (Option Value × mm_S))} (h : mm_r1 st f = some B) : ∃ (x : Nat) (r : List Value), st = .ref x :: r ∧ f x r = some B := by
  unfold mm_r1 at h
  split at h
  · exact ⟨_, _, rfl, h⟩
  · cases h
theorem mm_gd_some {b : Bool} {C : mm_Act} {B : (Nat × List Value × List Value × mm_S) ⊕ ((Nat × List Value × List Value × mm_S) ⊕ (Option Value × mm_S))} (h : mm_gd b C = some B) : b = true ∧ C = some B := by
  unfold mm_gd at h
  split at h
  · exact ⟨by assumption, h⟩
  · cases h
theorem mm_ca_inv {y z : Nat} {as st as' st' : List Value} {S S' : mm_S} (h : mm_ca y as st S = some (.inr (.inl (z, as', st', S')))) : y = z ∧ as = as' ∧ st = st' ∧ S = S' := by
  unfold mm_ca at h
  simp only [Option.some.injEq, Sum.inr.injEq, Sum.inl.injEq, Prod.mk.injEq] at h
  exact h
theorem mm_td (st : List Value) (n : Nat) : (st.take n).reverse.reverse ++ st.drop n = st := by rw [List.reverse_reverse, List.take_append_drop]
/-- a call through an inherited name of a superclass's method -/
theorem mm_callSU {p : Program} {l : Launch} {e : Env} {R : Room} {s : State} {m : MethodId} {args : Array Value} {below : List Frame} {meth : Method} {c : Code} {T : State} {locs : List Loc} {cells slots : Nat} (X : Stand p l e R s m args below meth c T locs cells slots) (hexec : p.tables.exec = Jvm.exec) {own : String} {index : Nat} {x y : MethodName} {bytes : ByteArray} {maxL : Nat} {ret : Option FieldType}
    (hown : s.vm.findClass own = some m.cls) (hlink : (Cond.methodLink own index x).before args s = true) (hsame : (Cond.sameMethod x.cls y.cls x.name x.desc).before args s = true) (hsup : (Cond.superclass own x.cls).before args s = true) (hup : x.cls = y.cls ∨ (Cond.superclass x.cls y.cls).before args s = true) (hyx : y = ⟨y.cls, x.name, x.desc⟩)
    (hinst : (Cond.instanceMethod y).before args s = true) (hcode : (Cond.code y bytes maxL ret).before args s = true) (hno : x.name ≠ "<init>")
    {W : Nat} {Pre : Pt → Array Value → Prop} {Post : Pt → Array Value → Option Value → Pt → Prop} (hK : Back l R p e below s args y 3 W Pre Post)
    {b : Addr} {cellB : Cell} {kB : Class} (hcell : T.heap[b]? = some cellB) (hobj : cellB.vm.isStatics = false) (hkB : s.vm.classes[cellB.cls]? = some kB)
    {g : JFrame} (hg : g.method = m) (hsize : g.locals.size = c.maxLocals) {argsL rest : List Value} (hlen : ∀ sig, parseMethodDescriptor x.desc = some sig → argsL.length = sig.parameters.length)
    (hstack : g.stack = argsL.reverse ++ .ref b :: rest) (hW : 2 * g.monitorRoom + (rest.map fun v => v.category).sum ≤ W) (hdg : decode c.code g.pc = .ok (.invokespecial index, 3))
    (hpre : ∀ vm₁, s.WarmedH vm₁ → Pre ⟨T.setVm vm₁, locs, cells, slots⟩ (Value.ref b :: argsL).toArray) :
    ∃ (v : Option Value) (vm₁ : Vm) (B : Pt), s.WarmedH vm₁ ∧ Stand p l e R s m args below meth c B.U B.locs B.cells B.slots ∧ Post ⟨T.setVm vm₁, locs, cells, slots⟩ (Value.ref b :: argsL).toArray v B ∧
      ∀ target, Steps p.tables e below (B.U.setTop { g with pc := g.pc + 3, stack := v.toList ++ rest }) target → Steps p.tables e below (T.setTop g) target := by
  obtain ⟨mk, methM, hnamed, hmethM, hstM, habM⟩ := Cond.instanceMethod_spec hinst
  obtain ⟨methM', cM, hmethM', -, -, -, -, -, -, hsigM⟩ := Cond.code_spec hnamed hcode
  cases hmethM.symm.trans hmethM'
  obtain ⟨ps, dk, kp, hps, hdk, hkp, hsuper, -, -, hnid⟩ := Cond.superclass_spec hown hsup
  have hn : s.methodNamed? ⟨y.cls, x.name, x.desc⟩ = some mk := by rw [← hyx]; exact hnamed
  have hsigX : parseMethodDescriptor x.desc = some methM.sig := by
    rw [hyx] at hsigM
    exact hsigM
  have hmc := findClass_of_methodNamed hnamed
  have hsub : s.vm.isSubclass ps mk.cls = true := by
    rcases hup with h | h
    · rw [h] at hps
      have hpm : ps = mk.cls := Option.some.inj (hps.symm.trans hmc)
      rw [hpm]; simp [Vm.isSubclass, Vm.isSubclassAux]
    · obtain ⟨ps2, dk2, kp2, hps2, hdk2, hkp2, hsuper2, -, -, -⟩ := Cond.superclass_spec hps h
      have hpm : ps2 = mk.cls := Option.some.inj (hps2.symm.trans hmc)
      rw [← hpm]
      have hsz : ∃ k, s.vm.classes.size = k + 1 := ⟨s.vm.classes.size - 1, by have := (Array.getElem?_eq_some_iff.mp hdk2).1; omega⟩
      obtain ⟨k, hk⟩ := hsz
      unfold Vm.isSubclass
      rw [hk]
      simp only [Vm.isSubclassAux, hdk2, hsuper2]
      simp
  obtain ⟨vm₁, X₁, hstep₁⟩ := X.invokespecialUp hexec hown hlink hsame hn hmethM hstM habM hno hdk hnid hps hsuper hsub (a := b) (cell := cellB) hcell
    (fun z h => by rw [h] at hobj; cases hobj) hkB (g := g) hg (argsL := argsL) (rest := rest) (hlen _ hsigX) hstack hdg
  obtain ⟨v, B, X', hpost, hsteps⟩ := hK m meth c ⟨T.setVm vm₁, locs, cells, slots⟩ { g with stack := rest } (.invokespecial index) mk (Value.ref b :: argsL).toArray X₁ hg hsize hdg hW (X₁.named hnamed) (hpre vm₁ X₁.warmed)
  exact ⟨v, vm₁, B, X₁.warmed, X', hpost, fun target h => hstep₁ _ (by rw [doInvoke_state]; exact hsteps.trans h)⟩
section MMD
variable {p : Program} {l : Launch} {e : Env} {R : Room} {s : State} {m : MethodId} {args : Array Value} {below : List Frame} {meth : Method} {c : Code} {H : Heap} {locs : List Loc} {cells slots : Nat} {Q : State → Prop} {D : va_G} {ca : Nat → ClassId} {z : Value} {A : Nat → Prop} {t u : mm_mT} {XS : Nat × (Nat → Int32)} {d pc y : Nat} {ls st as st' : List Value} {S S1 : mm_S} {aa : Nat → Nat} {lm : Array Slot} {Qc : Array Value → State → Outcome → State → Prop} {mc ms : Nat} {free : Addr → Prop}
theorem mm_preS (F : mm_Fx p R s m args meth c D ca A (d + 1) t) (I : mm_Ix s D ca z A t XS aa S H locs) : FrameBlind (va_Pc (as.map (mm_ad aa z)) (mm_Pc D ca z aa S H.size)) ∧ ∀ U : State, U.heap = H → s.WarmedH U.vm → va_Pc (as.map (mm_ad aa z)) (mm_Pc D ca z aa S H.size) (as.map (mm_ad aa z)).toArray U := by
  refine ⟨mm_blind, fun U hU hW => ⟨rfl, by rw [hU], by rw [hU]; exact I.1, va_K.moved hW.alike F.2.2.2.2.2.2.2.1, I.2.1.weaken (fun _ _ _ _ => trivial), ?_⟩⟩
  rw [hU]
  exact mm_Ev_warm hW (mm_Ev_kept (fun a h1 h2 => I.2.2.1.2.1 a h1 h2) (mm_free I.2.1 I.2.2.1 F.2.2.2.2.2.2.2.2.1) I.2.2.2.2.1)
theorem mm_cb_of (F : mm_Fx p R s m args meth c D ca A (d + 1) t) (hu : mm_okT u) {own : String} {index n : Nat} (hini : Cond.initialized u.1.cls ∈ mm_G) (hl : Cond.methodLink own index u.1 ∈ mm_G) (hds : (parseMethodDescriptor u.1.desc).map (fun d => d.parameters.length) = some n) : CallB R s args own index u.1 u.2.1 u.2.2.1 u.2.2.2.1 (.code u.1 u.2.1 u.2.2.1 u.2.2.2.1 :: mm_G) (mm_rm d mc ms) mc ms n := by
  have hts := F.2.2.2.2.1
  have h1 := F.2.2.2.2.2.2.2.2.2
  have h3 := hu.2.2.1
  refine callB_of n hts (mm_Ggood (ws := .code u.1 u.2.1 u.2.2.1 u.2.2.2.1 :: mm_G) ?_) rfl rfl rfl (hts _ hini) (hts _ hl) ⟨hu.2.2.2.2.2.1, hu.2.2.2.2.2.2, hds⟩ ⟨?_, ?_⟩
  · intro w hw
    rcases List.mem_cons.mp hw with rfl | hw
    · exact hu.1
    · exact hw
  · show d + 1 ≤ R.frames; exact h1.1
  · show 8 + (u.2.2.1 + 11) + 60 * d ≤ R.locals; omega
theorem mm_back (F : mm_Fx p R s m args meth c D ca A (d + 1) t) (hu : mm_okT u) (hini : Cond.initialized u.1.cls ∈ mm_G) (hM : Met l u.1 (.code u.1 u.2.1 u.2.2.1 u.2.2.2.1 :: mm_G) (mm_rm d mc ms) (va_Pc (as.map (mm_ad aa z)) (mm_Pc D ca z aa S H.size)) Qc mc ms free) : Back l R p e below s args u.1 3 8 (PreOf R mc ms (va_Pc (as.map (mm_ad aa z)) (mm_Pc D ca z aa S H.size))) (PostOf Qc mc ms free) := by
  have hts := F.2.2.2.2.1
  have h1 := F.2.2.2.2.2.2.2.2.2
  have h3 := hu.2.2.1
  have hg : ∀ w ∈ (Cond.code u.1 u.2.1 u.2.2.1 u.2.2.2.1 :: mm_G), w ∈ mm_G := by
    intro w hw
    rcases List.mem_cons.mp hw with rfl | hw
    · exact hu.1
    · exact hw
  exact back_of (bytes := u.2.1) (maxL := u.2.2.1) (ret := u.2.2.2.1) hM mm_blind rfl rfl (by show d + 1 ≤ R.frames; exact h1.1) (by show 8 + (u.2.2.1 + 11) + 60 * d ≤ R.locals; omega) (pay_in hts (mm_Ggood hg)) List.mem_cons_self (fun a' U hW => word_at hW (mm_Ggood hg _ (List.mem_cons_of_mem _ hini)).2 (hts _ hini))
theorem mm_ca_sp {i : Instr} (hi : mm_iv i = true) (hs : mm_st (d + 1) t pc ls st S i = some (.inr (.inl (y, as, st', S1)))) : S = S1 ∧ ((∀ v ∈ st, mm_vok S v) → (∀ v ∈ as, mm_vok S v) ∧ ∀ v ∈ st', mm_vok S v) := by
  have htake : ∀ n, (∀ v ∈ st, mm_vok S v) → (∀ v ∈ (st.take n).reverse, mm_vok S v) ∧ ∀ v ∈ st.drop n, mm_vok S v := fun n h => ⟨fun v hv => h v (List.mem_of_mem_take (List.mem_reverse.mp hv)), fun v hv => h v (List.mem_of_mem_drop hv)⟩
  cases i with
  | invokestatic k =>
    unfold mm_st at hs
    cases hv : mm_fd mm_AC t.2.2.2.2 k with
    | some q =>
      simp only [hv] at hs
      obtain ⟨_, _, _, _, hs⟩ := mm_i2_some hs
      obtain ⟨_, _, _, hs⟩ := mm_r1_some hs
      obtain ⟨_, _, _, hs⟩ := mm_i1_some hs
      obtain ⟨_, _, _, hs⟩ := mm_r1_some hs
      obtain ⟨_, hs⟩ := mm_gd_some hs
      split at hs
      · cases hs
      · split at hs
        · cases hs
        · cases hs
    | none =>
      simp only [hv] at hs
      cases hm : mm_fd mm_MX t.2.2.2.2 k with
      | some q =>
        simp only [hm] at hs
        obtain ⟨_, _, _, _, hs⟩ := mm_i2_some hs
        obtain ⟨_, hs⟩ := mm_gd_some hs
        cases hs
      | none =>
        simp only [hm] at hs
        cases hq : mm_fd mm_ST t.2.2.2.2 k with
        | none => simp only [hq] at hs; cases hs
        | some q =>
          simp only [hq] at hs
          obtain ⟨_, hs⟩ := mm_gd_some hs
          obtain ⟨rfl, rfl, rfl, rfl⟩ := mm_ca_inv hs
          exact ⟨rfl, htake _⟩
  | invokevirtual k =>
    unfold mm_st at hs
    cases hq : mm_fd mm_VT t.2.2.2.2 k with
    | none => simp only [hq] at hs; cases hs
    | some q =>
      simp only [hq] at hs
      obtain ⟨_, hs⟩ := mm_gd_some hs
      obtain ⟨a, r, hdr, hs⟩ := mm_r1_some hs
      obtain ⟨_, hs⟩ := mm_gd_some hs
      cases hy : mm_lu q.2 (mm_rk S a) with
      | none => simp only [hy] at hs; cases hs
      | some w =>
        simp only [hy] at hs
        obtain ⟨rfl, rfl, rfl, rfl⟩ := mm_ca_inv hs
        refine ⟨rfl, fun h => ?_⟩
        obtain ⟨h1, h2⟩ := htake q.1 h
        rw [hdr] at h2
        exact ⟨mm_p1 (h2 _ List.mem_cons_self) h1, mm_t1 h2⟩
  | invokespecial k =>
    unfold mm_st at hs
    cases hv : mm_fd mm_OI t.2.2.2.2 k with
    | some q =>
      simp only [hv] at hs
      obtain ⟨_, _, _, hs⟩ := mm_r1_some hs
      obtain ⟨_, hs⟩ := mm_gd_some hs
      cases hs
    | none =>
      simp only [hv] at hs
      cases hq : mm_fd mm_SP t.2.2.2.2 k with
      | none => simp only [hq] at hs; cases hs
      | some q =>
        simp only [hq] at hs
        obtain ⟨_, hs⟩ := mm_gd_some hs
        obtain ⟨a, r, hdr, hs⟩ := mm_r1_some hs
        obtain ⟨_, hs⟩ := mm_gd_some hs
        obtain ⟨rfl, rfl, rfl, rfl⟩ := mm_ca_inv hs
        refine ⟨rfl, fun h => ?_⟩
        obtain ⟨h1, h2⟩ := htake q.1 h
        rw [hdr] at h2
        exact ⟨mm_p1 (h2 _ List.mem_cons_self) h1, mm_t1 h2⟩
  | _ => cases hi
theorem mm_lu_mem : ∀ {l : List (Nat × Nat)} {k y : Nat}, mm_lu l k = some y → (k, y) ∈ l
  | [], k, y, h => by simp [mm_lu] at h
  | q :: l, k, y, h => by
    unfold mm_lu at h
    split at h
    · rename_i hc
      obtain ⟨a, b⟩ := q
      simp only [beq_iff_eq] at hc
      cases h
      rw [← hc]; exact List.mem_cons_self
    · exact List.mem_cons_of_mem _ (mm_lu_mem h)
/-- the receiver's class -/
theorem mm_rcv (F : mm_Fx p R s m args meth c D ca A (d + 1) t) (I : mm_Ix s D ca z A t XS aa S H locs) {a k : Nat} (hk : mm_rk S a = k) (h : k < 13 ∨ k = 100) : ∃ cellB : Cell, H[aa a]? = some cellB ∧ cellB.vm.isStatics = false ∧ s.vm.findClass (mm_ck k) = some cellB.cls := by
  unfold mm_rk at hk
  split at hk
  · rename_i ha
    split at hk
    · rename_i h13
      subst hk
      have hcell := mm_ws_get (ca := ca) (aa := aa) ha
      rw [mm_ce1_obj h13] at hcell
      exact va_recv F.2.2.2.2.2.2.2.1 I.1 (mm_cls_get _ h13) hcell
    · omega
  · split at hk
    · rename_i hS
      subst hk
      obtain ⟨k, hk, rfl⟩ := mm_isS_sp hS
      exact vk_recv (adK := fun k => aa (1000000 + 2 * k)) (i := k) I.2.2.2.2.1.1 hk I.2.2.1
    · omega
theorem mm_ca_run {i : Instr} {len : Nat} (hi : mm_iv i = true) (F : mm_Fx p R s m args meth c D ca A (d + 1) t) (I : mm_Ix s D ca z A t XS aa S H locs) (hlm : lm.size = t.2.2.1) (hd : decode t.2.1 pc = .ok (i, len)) (hl : mm_lk i len = true) (hs : mm_st (d + 1) t pc ls st S i = some (.inr (.inl (y, as, st', S1)))) (hu : mm_mc[y]? = some u) (hM : Met l u.1 (.code u.1 u.2.1 u.2.2.1 u.2.2.2.1 :: mm_G) (mm_rm d mc ms) (va_Pc (as.map (mm_ad aa z)) (mm_Pc D ca z aa S H.size)) Qc mc ms free) (hf : cells + mc ≤ R.cells ∧ slots + ms ≤ R.slots) : va_Run p l e R s m args below meth c H locs cells slots mc ms (F0 m pc lm (st.map (mm_ad aa z))) (st'.map (mm_ad aa z)) (Qc (as.map (mm_ad aa z)).toArray) free := by
  have hok := mm_mc_ok u (List.mem_of_getElem? hu)
  have hzc : z.category = 1 := I.2.2.2.2.1.2.2.2.2.1
  have hpre := mm_preS (as := as) F I
  obtain ⟨hx, hb, hml, hown, hts, hnm, hcn, hK, hA, hdf, hdl⟩ := id F
  have hfix : CallFix p m c t.2.1 t.2.2.1 s args mm_G (mm_cn t.2.2.2.2) := ⟨hx, hb, hml, hown, hts⟩
  have hW : ∀ {r : List Value}, mm_cs r ≤ 8 → 2 * (F0 m pc lm (st.map (mm_ad aa z))).monitorRoom + ((r.map (mm_ad aa z)).map fun v => v.category).sum ≤ 8 := fun {r} h => lv_room (m := m) (pc := pc) (ls := lm) (rest := st.map (mm_ad aa z)) (st := r.map (mm_ad aa z)) (by rw [mm_cs_map hzc]; exact h)
  have hsplit : ∀ n, st.map (mm_ad aa z) = ((st.take n).reverse.map (mm_ad aa z)).reverse ++ (st.drop n).map (mm_ad aa z) := fun n => by
    rw [← List.map_reverse, ← List.map_append, mm_td]
  cases i with
  | invokestatic k =>
    obtain rfl : len = 3 := mm_lk_eq hl rfl (by decide)
    unfold mm_st at hs
    cases hv : mm_fd mm_AC t.2.2.2.2 k with
    | some q =>
      simp only [hv] at hs
      obtain ⟨_, _, _, _, hs⟩ := mm_i2_some hs
      obtain ⟨_, _, _, hs⟩ := mm_r1_some hs
      obtain ⟨_, _, _, hs⟩ := mm_i1_some hs
      obtain ⟨_, _, _, hs⟩ := mm_r1_some hs
      obtain ⟨_, hs⟩ := mm_gd_some hs
      split at hs
      · cases hs
      · split at hs
        · cases hs
        · cases hs
    | none =>
      simp only [hv] at hs
      cases hm : mm_fd mm_MX t.2.2.2.2 k with
      | some q =>
        simp only [hm] at hs
        obtain ⟨_, _, _, _, hs⟩ := mm_i2_some hs
        obtain ⟨_, hs⟩ := mm_gd_some hs
        cases hs
      | none =>
        simp only [hm] at hs
        cases hq : mm_fd mm_ST t.2.2.2.2 k with
        | none => simp only [hq] at hs; cases hs
        | some q =>
          obtain ⟨na, z0⟩ := q
          simp only [hq] at hs
          obtain ⟨hg, hs⟩ := mm_gd_some hs
          rw [Bool.and_eq_true, decide_eq_true_eq, decide_eq_true_eq] at hg
          obtain ⟨rfl, rfl, rfl, rfl⟩ := mm_ca_inv hs
          obtain ⟨t0, x, w1, w2, w3, w4, w5, w6⟩ := mm_ST_ok _ (mm_fd_mem hq)
          simp only at w1 w2 w3 w4 w5
          cases w1.symm.trans hu
          have hn : ((st.take na).reverse.map (mm_ad aa z)).length = na := by simp; omega
          rcases w6 with rfl | ⟨w6, w7⟩
          · exact va_runS hfix hM ⟨mm_cb_of F hok w4 w2 w5, hts _ w3⟩ hpre rfl hn hlm (hsplit na) (hW hg.2) hd hf
          · intro T hT X
            have hBk : Back l R p e below s args u.1 3 8 (PreOf R mc ms (va_Pc ((st.take na).reverse.map (mm_ad aa z)) (mm_Pc D ca z aa S H.size))) (PostOf Qc mc ms free) := mm_back F hok w4 hM
            have hst : (Cond.static ⟨u.1.cls, x.name, x.desc⟩).before args s = true := by rw [← w7]; exact hts _ w3
            rw [w7] at hBk
            obtain ⟨mk, hnamed⟩ := Cond.code_named (hts _ hok.1)
            obtain ⟨methM, cM, hmethM, -, -, -, -, -, -, hsigM⟩ := Cond.code_spec hnamed (hts _ hok.1)
            have hnamed2 : s.methodNamed? ⟨u.1.cls, x.name, x.desc⟩ = some mk := by rw [← w7]; exact hnamed
            have hsig2 : parseMethodDescriptor x.desc = some methM.sig := by
              rw [w7] at hsigM
              exact hsigM
            have hlen : ∀ sig, parseMethodDescriptor x.desc = some sig → ((st.take na).reverse.map (mm_ad aa z)).length = sig.parameters.length := by
              intro sig h
              rw [h] at w5
              rw [hn]
              exact (Option.some.inj w5).symm
            obtain ⟨kP, hkP, -⟩ := className_of_methodNamed hnamed
            have hinitP : kP.init = .initialized := Cond.initialized_spec (findClass_of_methodNamed hnamed) hkP (hts _ w4)
            obtain ⟨vm₁, X₁, hstep₁⟩ := Stand.invokestaticUp X hx hown (hts _ w2) (hts _ w6) hok.2.2.2.2.2 hnamed2 hmethM (Cond.static_spec hnamed2 hmethM hst) hkP hinitP (g := F0 m pc lm (st.map (mm_ad aa z))) rfl (argsL := (st.take na).reverse.map (mm_ad aa z)) (rest := (st.drop na).map (mm_ad aa z)) (hlen _ hsig2) (hsplit na) (by rw [hb]; exact hd)
            obtain ⟨v, ⟨U', l2, c2, s2⟩, X', ⟨g', mk', t', L, e1, e2, hq', h1, hL, h2, h3⟩, hsteps⟩ := hBk m meth c ⟨T.setVm vm₁, locs, cells, slots⟩ { F0 m pc lm (st.map (mm_ad aa z)) with stack := (st.drop na).map (mm_ad aa z) } (.invokestatic k) mk ((st.take na).reverse.map (mm_ad aa z)).toArray X₁ rfl (by rw [hml]; exact hlm) (by rw [hb]; exact hd) (hW hg.2) (X₁.named hnamed2) ⟨hf.1, hf.2, hpre.2 (T.setVm vm₁) hT X₁.warmed⟩
            dsimp only [Pt.U, Pt.locs, Pt.cells, Pt.slots] at X' e1 e2 h1 h2 h3 hsteps
            subst h1; subst h2; subst h3
            exact ⟨v, (T.setVm vm₁).calling g' mk' ((st.take na).reverse.map (mm_ad aa z)).toArray, t', U', L, hT, X', hL, e1, e2, hq', fun target h => hstep₁ _ fun acts => by rw [doInvoke_state]; exact hsteps.trans h⟩
  | invokevirtual k =>
    obtain rfl : len = 3 := mm_lk_eq hl rfl (by decide)
    unfold mm_st at hs
    cases hq : mm_fd mm_VT t.2.2.2.2 k with
    | none => simp only [hq] at hs; cases hs
    | some q =>
      obtain ⟨na, lst⟩ := q
      simp only [hq] at hs
      obtain ⟨hna, hs⟩ := mm_gd_some hs
      have hna := of_decide_eq_true hna
      obtain ⟨a, r, hdr, hs⟩ := mm_r1_some hs
      obtain ⟨hcs, hs⟩ := mm_gd_some hs
      have hcs := of_decide_eq_true hcs
      cases hy : mm_lu lst (mm_rk S a) with
      | none => simp only [hy] at hs; cases hs
      | some w =>
        simp only [hy] at hs
        obtain ⟨rfl, rfl, rfl, rfl⟩ := mm_ca_inv hs
        obtain ⟨t0, x, owner, w1, w2, w3, w4, w5, w6, w7, w8, w9⟩ := mm_VT_ok _ (mm_fd_mem hq) _ (mm_lu_mem hy)
        simp only at w1 w2 w3 w4 w5 w6 w8
        cases w1.symm.trans hu
        have hrc := mm_rcv F I rfl w8
        have hn : ((st.take na).reverse.map (mm_ad aa z)).length = na := by simp; omega
        have hstk : st.map (mm_ad aa z) = ((st.take na).reverse.map (mm_ad aa z)).reverse ++ .ref (aa a) :: r.map (mm_ad aa z) := by
          rw [hsplit na, hdr, List.map_cons, mm_ad_ref]
        have has : (Value.ref a :: (st.take na).reverse).map (mm_ad aa z) = .ref (aa a) :: (st.take na).reverse.map (mm_ad aa z) := by rw [List.map_cons, mm_ad_ref]
        rw [has] at hM hpre ⊢
        have hpv : PreV s H (mm_ck (mm_rk S a)) (aa a) (va_Pc (.ref (aa a) :: (st.take na).reverse.map (mm_ad aa z)) (mm_Pc D ca z aa S H.size)) ((st.take na).reverse.map (mm_ad aa z)) := ⟨hpre.1, hrc, hpre.2⟩
        rcases w9 with rfl | ⟨w9, z0, b0, m0, r0, w10, w11, w12⟩
        · exact va_runV hfix hM ⟨mm_cb_of F hok w3 w2 w6, hts _ w4, hts _ w5⟩ hpv rfl hn hlm hstk (hW hcs) hd hf
        · have hlen : ∀ sig, parseMethodDescriptor x.desc = some sig → na = sig.parameters.length := by
            intro sig h
            rw [h] at w6
            exact (Option.some.inj w6).symm
          have hg : ∀ w ∈ (Cond.code u.1 u.2.1 u.2.2.1 u.2.2.2.1 :: mm_G), w ∈ mm_G := by
            intro w hw
            rcases List.mem_cons.mp hw with rfl | hw
            · exact hok.1
            · exact hw
          have hroom := hok.2.2.1
          refine va_runU (owner := owner) hfix hM ⟨⟨rfl, rfl, by show d + 1 ≤ R.frames; exact hdf, by show 8 + (u.2.2.1 + 11) + 60 * d ≤ R.locals; omega, pay_in hts (mm_Ggood hg), List.mem_cons_self⟩, hts _ hok.1, hts _ w3, w7, hlen, hts _ w2, hts _ w9, ?_, hts _ w5, hts _ w4⟩ hpv rfl hn hlm hstk (hW hcs) hd hf
          rw [← w10]
          exact va_Decl.of (hts _ w11) (hts _ w12)
  | invokespecial k =>
    obtain rfl : len = 3 := mm_lk_eq hl rfl (by decide)
    unfold mm_st at hs
    cases hv : mm_fd mm_OI t.2.2.2.2 k with
    | some q =>
      simp only [hv] at hs
      obtain ⟨_, _, _, hs⟩ := mm_r1_some hs
      obtain ⟨_, hs⟩ := mm_gd_some hs
      cases hs
    | none =>
      simp only [hv] at hs
      cases hq : mm_fd mm_SP t.2.2.2.2 k with
      | none => simp only [hq] at hs; cases hs
      | some q =>
        obtain ⟨na, z0, srt⟩ := q
        simp only [hq] at hs
        obtain ⟨hna, hs⟩ := mm_gd_some hs
        have hna := of_decide_eq_true hna
        obtain ⟨a, r, hdr, hs⟩ := mm_r1_some hs
        obtain ⟨hcs, hs⟩ := mm_gd_some hs
        simp only [Bool.and_eq_true, decide_eq_true_eq] at hcs
        obtain ⟨⟨hcs, han⟩, h13⟩ := hcs
        obtain ⟨rfl, rfl, rfl, rfl⟩ := mm_ca_inv hs
        obtain ⟨t0, x, w1, w2, w3, w4, w5⟩ := mm_SP_ok _ (mm_fd_mem hq)
        simp only at w1 w2 w3 w4 w5
        cases w1.symm.trans hu
        have hn : ((st.take na).reverse.map (mm_ad aa z)).length = na := by simp; omega
        have hstk : st.map (mm_ad aa z) = ((st.take na).reverse.map (mm_ad aa z)).reverse ++ .ref (aa a) :: r.map (mm_ad aa z) := by
          rw [hsplit na, hdr, List.map_cons, mm_ad_ref]
        have has : (Value.ref a :: (st.take na).reverse).map (mm_ad aa z) = .ref (aa a) :: (st.take na).reverse.map (mm_ad aa z) := by rw [List.map_cons, mm_ad_ref]
        have hM0 := hM
        rw [has] at hM hpre ⊢
        have hroom := hok.2.2.1
        have hg : ∀ w ∈ (Cond.code u.1 u.2.1 u.2.2.1 u.2.2.2.1 :: mm_G), w ∈ mm_G := by
          intro w hw
          rcases List.mem_cons.mp hw with rfl | hw
          · exact hok.1
          · exact hw
        rcases w5 with ⟨-, g1, g2, rfl, g3⟩ | ⟨-, g1, g2, g3, g4, g5, g6⟩ | ⟨-, g1, g2, rfl, host, g3⟩
        · have hcb := mm_cb_of (mc := mc) (ms := ms) F hok w3 g3 w4
          rw [g2] at hM hcb
          exact va_runI hfix hM ⟨hcb, g1, hts _ w2⟩ hpre rfl hn hlm hstk (hW hcs) hd hf
        · intro T hT X
          have hBk : Back l R p e below s args u.1 3 8 (PreOf R mc ms (va_Pc ((Value.ref a :: (st.take na).reverse).map (mm_ad aa z)) (mm_Pc D ca z aa S H.size))) (PostOf Qc mc ms free) := mm_back F hok w3 hM0
          rw [has] at hBk
          have hcell := mm_ws_get (ca := ca) (aa := aa) han
          rw [mm_ce1_obj h13] at hcell
          obtain ⟨cellB, hcB, hoB, hclB⟩ := va_recv hK I.1 (mm_cls_get _ h13) hcell
          obtain ⟨hfc, kB, hkB, -⟩ := (hK.1 (mm_K S a) _ (mm_cls_get _ h13)).2
          have hcc := Option.some.inj (hfc.symm.trans hclB)
          rw [hcc] at hkB
          have hlen : ∀ sig, parseMethodDescriptor x.desc = some sig → ((st.take na).reverse.map (mm_ad aa z)).length = sig.parameters.length := by
            intro sig h
            rw [h] at w4
            rw [hn]
            exact (Option.some.inj w4).symm
          obtain ⟨v, vm₁, ⟨U', l2, c2, s2⟩, hW₁, X', ⟨g', mk, t', L, e1, e2, hq', h1, hL, h2, h3⟩, hst⟩ := mm_callSU X hx hown (hts _ g3) (hts _ g4) (hts _ g5) (g6.imp id (hts _)) g2 (hts _ w2) (hts _ hok.1) g1 hBk (by rw [hT]; exact hcB) hoB hkB (g := F0 m pc lm (st.map (mm_ad aa z))) rfl (by rw [hml]; exact hlm) (argsL := (st.take na).reverse.map (mm_ad aa z)) (rest := r.map (mm_ad aa z)) hlen hstk (hW hcs) (by rw [hb]; exact hd) (fun vm₁ hW₁ => ⟨hf.1, hf.2, hpre.2 (T.setVm vm₁) hT hW₁⟩)
          dsimp only [Pt.U, Pt.locs, Pt.cells, Pt.slots] at X' e1 e2 h1 h2 h3 hst
          subst h1; subst h2; subst h3
          exact ⟨v, (T.setVm vm₁).calling g' mk (.ref (aa a) :: (st.take na).reverse.map (mm_ad aa z)).toArray, t', U', L, hT, X', hL, e1, e2, hq', hst⟩
        · have hl3 := I.2.2.2.2.1.2.2.2.2.2.2.2.2 _ g3
          have hlen : (parseMethodDescriptor u.1.desc).map (fun d => d.parameters.length) = some na := w4
          have hcb := va_cnB (R := R) (own := mm_cn t.2.2.2.2) (host := host) (index := k) (bytes := u.2.1) (maxL := u.2.2.1) (ret := u.2.2.2.1) (rm := mm_rm d mc ms) (mc := mc) (ms := ms) na hts (mm_Ggood hg) rfl rfl rfl hl3 (hts _ w3) ⟨hok.2.2.2.2.2.1, hok.2.2.2.2.2.2, hlen⟩ ⟨by show d + 1 ≤ R.frames; exact hdf, by show 8 + (u.2.2.1 + 11) + 60 * d ≤ R.locals; omega⟩
          rw [g2] at hM hcb
          exact va_runIN hfix hM ⟨hcb, g1, hts _ w2⟩ hpre rfl hn hlm hstk (hW hcs) hd hf
  | _ => cases hi
end MMD
theorem mm_frame : ∀ f, mm_Fm f := by
  intro f
  induction f with
  | zero => intro p l e R s m args below meth c Q D ca z A t XS d y pc ls st S v S' aa H locs lm cells slots ht h; cases h
  | succ f ih =>
    intro p l e R s m args below meth c Q D ca z A t XS d y pc ls st S v S' aa H locs lm cells slots ht h F I X hc hz hret
    have h0 := h
    unfold mm_run at h
    simp only [ht] at h
    cases hd : decode t.2.1 pc with
    | error x => rw [hd] at h; cases h
    | ok il =>
      obtain ⟨i, len⟩ := il
      simp only [hd] at h
      by_cases hl : (mm_lk i len && mm_mo i S (mm_st d t pc ls st S i)) = true
      · simp only [if_pos hl] at h
        rw [Bool.and_eq_true] at hl
        obtain ⟨hl, hm⟩ := hl
        cases ha : mm_st d t pc ls st S i with
        | none => rw [ha] at h; cases h
        | some B =>
          rw [ha] at hm
          rcases B with q | q | q
          · simp only [ha] at h
            obtain ⟨pc1, ls1, st1, S1⟩ := q
            simp only [mm_mo, Bool.and_eq_true, decide_eq_true_eq] at hm
            have hmono := mm_run_mono _ _ _ _ _ _ _ _ _ h
            simp only at hmono hm h
            refine mm_ok_all i p l e R s m args below meth c Q D ca z A t XS d pc len ls st S pc1 ls1 st1 S1 aa H locs lm cells slots F I X hd hl ha (by omega) (by omega) ?_
            intro aa1 H1 locs1 lm1 cells1 slots1 g1 g2 g3 I1 X1
            refine ih p l e R s m args below meth c Q D ca z A t XS d y pc1 ls1 st1 S1 v S' aa1 H1 locs1 lm1 cells1 slots1 ht h F I1 X1 (by omega) (by omega) ?_
            intro pc2 aa2 H2 locs2 lm2 cells2 slots2 k1 k2 k3 k4 k5 k6
            exact hret pc2 aa2 H2 locs2 lm2 cells2 slots2 (by omega) (by omega) (fun j hj => (k3 j (by omega)).trans (g3 j hj)) k4 k5 k6
          · simp only [ha] at h
            obtain ⟨y1, as, st1, S1⟩ := q
            simp only [mm_mo, Bool.and_eq_true, decide_eq_true_eq] at hm
            cases d with
            | zero => cases h
            | succ d =>
              simp only at h
              by_cases hq : y1 < mm_nc
              · simp only [if_pos hq] at h
                cases hu : mm_mt[y1]? with
                | none => rw [hu] at h; cases h
                | some u =>
                  simp only [hu] at h
                  by_cases hf : (mm_as as).length ≤ u.2.2.1
                  · simp only [if_pos hf] at h
                    cases hr : mm_run f d y1 0 (mm_en u.2.2.1 as) [] S1 with
                    | none => rw [hr] at h; cases h
                    | some w =>
                      rw [hr] at h
                      obtain ⟨v1, S2⟩ := w
                      simp only at h
                      have hu2 : mm_mc[y1]? = some u := by
                        have e1 : mm_mt[y1]? = mm_mc[y1]? := by
                          unfold mm_mt
                          rw [List.getElem?_append_left (by rw [mm_mc_len]; exact hq)]
                        rw [← e1]; exact hu
                      obtain ⟨rfl, hvk⟩ := mm_ca_sp hm.2 ha
                      obtain ⟨hv1, hv2⟩ := hvk X.2.1
                      have hmono1 := mm_run_mono _ _ _ _ _ _ _ _ _ hr
                      have hmono2 := mm_run_mono _ _ _ _ _ _ _ _ _ h
                      have hM := mm_met ih hu2 hf hr l D ca z aa XS H.size I.2.2.2.1 hv1 I.2.2.2.2.2.1 I.2.2.2.2.2.2.1
                      have hrun := mm_ca_run (e := e) (below := below) (cells := cells) (slots := slots) hm.2 F I (mm_lmsz X.2.2) hd hl ha hu2 hM ⟨by omega, by omega⟩
                      refine mm_callg hrun I.2.2.1 (mm_free I.2.1 I.2.2.1 F.2.2.2.2.2.2.2.2.1) ?_
                      intro aa1 H1 locs1 g1 g2 g3 g4 g5 g6 g7 g8
                      have hvS : ∀ w, mm_vok S w → mm_vok S2 w := by
                        intro w hw
                        cases w <;> try exact trivial
                        rcases hw with hw | hw
                        · exact Or.inl (Nat.lt_of_lt_of_le hw hmono1.1)
                        · exact Or.inr hw
                      have I1 : mm_Ix s D ca z A t XS aa1 S2 H1 locs1 := ⟨g2, g3, g8, g4, mm_Ev_aa (fun j hj => g1 j (Or.inr hj)) I.2.2.2.2.1, g5, g6, fun hh => by
                        rw [g1 mm_SC (Or.inr (by decide))]
                        exact I.2.2.2.2.2.2.2 hh⟩
                      have X1 : mm_Sx aa1 z S2 t ls lm (v1.toList ++ st1) := ⟨fun w hw => hvS w (X.1 w hw), fun w hw => by
                        rcases List.mem_append.mp hw with hw | hw
                        · exact g7 w hw
                        · exact hvS w (hv2 w hw), mm_Lr_aa X.2.2 X.1 g1⟩
                      have K1 := ih p l e R s m args below meth c Q D ca z A t XS (d + 1) y (pc + 3) ls (v1.toList ++ st1) S2 v S' aa1 H1 locs1 lm (cells + (mm_n S2 - mm_n S)) (slots + (mm_z S2 - mm_z S)) ht h F I1 X1 (by omega) (by omega) (fun pc2 aa2 H2 locs2 lm2 cells2 slots2 k1 k2 k3 k4 k5 k6 => hret pc2 aa2 H2 locs2 lm2 cells2 slots2 (by omega) (by omega) (fun j hj => (k3 j (by omega)).trans (g1 j hj)) k4 k5 k6)
                      rw [List.map_append, mm_map_aa hv2 g1] at K1
                      exact K1
                  · rw [if_neg hf] at h; cases h
              · rw [if_neg hq] at h; cases h
          · simp only [ha] at h
            cases h
            simp only [mm_mo, Bool.and_eq_true, decide_eq_true_eq] at hm
            obtain ⟨-, hi⟩ := hm
            cases i with
            | ireturn =>
              obtain rfl : len = 1 := mm_lk_eq hl rfl (by decide)
              have ha : mm_ire st t.2.2.2.1 S = some _ := ha
              obtain ⟨x, ty, rfl, h2, h3, h4, h5⟩ := mm_ire_inv ha
              cases h5
              exact hret pc aa H locs lm cells slots rfl rfl (fun _ _ => rfl) ⟨hd, ty, h2, h3⟩ I (fun w hw => X.2.1 w hw)
            | lreturn =>
              obtain rfl : len = 1 := mm_lk_eq hl rfl (by decide)
              have ha : mm_lre st t.2.2.2.1 S = some _ := ha
              obtain ⟨x, rfl, h2, h5⟩ := mm_lre_inv ha
              cases h5
              exact hret pc aa H locs lm cells slots rfl rfl (fun _ _ => rfl) ⟨hd, h2⟩ I (fun w hw => X.2.1 w hw)
            | areturn =>
              obtain rfl : len = 1 := mm_lk_eq hl rfl (by decide)
              have ha : mm_are st t.2.2.2.1 S = some _ := ha
              obtain ⟨a, n, rfl, h2, h5⟩ := mm_are_inv ha
              cases h5
              exact hret pc aa H locs lm cells slots rfl rfl (fun _ _ => rfl) ⟨hd, n, h2⟩ I (fun w hw => X.2.1 w hw)
            | return_ =>
              obtain rfl : len = 1 := mm_lk_eq hl rfl (by decide)
              have ha : mm_vre st t.2.2.2.1 S = some _ := ha
              obtain ⟨rfl, h2, h5⟩ := mm_vre_inv ha
              cases h5
              exact hret pc aa H locs lm cells slots rfl rfl (fun _ _ => rfl) ⟨hd, h2⟩ I (fun w hw => X.2.1 w hw)
            | _ => cases hi
      · rw [if_neg hl] at h; cases h
end
section
/-! ===== the start: what the Statement gives ===== -/
def mm_nl_0 : List Cond := [(Jvm.Cond.arrayOf (Jvm.Term.arg (0 : Nat)) Jvm.ClassFile.FieldType.int), (Jvm.Cond.le (Jvm.Term.length (Jvm.Term.arg (0 : Nat))) (Jvm.Term.int (3072 : Int32))), (Jvm.Cond.eq (Jvm.Term.static "java/lang/String" "COMPACT_STRINGS" "Z") (Jvm.Term.int (1 : Int32))), (Jvm.Cond.isRef (Jvm.Term.static "jdk/internal/util/Preconditions" "SIOOBE_FORMATTER" "Ljava/util/function/BiFunction;")), (Jvm.Cond.eq (Jvm.Term.static "java/lang/StringUTF16" "$assertionsDisabled" "Z") (Jvm.Term.int (1 : Int32))), (Jvm.Cond.eq (Jvm.Term.static "java/lang/StringUTF16" "HI_BYTE_SHIFT" "I") (Jvm.Term.int (0 : Int32))), (Jvm.Cond.eq (Jvm.Term.static "java/lang/StringUTF16" "LO_BYTE_SHIFT" "I") (Jvm.Term.int (8 : Int32))), (Jvm.Cond.not (Jvm.Cond.castable "PennyMore" "PennyMore$Plain")), (Jvm.Cond.not (Jvm.Cond.castable "PennyMore$Shop" "PennyMore$Plain")), (Jvm.Cond.not (Jvm.Cond.castable "PennyMore$Day" "PennyMore$Plain")), (Jvm.Cond.not (Jvm.Cond.castable "PennyMore$Reader" "PennyMore$Plain")), (Jvm.Cond.not (Jvm.Cond.castable "PennyMore$Tape" "PennyMore$Plain")), (Jvm.Cond.not (Jvm.Cond.castable "PennyMoreModel" "PennyMore$Plain")), (Jvm.Cond.not (Jvm.Cond.castable "PennyMore$Waiting" "PennyMore$Plain")), (Jvm.Cond.not (Jvm.Cond.castable "PennyMore$Falling" "PennyMore$Plain")), (Jvm.Cond.not (Jvm.Cond.castable "PennyMore$Late" "PennyMore$Plain")), (Jvm.Cond.not (Jvm.Cond.castable "PennyMore$Told" "PennyMore$Plain")), (Jvm.Cond.not (Jvm.Cond.castable "PennyMore$Buyer" "PennyMore$Plain")), (Jvm.Cond.not (Jvm.Cond.castable "PennyMore" "PennyMore$Waiting")), (Jvm.Cond.not (Jvm.Cond.castable "PennyMore$Shop" "PennyMore$Waiting")), (Jvm.Cond.not (Jvm.Cond.castable "PennyMore$Day" "PennyMore$Waiting")), (Jvm.Cond.not (Jvm.Cond.castable "PennyMore$Reader" "PennyMore$Waiting")), (Jvm.Cond.not (Jvm.Cond.castable "PennyMore$Tape" "PennyMore$Waiting")), (Jvm.Cond.not (Jvm.Cond.castable "PennyMoreModel" "PennyMore$Waiting")), (Jvm.Cond.not (Jvm.Cond.castable "PennyMore$Plain" "PennyMore$Waiting")), (Jvm.Cond.not (Jvm.Cond.castable "PennyMore$Falling" "PennyMore$Waiting")), (Jvm.Cond.not (Jvm.Cond.castable "PennyMore$Sure" "PennyMore$Waiting")), (Jvm.Cond.not (Jvm.Cond.castable "PennyMore$Told" "PennyMore$Waiting")), (Jvm.Cond.not (Jvm.Cond.castable "PennyMore$Buyer" "PennyMore$Waiting")), (Jvm.Cond.not (Jvm.Cond.castable "PennyMore" "PennyMore$Falling")), (Jvm.Cond.not (Jvm.Cond.castable "PennyMore$Shop" "PennyMore$Falling")), (Jvm.Cond.not (Jvm.Cond.castable "PennyMore$Day" "PennyMore$Falling")), (Jvm.Cond.not (Jvm.Cond.castable "PennyMore$Reader" "PennyMore$Falling")), (Jvm.Cond.not (Jvm.Cond.castable "PennyMore$Tape" "PennyMore$Falling")), (Jvm.Cond.not (Jvm.Cond.castable "PennyMoreModel" "PennyMore$Falling")), (Jvm.Cond.not (Jvm.Cond.castable "PennyMore$Plain" "PennyMore$Falling")), (Jvm.Cond.not (Jvm.Cond.castable "PennyMore$Waiting" "PennyMore$Falling")), (Jvm.Cond.not (Jvm.Cond.castable "PennyMore$Sure" "PennyMore$Falling")), (Jvm.Cond.not (Jvm.Cond.castable "PennyMore$Late" "PennyMore$Falling")), (Jvm.Cond.not (Jvm.Cond.castable "PennyMore$Buyer" "PennyMore$Falling")), (Jvm.Cond.not (Jvm.Cond.castable "PennyMore" "PennyMore$Sure")), (Jvm.Cond.not (Jvm.Cond.castable "PennyMore$Shop" "PennyMore$Sure")), (Jvm.Cond.not (Jvm.Cond.castable "PennyMore$Day" "PennyMore$Sure")), (Jvm.Cond.not (Jvm.Cond.castable "PennyMore$Reader" "PennyMore$Sure")), (Jvm.Cond.not (Jvm.Cond.castable "PennyMore$Tape" "PennyMore$Sure")), (Jvm.Cond.not (Jvm.Cond.castable "PennyMoreModel" "PennyMore$Sure")), (Jvm.Cond.not (Jvm.Cond.castable "PennyMore$Plain" "PennyMore$Sure")), (Jvm.Cond.not (Jvm.Cond.castable "PennyMore$Waiting" "PennyMore$Sure")), (Jvm.Cond.not (Jvm.Cond.castable "PennyMore$Falling" "PennyMore$Sure")), (Jvm.Cond.not (Jvm.Cond.castable "PennyMore$Late" "PennyMore$Sure")), (Jvm.Cond.not (Jvm.Cond.castable "PennyMore$Told" "PennyMore$Sure")), (Jvm.Cond.not (Jvm.Cond.castable "PennyMore$Buyer" "PennyMore$Sure")), (Jvm.Cond.not (Jvm.Cond.castable "PennyMore" "PennyMore$Late")), (Jvm.Cond.not (Jvm.Cond.castable "PennyMore$Shop" "PennyMore$Late")), (Jvm.Cond.not (Jvm.Cond.castable "PennyMore$Day" "PennyMore$Late")), (Jvm.Cond.not (Jvm.Cond.castable "PennyMore$Reader" "PennyMore$Late")), (Jvm.Cond.not (Jvm.Cond.castable "PennyMore$Tape" "PennyMore$Late")), (Jvm.Cond.not (Jvm.Cond.castable "PennyMoreModel" "PennyMore$Late")), (Jvm.Cond.not (Jvm.Cond.castable "PennyMore$Plain" "PennyMore$Late")), (Jvm.Cond.not (Jvm.Cond.castable "PennyMore$Waiting" "PennyMore$Late"))]
def mm_nl_1 : List Cond := [(Jvm.Cond.not (Jvm.Cond.castable "PennyMore$Falling" "PennyMore$Late")), (Jvm.Cond.not (Jvm.Cond.castable "PennyMore$Sure" "PennyMore$Late")), (Jvm.Cond.not (Jvm.Cond.castable "PennyMore$Told" "PennyMore$Late")), (Jvm.Cond.not (Jvm.Cond.castable "PennyMore$Buyer" "PennyMore$Late")), (Jvm.Cond.not (Jvm.Cond.castable "PennyMore" "PennyMore$Told")), (Jvm.Cond.not (Jvm.Cond.castable "PennyMore$Shop" "PennyMore$Told")), (Jvm.Cond.not (Jvm.Cond.castable "PennyMore$Day" "PennyMore$Told")), (Jvm.Cond.not (Jvm.Cond.castable "PennyMore$Reader" "PennyMore$Told")), (Jvm.Cond.not (Jvm.Cond.castable "PennyMore$Tape" "PennyMore$Told")), (Jvm.Cond.not (Jvm.Cond.castable "PennyMoreModel" "PennyMore$Told")), (Jvm.Cond.not (Jvm.Cond.castable "PennyMore$Plain" "PennyMore$Told")), (Jvm.Cond.not (Jvm.Cond.castable "PennyMore$Waiting" "PennyMore$Told")), (Jvm.Cond.not (Jvm.Cond.castable "PennyMore$Falling" "PennyMore$Told")), (Jvm.Cond.not (Jvm.Cond.castable "PennyMore$Sure" "PennyMore$Told")), (Jvm.Cond.not (Jvm.Cond.castable "PennyMore$Late" "PennyMore$Told")), (Jvm.Cond.not (Jvm.Cond.castable "PennyMore$Buyer" "PennyMore$Told")), (Jvm.Cond.not (Jvm.Cond.castable "java/lang/String" "PennyMore$Plain")), (Jvm.Cond.not (Jvm.Cond.castable "[I" "PennyMore$Plain")), (Jvm.Cond.not (Jvm.Cond.castable "[LPennyMore$Buyer;" "PennyMore$Plain")), (Jvm.Cond.not (Jvm.Cond.castable "[LPennyMore$Shop;" "PennyMore$Plain")), (Jvm.Cond.not (Jvm.Cond.castable "[LPennyMore$Tape;" "PennyMore$Plain")), (Jvm.Cond.not (Jvm.Cond.castable "[J" "PennyMore$Plain")), (Jvm.Cond.not (Jvm.Cond.castable "[B" "PennyMore$Plain")), (Jvm.Cond.not (Jvm.Cond.castable "[Z" "PennyMore$Plain")), (Jvm.Cond.not (Jvm.Cond.castable "java/lang/String" "PennyMore$Waiting")), (Jvm.Cond.not (Jvm.Cond.castable "[I" "PennyMore$Waiting")), (Jvm.Cond.not (Jvm.Cond.castable "[LPennyMore$Buyer;" "PennyMore$Waiting")), (Jvm.Cond.not (Jvm.Cond.castable "[LPennyMore$Shop;" "PennyMore$Waiting")), (Jvm.Cond.not (Jvm.Cond.castable "[LPennyMore$Tape;" "PennyMore$Waiting")), (Jvm.Cond.not (Jvm.Cond.castable "[J" "PennyMore$Waiting")), (Jvm.Cond.not (Jvm.Cond.castable "[B" "PennyMore$Waiting")), (Jvm.Cond.not (Jvm.Cond.castable "[Z" "PennyMore$Waiting")), (Jvm.Cond.not (Jvm.Cond.castable "java/lang/String" "PennyMore$Falling")), (Jvm.Cond.not (Jvm.Cond.castable "[I" "PennyMore$Falling")), (Jvm.Cond.not (Jvm.Cond.castable "[LPennyMore$Buyer;" "PennyMore$Falling")), (Jvm.Cond.not (Jvm.Cond.castable "[LPennyMore$Shop;" "PennyMore$Falling")), (Jvm.Cond.not (Jvm.Cond.castable "[LPennyMore$Tape;" "PennyMore$Falling")), (Jvm.Cond.not (Jvm.Cond.castable "[J" "PennyMore$Falling")), (Jvm.Cond.not (Jvm.Cond.castable "[B" "PennyMore$Falling")), (Jvm.Cond.not (Jvm.Cond.castable "[Z" "PennyMore$Falling")), (Jvm.Cond.not (Jvm.Cond.castable "java/lang/String" "PennyMore$Sure")), (Jvm.Cond.not (Jvm.Cond.castable "[I" "PennyMore$Sure")), (Jvm.Cond.not (Jvm.Cond.castable "[LPennyMore$Buyer;" "PennyMore$Sure")), (Jvm.Cond.not (Jvm.Cond.castable "[LPennyMore$Shop;" "PennyMore$Sure")), (Jvm.Cond.not (Jvm.Cond.castable "[LPennyMore$Tape;" "PennyMore$Sure")), (Jvm.Cond.not (Jvm.Cond.castable "[J" "PennyMore$Sure")), (Jvm.Cond.not (Jvm.Cond.castable "[B" "PennyMore$Sure")), (Jvm.Cond.not (Jvm.Cond.castable "[Z" "PennyMore$Sure")), (Jvm.Cond.not (Jvm.Cond.castable "java/lang/String" "PennyMore$Late")), (Jvm.Cond.not (Jvm.Cond.castable "[I" "PennyMore$Late")), (Jvm.Cond.not (Jvm.Cond.castable "[LPennyMore$Buyer;" "PennyMore$Late")), (Jvm.Cond.not (Jvm.Cond.castable "[LPennyMore$Shop;" "PennyMore$Late")), (Jvm.Cond.not (Jvm.Cond.castable "[LPennyMore$Tape;" "PennyMore$Late")), (Jvm.Cond.not (Jvm.Cond.castable "[J" "PennyMore$Late")), (Jvm.Cond.not (Jvm.Cond.castable "[B" "PennyMore$Late")), (Jvm.Cond.not (Jvm.Cond.castable "[Z" "PennyMore$Late")), (Jvm.Cond.not (Jvm.Cond.castable "java/lang/String" "PennyMore$Told")), (Jvm.Cond.not (Jvm.Cond.castable "[I" "PennyMore$Told")), (Jvm.Cond.not (Jvm.Cond.castable "[LPennyMore$Buyer;" "PennyMore$Told")), (Jvm.Cond.not (Jvm.Cond.castable "[LPennyMore$Shop;" "PennyMore$Told"))]
def mm_nl_2 : List Cond := [(Jvm.Cond.not (Jvm.Cond.castable "[LPennyMore$Tape;" "PennyMore$Told")), (Jvm.Cond.not (Jvm.Cond.castable "[J" "PennyMore$Told")), (Jvm.Cond.not (Jvm.Cond.castable "[B" "PennyMore$Told")), (Jvm.Cond.not (Jvm.Cond.castable "[Z" "PennyMore$Told")), (Jvm.Cond.not (Jvm.Cond.castable "PennyMore" "PennyMore$Buyer")), (Jvm.Cond.not (Jvm.Cond.castable "PennyMore$Shop" "PennyMore$Buyer")), (Jvm.Cond.not (Jvm.Cond.castable "PennyMore$Day" "PennyMore$Buyer")), (Jvm.Cond.not (Jvm.Cond.castable "PennyMore$Reader" "PennyMore$Buyer")), (Jvm.Cond.not (Jvm.Cond.castable "PennyMore$Tape" "PennyMore$Buyer")), (Jvm.Cond.not (Jvm.Cond.castable "PennyMoreModel" "PennyMore$Buyer")), (Jvm.Cond.not (Jvm.Cond.castable "java/lang/String" "PennyMore$Buyer")), (Jvm.Cond.not (Jvm.Cond.castable "PennyMore" "PennyMore$Shop")), (Jvm.Cond.not (Jvm.Cond.castable "PennyMore$Day" "PennyMore$Shop")), (Jvm.Cond.not (Jvm.Cond.castable "PennyMore$Reader" "PennyMore$Shop")), (Jvm.Cond.not (Jvm.Cond.castable "PennyMore$Tape" "PennyMore$Shop")), (Jvm.Cond.not (Jvm.Cond.castable "PennyMoreModel" "PennyMore$Shop")), (Jvm.Cond.not (Jvm.Cond.castable "PennyMore$Plain" "PennyMore$Shop")), (Jvm.Cond.not (Jvm.Cond.castable "PennyMore$Waiting" "PennyMore$Shop")), (Jvm.Cond.not (Jvm.Cond.castable "PennyMore$Falling" "PennyMore$Shop")), (Jvm.Cond.not (Jvm.Cond.castable "PennyMore$Sure" "PennyMore$Shop")), (Jvm.Cond.not (Jvm.Cond.castable "PennyMore$Late" "PennyMore$Shop")), (Jvm.Cond.not (Jvm.Cond.castable "PennyMore$Told" "PennyMore$Shop")), (Jvm.Cond.not (Jvm.Cond.castable "PennyMore$Buyer" "PennyMore$Shop")), (Jvm.Cond.not (Jvm.Cond.castable "java/lang/String" "PennyMore$Shop")), (Jvm.Cond.not (Jvm.Cond.castable "PennyMore" "PennyMore$Tape")), (Jvm.Cond.not (Jvm.Cond.castable "PennyMore$Shop" "PennyMore$Tape")), (Jvm.Cond.not (Jvm.Cond.castable "PennyMore$Day" "PennyMore$Tape")), (Jvm.Cond.not (Jvm.Cond.castable "PennyMore$Reader" "PennyMore$Tape")), (Jvm.Cond.not (Jvm.Cond.castable "PennyMoreModel" "PennyMore$Tape")), (Jvm.Cond.not (Jvm.Cond.castable "PennyMore$Plain" "PennyMore$Tape")), (Jvm.Cond.not (Jvm.Cond.castable "PennyMore$Waiting" "PennyMore$Tape")), (Jvm.Cond.not (Jvm.Cond.castable "PennyMore$Falling" "PennyMore$Tape")), (Jvm.Cond.not (Jvm.Cond.castable "PennyMore$Sure" "PennyMore$Tape")), (Jvm.Cond.not (Jvm.Cond.castable "PennyMore$Late" "PennyMore$Tape")), (Jvm.Cond.not (Jvm.Cond.castable "PennyMore$Told" "PennyMore$Tape")), (Jvm.Cond.not (Jvm.Cond.castable "PennyMore$Buyer" "PennyMore$Tape")), (Jvm.Cond.not (Jvm.Cond.castable "java/lang/String" "PennyMore$Tape")), (Jvm.Cond.exactly (Jvm.Term.string "PennyMore$Reader" (52 : Nat)) "java/lang/String"), (Jvm.Cond.eq (Jvm.Term.field (Jvm.Term.string "PennyMore$Reader" (52 : Nat)) "java/lang/String" "coder" "B") (Jvm.Term.int (0 : Int32))), (Jvm.Cond.arrayOf (Jvm.Term.field (Jvm.Term.string "PennyMore$Reader" (52 : Nat)) "java/lang/String" "value" "[B") Jvm.ClassFile.FieldType.byte), (Jvm.Cond.eq (Jvm.Term.length (Jvm.Term.field (Jvm.Term.string "PennyMore$Reader" (52 : Nat)) "java/lang/String" "value" "[B")) (Jvm.Term.int (5 : Int32))), (Jvm.Cond.eq (Jvm.Term.elem (Jvm.Term.field (Jvm.Term.string "PennyMore$Reader" (52 : Nat)) "java/lang/String" "value" "[B") (Jvm.Term.int (0 : Int32))) (Jvm.Term.int (109 : Int32))), (Jvm.Cond.eq (Jvm.Term.elem (Jvm.Term.field (Jvm.Term.string "PennyMore$Reader" (52 : Nat)) "java/lang/String" "value" "[B") (Jvm.Term.int (1 : Int32))) (Jvm.Term.int (111 : Int32))), (Jvm.Cond.eq (Jvm.Term.elem (Jvm.Term.field (Jvm.Term.string "PennyMore$Reader" (52 : Nat)) "java/lang/String" "value" "[B") (Jvm.Term.int (2 : Int32))) (Jvm.Term.int (114 : Int32))), (Jvm.Cond.eq (Jvm.Term.elem (Jvm.Term.field (Jvm.Term.string "PennyMore$Reader" (52 : Nat)) "java/lang/String" "value" "[B") (Jvm.Term.int (3 : Int32))) (Jvm.Term.int (101 : Int32))), (Jvm.Cond.eq (Jvm.Term.elem (Jvm.Term.field (Jvm.Term.string "PennyMore$Reader" (52 : Nat)) "java/lang/String" "value" "[B") (Jvm.Term.int (4 : Int32))) (Jvm.Term.int (32 : Int32))), (Jvm.Cond.exactly (Jvm.Term.string "PennyMore$Reader" (54 : Nat)) "java/lang/String"), (Jvm.Cond.eq (Jvm.Term.field (Jvm.Term.string "PennyMore$Reader" (54 : Nat)) "java/lang/String" "coder" "B") (Jvm.Term.int (0 : Int32))), (Jvm.Cond.arrayOf (Jvm.Term.field (Jvm.Term.string "PennyMore$Reader" (54 : Nat)) "java/lang/String" "value" "[B") Jvm.ClassFile.FieldType.byte), (Jvm.Cond.eq (Jvm.Term.length (Jvm.Term.field (Jvm.Term.string "PennyMore$Reader" (54 : Nat)) "java/lang/String" "value" "[B")) (Jvm.Term.int (5 : Int32))), (Jvm.Cond.eq (Jvm.Term.elem (Jvm.Term.field (Jvm.Term.string "PennyMore$Reader" (54 : Nat)) "java/lang/String" "value" "[B") (Jvm.Term.int (0 : Int32))) (Jvm.Term.int (99 : Int32))), (Jvm.Cond.eq (Jvm.Term.elem (Jvm.Term.field (Jvm.Term.string "PennyMore$Reader" (54 : Nat)) "java/lang/String" "value" "[B") (Jvm.Term.int (1 : Int32))) (Jvm.Term.int (111 : Int32))), (Jvm.Cond.eq (Jvm.Term.elem (Jvm.Term.field (Jvm.Term.string "PennyMore$Reader" (54 : Nat)) "java/lang/String" "value" "[B") (Jvm.Term.int (2 : Int32))) (Jvm.Term.int (115 : Int32))), (Jvm.Cond.eq (Jvm.Term.elem (Jvm.Term.field (Jvm.Term.string "PennyMore$Reader" (54 : Nat)) "java/lang/String" "value" "[B") (Jvm.Term.int (3 : Int32))) (Jvm.Term.int (116 : Int32))), (Jvm.Cond.eq (Jvm.Term.elem (Jvm.Term.field (Jvm.Term.string "PennyMore$Reader" (54 : Nat)) "java/lang/String" "value" "[B") (Jvm.Term.int (4 : Int32))) (Jvm.Term.int (32 : Int32))), (Jvm.Cond.not (Jvm.Cond.eq (Jvm.Term.string "PennyMore$Reader" (52 : Nat)) (Jvm.Term.string "PennyMore$Reader" (54 : Nat)))), (Jvm.Cond.exactly (Jvm.Term.string "PennyMore$Reader" (56 : Nat)) "java/lang/String"), (Jvm.Cond.eq (Jvm.Term.field (Jvm.Term.string "PennyMore$Reader" (56 : Nat)) "java/lang/String" "coder" "B") (Jvm.Term.int (0 : Int32))), (Jvm.Cond.arrayOf (Jvm.Term.field (Jvm.Term.string "PennyMore$Reader" (56 : Nat)) "java/lang/String" "value" "[B") Jvm.ClassFile.FieldType.byte), (Jvm.Cond.eq (Jvm.Term.length (Jvm.Term.field (Jvm.Term.string "PennyMore$Reader" (56 : Nat)) "java/lang/String" "value" "[B")) (Jvm.Term.int (3 : Int32)))]
def mm_nl_3 : List Cond := [(Jvm.Cond.eq (Jvm.Term.elem (Jvm.Term.field (Jvm.Term.string "PennyMore$Reader" (56 : Nat)) "java/lang/String" "value" "[B") (Jvm.Term.int (0 : Int32))) (Jvm.Term.int (117 : Int32))), (Jvm.Cond.eq (Jvm.Term.elem (Jvm.Term.field (Jvm.Term.string "PennyMore$Reader" (56 : Nat)) "java/lang/String" "value" "[B") (Jvm.Term.int (1 : Int32))) (Jvm.Term.int (112 : Int32))), (Jvm.Cond.eq (Jvm.Term.elem (Jvm.Term.field (Jvm.Term.string "PennyMore$Reader" (56 : Nat)) "java/lang/String" "value" "[B") (Jvm.Term.int (2 : Int32))) (Jvm.Term.int (32 : Int32))), (Jvm.Cond.not (Jvm.Cond.eq (Jvm.Term.string "PennyMore$Reader" (52 : Nat)) (Jvm.Term.string "PennyMore$Reader" (56 : Nat)))), (Jvm.Cond.not (Jvm.Cond.eq (Jvm.Term.string "PennyMore$Reader" (54 : Nat)) (Jvm.Term.string "PennyMore$Reader" (56 : Nat)))), (Jvm.Cond.exactly (Jvm.Term.string "PennyMore$Reader" (58 : Nat)) "java/lang/String"), (Jvm.Cond.eq (Jvm.Term.field (Jvm.Term.string "PennyMore$Reader" (58 : Nat)) "java/lang/String" "coder" "B") (Jvm.Term.int (0 : Int32))), (Jvm.Cond.arrayOf (Jvm.Term.field (Jvm.Term.string "PennyMore$Reader" (58 : Nat)) "java/lang/String" "value" "[B") Jvm.ClassFile.FieldType.byte), (Jvm.Cond.eq (Jvm.Term.length (Jvm.Term.field (Jvm.Term.string "PennyMore$Reader" (58 : Nat)) "java/lang/String" "value" "[B")) (Jvm.Term.int (5 : Int32))), (Jvm.Cond.eq (Jvm.Term.elem (Jvm.Term.field (Jvm.Term.string "PennyMore$Reader" (58 : Nat)) "java/lang/String" "value" "[B") (Jvm.Term.int (0 : Int32))) (Jvm.Term.int (100 : Int32))), (Jvm.Cond.eq (Jvm.Term.elem (Jvm.Term.field (Jvm.Term.string "PennyMore$Reader" (58 : Nat)) "java/lang/String" "value" "[B") (Jvm.Term.int (1 : Int32))) (Jvm.Term.int (111 : Int32))), (Jvm.Cond.eq (Jvm.Term.elem (Jvm.Term.field (Jvm.Term.string "PennyMore$Reader" (58 : Nat)) "java/lang/String" "value" "[B") (Jvm.Term.int (2 : Int32))) (Jvm.Term.int (119 : Int32))), (Jvm.Cond.eq (Jvm.Term.elem (Jvm.Term.field (Jvm.Term.string "PennyMore$Reader" (58 : Nat)) "java/lang/String" "value" "[B") (Jvm.Term.int (3 : Int32))) (Jvm.Term.int (110 : Int32))), (Jvm.Cond.eq (Jvm.Term.elem (Jvm.Term.field (Jvm.Term.string "PennyMore$Reader" (58 : Nat)) "java/lang/String" "value" "[B") (Jvm.Term.int (4 : Int32))) (Jvm.Term.int (32 : Int32))), (Jvm.Cond.not (Jvm.Cond.eq (Jvm.Term.string "PennyMore$Reader" (52 : Nat)) (Jvm.Term.string "PennyMore$Reader" (58 : Nat)))), (Jvm.Cond.not (Jvm.Cond.eq (Jvm.Term.string "PennyMore$Reader" (54 : Nat)) (Jvm.Term.string "PennyMore$Reader" (58 : Nat)))), (Jvm.Cond.not (Jvm.Cond.eq (Jvm.Term.string "PennyMore$Reader" (56 : Nat)) (Jvm.Term.string "PennyMore$Reader" (58 : Nat)))), (Jvm.Cond.exactly (Jvm.Term.string "PennyMore$Reader" (60 : Nat)) "java/lang/String"), (Jvm.Cond.eq (Jvm.Term.field (Jvm.Term.string "PennyMore$Reader" (60 : Nat)) "java/lang/String" "coder" "B") (Jvm.Term.int (0 : Int32))), (Jvm.Cond.arrayOf (Jvm.Term.field (Jvm.Term.string "PennyMore$Reader" (60 : Nat)) "java/lang/String" "value" "[B") Jvm.ClassFile.FieldType.byte), (Jvm.Cond.eq (Jvm.Term.length (Jvm.Term.field (Jvm.Term.string "PennyMore$Reader" (60 : Nat)) "java/lang/String" "value" "[B")) (Jvm.Term.int (5 : Int32))), (Jvm.Cond.eq (Jvm.Term.elem (Jvm.Term.field (Jvm.Term.string "PennyMore$Reader" (60 : Nat)) "java/lang/String" "value" "[B") (Jvm.Term.int (0 : Int32))) (Jvm.Term.int (97 : Int32))), (Jvm.Cond.eq (Jvm.Term.elem (Jvm.Term.field (Jvm.Term.string "PennyMore$Reader" (60 : Nat)) "java/lang/String" "value" "[B") (Jvm.Term.int (1 : Int32))) (Jvm.Term.int (119 : Int32))), (Jvm.Cond.eq (Jvm.Term.elem (Jvm.Term.field (Jvm.Term.string "PennyMore$Reader" (60 : Nat)) "java/lang/String" "value" "[B") (Jvm.Term.int (2 : Int32))) (Jvm.Term.int (97 : Int32))), (Jvm.Cond.eq (Jvm.Term.elem (Jvm.Term.field (Jvm.Term.string "PennyMore$Reader" (60 : Nat)) "java/lang/String" "value" "[B") (Jvm.Term.int (3 : Int32))) (Jvm.Term.int (121 : Int32))), (Jvm.Cond.eq (Jvm.Term.elem (Jvm.Term.field (Jvm.Term.string "PennyMore$Reader" (60 : Nat)) "java/lang/String" "value" "[B") (Jvm.Term.int (4 : Int32))) (Jvm.Term.int (32 : Int32))), (Jvm.Cond.not (Jvm.Cond.eq (Jvm.Term.string "PennyMore$Reader" (52 : Nat)) (Jvm.Term.string "PennyMore$Reader" (60 : Nat)))), (Jvm.Cond.not (Jvm.Cond.eq (Jvm.Term.string "PennyMore$Reader" (54 : Nat)) (Jvm.Term.string "PennyMore$Reader" (60 : Nat)))), (Jvm.Cond.not (Jvm.Cond.eq (Jvm.Term.string "PennyMore$Reader" (56 : Nat)) (Jvm.Term.string "PennyMore$Reader" (60 : Nat)))), (Jvm.Cond.not (Jvm.Cond.eq (Jvm.Term.string "PennyMore$Reader" (58 : Nat)) (Jvm.Term.string "PennyMore$Reader" (60 : Nat)))), (Jvm.Cond.exactly (Jvm.Term.string "PennyMore$Reader" (62 : Nat)) "java/lang/String"), (Jvm.Cond.eq (Jvm.Term.field (Jvm.Term.string "PennyMore$Reader" (62 : Nat)) "java/lang/String" "coder" "B") (Jvm.Term.int (0 : Int32))), (Jvm.Cond.arrayOf (Jvm.Term.field (Jvm.Term.string "PennyMore$Reader" (62 : Nat)) "java/lang/String" "value" "[B") Jvm.ClassFile.FieldType.byte), (Jvm.Cond.eq (Jvm.Term.length (Jvm.Term.field (Jvm.Term.string "PennyMore$Reader" (62 : Nat)) "java/lang/String" "value" "[B")) (Jvm.Term.int (4 : Int32))), (Jvm.Cond.eq (Jvm.Term.elem (Jvm.Term.field (Jvm.Term.string "PennyMore$Reader" (62 : Nat)) "java/lang/String" "value" "[B") (Jvm.Term.int (0 : Int32))) (Jvm.Term.int (102 : Int32))), (Jvm.Cond.eq (Jvm.Term.elem (Jvm.Term.field (Jvm.Term.string "PennyMore$Reader" (62 : Nat)) "java/lang/String" "value" "[B") (Jvm.Term.int (1 : Int32))) (Jvm.Term.int (101 : Int32))), (Jvm.Cond.eq (Jvm.Term.elem (Jvm.Term.field (Jvm.Term.string "PennyMore$Reader" (62 : Nat)) "java/lang/String" "value" "[B") (Jvm.Term.int (2 : Int32))) (Jvm.Term.int (101 : Int32))), (Jvm.Cond.eq (Jvm.Term.elem (Jvm.Term.field (Jvm.Term.string "PennyMore$Reader" (62 : Nat)) "java/lang/String" "value" "[B") (Jvm.Term.int (3 : Int32))) (Jvm.Term.int (32 : Int32))), (Jvm.Cond.not (Jvm.Cond.eq (Jvm.Term.string "PennyMore$Reader" (52 : Nat)) (Jvm.Term.string "PennyMore$Reader" (62 : Nat)))), (Jvm.Cond.not (Jvm.Cond.eq (Jvm.Term.string "PennyMore$Reader" (54 : Nat)) (Jvm.Term.string "PennyMore$Reader" (62 : Nat)))), (Jvm.Cond.not (Jvm.Cond.eq (Jvm.Term.string "PennyMore$Reader" (56 : Nat)) (Jvm.Term.string "PennyMore$Reader" (62 : Nat)))), (Jvm.Cond.not (Jvm.Cond.eq (Jvm.Term.string "PennyMore$Reader" (58 : Nat)) (Jvm.Term.string "PennyMore$Reader" (62 : Nat)))), (Jvm.Cond.not (Jvm.Cond.eq (Jvm.Term.string "PennyMore$Reader" (60 : Nat)) (Jvm.Term.string "PennyMore$Reader" (62 : Nat)))), (Jvm.Cond.exactly (Jvm.Term.string "PennyMore$Reader" (64 : Nat)) "java/lang/String"), (Jvm.Cond.eq (Jvm.Term.field (Jvm.Term.string "PennyMore$Reader" (64 : Nat)) "java/lang/String" "coder" "B") (Jvm.Term.int (0 : Int32))), (Jvm.Cond.arrayOf (Jvm.Term.field (Jvm.Term.string "PennyMore$Reader" (64 : Nat)) "java/lang/String" "value" "[B") Jvm.ClassFile.FieldType.byte), (Jvm.Cond.eq (Jvm.Term.length (Jvm.Term.field (Jvm.Term.string "PennyMore$Reader" (64 : Nat)) "java/lang/String" "value" "[B")) (Jvm.Term.int (0 : Int32))), (Jvm.Cond.not (Jvm.Cond.eq (Jvm.Term.string "PennyMore$Reader" (52 : Nat)) (Jvm.Term.string "PennyMore$Reader" (64 : Nat)))), (Jvm.Cond.not (Jvm.Cond.eq (Jvm.Term.string "PennyMore$Reader" (54 : Nat)) (Jvm.Term.string "PennyMore$Reader" (64 : Nat)))), (Jvm.Cond.not (Jvm.Cond.eq (Jvm.Term.string "PennyMore$Reader" (56 : Nat)) (Jvm.Term.string "PennyMore$Reader" (64 : Nat)))), (Jvm.Cond.not (Jvm.Cond.eq (Jvm.Term.string "PennyMore$Reader" (58 : Nat)) (Jvm.Term.string "PennyMore$Reader" (64 : Nat)))), (Jvm.Cond.not (Jvm.Cond.eq (Jvm.Term.string "PennyMore$Reader" (60 : Nat)) (Jvm.Term.string "PennyMore$Reader" (64 : Nat)))), (Jvm.Cond.not (Jvm.Cond.eq (Jvm.Term.string "PennyMore$Reader" (62 : Nat)) (Jvm.Term.string "PennyMore$Reader" (64 : Nat)))), (Jvm.Cond.exactly (Jvm.Term.string "PennyMore$Reader" (76 : Nat)) "java/lang/String"), (Jvm.Cond.eq (Jvm.Term.field (Jvm.Term.string "PennyMore$Reader" (76 : Nat)) "java/lang/String" "coder" "B") (Jvm.Term.int (0 : Int32))), (Jvm.Cond.arrayOf (Jvm.Term.field (Jvm.Term.string "PennyMore$Reader" (76 : Nat)) "java/lang/String" "value" "[B") Jvm.ClassFile.FieldType.byte), (Jvm.Cond.eq (Jvm.Term.length (Jvm.Term.field (Jvm.Term.string "PennyMore$Reader" (76 : Nat)) "java/lang/String" "value" "[B")) (Jvm.Term.int (1 : Int32))), (Jvm.Cond.eq (Jvm.Term.elem (Jvm.Term.field (Jvm.Term.string "PennyMore$Reader" (76 : Nat)) "java/lang/String" "value" "[B") (Jvm.Term.int (0 : Int32))) (Jvm.Term.int (32 : Int32))), (Jvm.Cond.not (Jvm.Cond.eq (Jvm.Term.string "PennyMore$Reader" (52 : Nat)) (Jvm.Term.string "PennyMore$Reader" (76 : Nat)))), (Jvm.Cond.not (Jvm.Cond.eq (Jvm.Term.string "PennyMore$Reader" (54 : Nat)) (Jvm.Term.string "PennyMore$Reader" (76 : Nat))))]
def mm_nl_4 : List Cond := [(Jvm.Cond.not (Jvm.Cond.eq (Jvm.Term.string "PennyMore$Reader" (56 : Nat)) (Jvm.Term.string "PennyMore$Reader" (76 : Nat)))), (Jvm.Cond.not (Jvm.Cond.eq (Jvm.Term.string "PennyMore$Reader" (58 : Nat)) (Jvm.Term.string "PennyMore$Reader" (76 : Nat)))), (Jvm.Cond.not (Jvm.Cond.eq (Jvm.Term.string "PennyMore$Reader" (60 : Nat)) (Jvm.Term.string "PennyMore$Reader" (76 : Nat)))), (Jvm.Cond.not (Jvm.Cond.eq (Jvm.Term.string "PennyMore$Reader" (62 : Nat)) (Jvm.Term.string "PennyMore$Reader" (76 : Nat)))), (Jvm.Cond.not (Jvm.Cond.eq (Jvm.Term.string "PennyMore$Reader" (64 : Nat)) (Jvm.Term.string "PennyMore$Reader" (76 : Nat)))), (Jvm.Cond.exactly (Jvm.Term.string "PennyMore$Reader" (119 : Nat)) "java/lang/String"), (Jvm.Cond.eq (Jvm.Term.field (Jvm.Term.string "PennyMore$Reader" (119 : Nat)) "java/lang/String" "coder" "B") (Jvm.Term.int (0 : Int32))), (Jvm.Cond.arrayOf (Jvm.Term.field (Jvm.Term.string "PennyMore$Reader" (119 : Nat)) "java/lang/String" "value" "[B") Jvm.ClassFile.FieldType.byte), (Jvm.Cond.eq (Jvm.Term.length (Jvm.Term.field (Jvm.Term.string "PennyMore$Reader" (119 : Nat)) "java/lang/String" "value" "[B")) (Jvm.Term.int (7 : Int32))), (Jvm.Cond.eq (Jvm.Term.elem (Jvm.Term.field (Jvm.Term.string "PennyMore$Reader" (119 : Nat)) "java/lang/String" "value" "[B") (Jvm.Term.int (0 : Int32))) (Jvm.Term.int (98 : Int32))), (Jvm.Cond.eq (Jvm.Term.elem (Jvm.Term.field (Jvm.Term.string "PennyMore$Reader" (119 : Nat)) "java/lang/String" "value" "[B") (Jvm.Term.int (1 : Int32))) (Jvm.Term.int (107 : Int32))), (Jvm.Cond.eq (Jvm.Term.elem (Jvm.Term.field (Jvm.Term.string "PennyMore$Reader" (119 : Nat)) "java/lang/String" "value" "[B") (Jvm.Term.int (2 : Int32))) (Jvm.Term.int (112 : Int32))), (Jvm.Cond.eq (Jvm.Term.elem (Jvm.Term.field (Jvm.Term.string "PennyMore$Reader" (119 : Nat)) "java/lang/String" "value" "[B") (Jvm.Term.int (3 : Int32))) (Jvm.Term.int (108 : Int32))), (Jvm.Cond.eq (Jvm.Term.elem (Jvm.Term.field (Jvm.Term.string "PennyMore$Reader" (119 : Nat)) "java/lang/String" "value" "[B") (Jvm.Term.int (4 : Int32))) (Jvm.Term.int (114 : Int32))), (Jvm.Cond.eq (Jvm.Term.elem (Jvm.Term.field (Jvm.Term.string "PennyMore$Reader" (119 : Nat)) "java/lang/String" "value" "[B") (Jvm.Term.int (5 : Int32))) (Jvm.Term.int (97 : Int32))), (Jvm.Cond.eq (Jvm.Term.elem (Jvm.Term.field (Jvm.Term.string "PennyMore$Reader" (119 : Nat)) "java/lang/String" "value" "[B") (Jvm.Term.int (6 : Int32))) (Jvm.Term.int (102 : Int32))), (Jvm.Cond.not (Jvm.Cond.eq (Jvm.Term.string "PennyMore$Reader" (52 : Nat)) (Jvm.Term.string "PennyMore$Reader" (119 : Nat)))), (Jvm.Cond.not (Jvm.Cond.eq (Jvm.Term.string "PennyMore$Reader" (54 : Nat)) (Jvm.Term.string "PennyMore$Reader" (119 : Nat)))), (Jvm.Cond.not (Jvm.Cond.eq (Jvm.Term.string "PennyMore$Reader" (56 : Nat)) (Jvm.Term.string "PennyMore$Reader" (119 : Nat)))), (Jvm.Cond.not (Jvm.Cond.eq (Jvm.Term.string "PennyMore$Reader" (58 : Nat)) (Jvm.Term.string "PennyMore$Reader" (119 : Nat)))), (Jvm.Cond.not (Jvm.Cond.eq (Jvm.Term.string "PennyMore$Reader" (60 : Nat)) (Jvm.Term.string "PennyMore$Reader" (119 : Nat)))), (Jvm.Cond.not (Jvm.Cond.eq (Jvm.Term.string "PennyMore$Reader" (62 : Nat)) (Jvm.Term.string "PennyMore$Reader" (119 : Nat)))), (Jvm.Cond.not (Jvm.Cond.eq (Jvm.Term.string "PennyMore$Reader" (64 : Nat)) (Jvm.Term.string "PennyMore$Reader" (119 : Nat)))), (Jvm.Cond.not (Jvm.Cond.eq (Jvm.Term.string "PennyMore$Reader" (76 : Nat)) (Jvm.Term.string "PennyMore$Reader" (119 : Nat)))), (Jvm.Cond.exactly (Jvm.Term.string "PennyMore$Reader" (125 : Nat)) "java/lang/String"), (Jvm.Cond.eq (Jvm.Term.field (Jvm.Term.string "PennyMore$Reader" (125 : Nat)) "java/lang/String" "coder" "B") (Jvm.Term.int (0 : Int32))), (Jvm.Cond.arrayOf (Jvm.Term.field (Jvm.Term.string "PennyMore$Reader" (125 : Nat)) "java/lang/String" "value" "[B") Jvm.ClassFile.FieldType.byte), (Jvm.Cond.eq (Jvm.Term.length (Jvm.Term.field (Jvm.Term.string "PennyMore$Reader" (125 : Nat)) "java/lang/String" "value" "[B")) (Jvm.Term.int (3 : Int32))), (Jvm.Cond.eq (Jvm.Term.elem (Jvm.Term.field (Jvm.Term.string "PennyMore$Reader" (125 : Nat)) "java/lang/String" "value" "[B") (Jvm.Term.int (0 : Int32))) (Jvm.Term.int (60 : Int32))), (Jvm.Cond.eq (Jvm.Term.elem (Jvm.Term.field (Jvm.Term.string "PennyMore$Reader" (125 : Nat)) "java/lang/String" "value" "[B") (Jvm.Term.int (1 : Int32))) (Jvm.Term.int (61 : Int32))), (Jvm.Cond.eq (Jvm.Term.elem (Jvm.Term.field (Jvm.Term.string "PennyMore$Reader" (125 : Nat)) "java/lang/String" "value" "[B") (Jvm.Term.int (2 : Int32))) (Jvm.Term.int (62 : Int32))), (Jvm.Cond.not (Jvm.Cond.eq (Jvm.Term.string "PennyMore$Reader" (52 : Nat)) (Jvm.Term.string "PennyMore$Reader" (125 : Nat)))), (Jvm.Cond.not (Jvm.Cond.eq (Jvm.Term.string "PennyMore$Reader" (54 : Nat)) (Jvm.Term.string "PennyMore$Reader" (125 : Nat)))), (Jvm.Cond.not (Jvm.Cond.eq (Jvm.Term.string "PennyMore$Reader" (56 : Nat)) (Jvm.Term.string "PennyMore$Reader" (125 : Nat)))), (Jvm.Cond.not (Jvm.Cond.eq (Jvm.Term.string "PennyMore$Reader" (58 : Nat)) (Jvm.Term.string "PennyMore$Reader" (125 : Nat)))), (Jvm.Cond.not (Jvm.Cond.eq (Jvm.Term.string "PennyMore$Reader" (60 : Nat)) (Jvm.Term.string "PennyMore$Reader" (125 : Nat)))), (Jvm.Cond.not (Jvm.Cond.eq (Jvm.Term.string "PennyMore$Reader" (62 : Nat)) (Jvm.Term.string "PennyMore$Reader" (125 : Nat)))), (Jvm.Cond.not (Jvm.Cond.eq (Jvm.Term.string "PennyMore$Reader" (64 : Nat)) (Jvm.Term.string "PennyMore$Reader" (125 : Nat)))), (Jvm.Cond.not (Jvm.Cond.eq (Jvm.Term.string "PennyMore$Reader" (76 : Nat)) (Jvm.Term.string "PennyMore$Reader" (125 : Nat)))), (Jvm.Cond.not (Jvm.Cond.eq (Jvm.Term.string "PennyMore$Reader" (119 : Nat)) (Jvm.Term.string "PennyMore$Reader" (125 : Nat)))), (Jvm.Cond.exactly (Jvm.Term.string "PennyMore$Reader" (117 : Nat)) "java/lang/String"), (Jvm.Cond.eq (Jvm.Term.field (Jvm.Term.string "PennyMore$Reader" (117 : Nat)) "java/lang/String" "coder" "B") (Jvm.Term.int (0 : Int32))), (Jvm.Cond.arrayOf (Jvm.Term.field (Jvm.Term.string "PennyMore$Reader" (117 : Nat)) "java/lang/String" "value" "[B") Jvm.ClassFile.FieldType.byte), (Jvm.Cond.eq (Jvm.Term.length (Jvm.Term.field (Jvm.Term.string "PennyMore$Reader" (117 : Nat)) "java/lang/String" "value" "[B")) (Jvm.Term.int (1 : Int32))), (Jvm.Cond.eq (Jvm.Term.elem (Jvm.Term.field (Jvm.Term.string "PennyMore$Reader" (117 : Nat)) "java/lang/String" "value" "[B") (Jvm.Term.int (0 : Int32))) (Jvm.Term.int (41 : Int32))), (Jvm.Cond.not (Jvm.Cond.eq (Jvm.Term.string "PennyMore$Reader" (52 : Nat)) (Jvm.Term.string "PennyMore$Reader" (117 : Nat)))), (Jvm.Cond.not (Jvm.Cond.eq (Jvm.Term.string "PennyMore$Reader" (54 : Nat)) (Jvm.Term.string "PennyMore$Reader" (117 : Nat)))), (Jvm.Cond.not (Jvm.Cond.eq (Jvm.Term.string "PennyMore$Reader" (56 : Nat)) (Jvm.Term.string "PennyMore$Reader" (117 : Nat)))), (Jvm.Cond.not (Jvm.Cond.eq (Jvm.Term.string "PennyMore$Reader" (58 : Nat)) (Jvm.Term.string "PennyMore$Reader" (117 : Nat)))), (Jvm.Cond.not (Jvm.Cond.eq (Jvm.Term.string "PennyMore$Reader" (60 : Nat)) (Jvm.Term.string "PennyMore$Reader" (117 : Nat)))), (Jvm.Cond.not (Jvm.Cond.eq (Jvm.Term.string "PennyMore$Reader" (62 : Nat)) (Jvm.Term.string "PennyMore$Reader" (117 : Nat)))), (Jvm.Cond.not (Jvm.Cond.eq (Jvm.Term.string "PennyMore$Reader" (64 : Nat)) (Jvm.Term.string "PennyMore$Reader" (117 : Nat)))), (Jvm.Cond.not (Jvm.Cond.eq (Jvm.Term.string "PennyMore$Reader" (76 : Nat)) (Jvm.Term.string "PennyMore$Reader" (117 : Nat)))), (Jvm.Cond.not (Jvm.Cond.eq (Jvm.Term.string "PennyMore$Reader" (119 : Nat)) (Jvm.Term.string "PennyMore$Reader" (117 : Nat)))), (Jvm.Cond.not (Jvm.Cond.eq (Jvm.Term.string "PennyMore$Reader" (125 : Nat)) (Jvm.Term.string "PennyMore$Reader" (117 : Nat)))), (Jvm.Cond.exactly (Jvm.Term.string "PennyMore$Reader" (33 : Nat)) "java/lang/String"), (Jvm.Cond.eq (Jvm.Term.field (Jvm.Term.string "PennyMore$Reader" (33 : Nat)) "java/lang/String" "coder" "B") (Jvm.Term.int (0 : Int32))), (Jvm.Cond.arrayOf (Jvm.Term.field (Jvm.Term.string "PennyMore$Reader" (33 : Nat)) "java/lang/String" "value" "[B") Jvm.ClassFile.FieldType.byte), (Jvm.Cond.eq (Jvm.Term.length (Jvm.Term.field (Jvm.Term.string "PennyMore$Reader" (33 : Nat)) "java/lang/String" "value" "[B")) (Jvm.Term.int (1 : Int32))), (Jvm.Cond.eq (Jvm.Term.elem (Jvm.Term.field (Jvm.Term.string "PennyMore$Reader" (33 : Nat)) "java/lang/String" "value" "[B") (Jvm.Term.int (0 : Int32))) (Jvm.Term.int (59 : Int32)))]
def mm_nl_5 : List Cond := [(Jvm.Cond.not (Jvm.Cond.eq (Jvm.Term.string "PennyMore$Reader" (52 : Nat)) (Jvm.Term.string "PennyMore$Reader" (33 : Nat)))), (Jvm.Cond.not (Jvm.Cond.eq (Jvm.Term.string "PennyMore$Reader" (54 : Nat)) (Jvm.Term.string "PennyMore$Reader" (33 : Nat)))), (Jvm.Cond.not (Jvm.Cond.eq (Jvm.Term.string "PennyMore$Reader" (56 : Nat)) (Jvm.Term.string "PennyMore$Reader" (33 : Nat)))), (Jvm.Cond.not (Jvm.Cond.eq (Jvm.Term.string "PennyMore$Reader" (58 : Nat)) (Jvm.Term.string "PennyMore$Reader" (33 : Nat)))), (Jvm.Cond.not (Jvm.Cond.eq (Jvm.Term.string "PennyMore$Reader" (60 : Nat)) (Jvm.Term.string "PennyMore$Reader" (33 : Nat)))), (Jvm.Cond.not (Jvm.Cond.eq (Jvm.Term.string "PennyMore$Reader" (62 : Nat)) (Jvm.Term.string "PennyMore$Reader" (33 : Nat)))), (Jvm.Cond.not (Jvm.Cond.eq (Jvm.Term.string "PennyMore$Reader" (64 : Nat)) (Jvm.Term.string "PennyMore$Reader" (33 : Nat)))), (Jvm.Cond.not (Jvm.Cond.eq (Jvm.Term.string "PennyMore$Reader" (76 : Nat)) (Jvm.Term.string "PennyMore$Reader" (33 : Nat)))), (Jvm.Cond.not (Jvm.Cond.eq (Jvm.Term.string "PennyMore$Reader" (119 : Nat)) (Jvm.Term.string "PennyMore$Reader" (33 : Nat)))), (Jvm.Cond.not (Jvm.Cond.eq (Jvm.Term.string "PennyMore$Reader" (125 : Nat)) (Jvm.Term.string "PennyMore$Reader" (33 : Nat)))), (Jvm.Cond.not (Jvm.Cond.eq (Jvm.Term.string "PennyMore$Reader" (117 : Nat)) (Jvm.Term.string "PennyMore$Reader" (33 : Nat))))]
def mm_nl : List Cond := mm_nl_0 ++ (mm_nl_1 ++ (mm_nl_2 ++ (mm_nl_3 ++ (mm_nl_4 ++ (mm_nl_5)))))
theorem mm_flat : flatC narrow_1 = mm_nl := by decide +kernel
theorem mm_s1 {args : Array Value} {s : State} (h : ∀ w ∈ mm_nl, w.before args s = true) : ∀ i : Nat, i < 12 → (Cond.exactly (Term.string "PennyMore$Reader" (mm_sx i).1) "java/lang/String").before args s = true := by
  intro i hi
  match i, hi with
  | 0, _ => exact h _ (List.mem_append_right _ (List.mem_append_right _ (List.mem_append_right _ (List.mem_append_right _ (List.mem_append_left _ (List.mem_of_getElem? (i := 55) rfl))))))
  | 1, _ => exact h _ (List.mem_append_right _ (List.mem_append_right _ (List.mem_append_left _ (List.mem_of_getElem? (i := 37) rfl))))
  | 2, _ => exact h _ (List.mem_append_right _ (List.mem_append_right _ (List.mem_append_left _ (List.mem_of_getElem? (i := 46) rfl))))
  | 3, _ => exact h _ (List.mem_append_right _ (List.mem_append_right _ (List.mem_append_left _ (List.mem_of_getElem? (i := 56) rfl))))
  | 4, _ => exact h _ (List.mem_append_right _ (List.mem_append_right _ (List.mem_append_right _ (List.mem_append_left _ (List.mem_of_getElem? (i := 5) rfl)))))
  | 5, _ => exact h _ (List.mem_append_right _ (List.mem_append_right _ (List.mem_append_right _ (List.mem_append_left _ (List.mem_of_getElem? (i := 17) rfl)))))
  | 6, _ => exact h _ (List.mem_append_right _ (List.mem_append_right _ (List.mem_append_right _ (List.mem_append_left _ (List.mem_of_getElem? (i := 30) rfl)))))
  | 7, _ => exact h _ (List.mem_append_right _ (List.mem_append_right _ (List.mem_append_right _ (List.mem_append_left _ (List.mem_of_getElem? (i := 43) rfl)))))
  | 8, _ => exact h _ (List.mem_append_right _ (List.mem_append_right _ (List.mem_append_right _ (List.mem_append_left _ (List.mem_of_getElem? (i := 53) rfl)))))
  | 9, _ => exact h _ (List.mem_append_right _ (List.mem_append_right _ (List.mem_append_right _ (List.mem_append_right _ (List.mem_append_left _ (List.mem_of_getElem? (i := 40) rfl))))))
  | 10, _ => exact h _ (List.mem_append_right _ (List.mem_append_right _ (List.mem_append_right _ (List.mem_append_right _ (List.mem_append_left _ (List.mem_of_getElem? (i := 5) rfl))))))
  | 11, _ => exact h _ (List.mem_append_right _ (List.mem_append_right _ (List.mem_append_right _ (List.mem_append_right _ (List.mem_append_left _ (List.mem_of_getElem? (i := 24) rfl))))))
  | i + 12, h => exact absurd h (by omega)
theorem mm_s2 {args : Array Value} {s : State} (h : ∀ w ∈ mm_nl, w.before args s = true) : ∀ i : Nat, i < 12 → (Cond.eq (.field (Term.string "PennyMore$Reader" (mm_sx i).1) "java/lang/String" "coder" "B") (.int 0)).before args s = true := by
  intro i hi
  match i, hi with
  | 0, _ => exact h _ (List.mem_append_right _ (List.mem_append_right _ (List.mem_append_right _ (List.mem_append_right _ (List.mem_append_left _ (List.mem_of_getElem? (i := 56) rfl))))))
  | 1, _ => exact h _ (List.mem_append_right _ (List.mem_append_right _ (List.mem_append_left _ (List.mem_of_getElem? (i := 38) rfl))))
  | 2, _ => exact h _ (List.mem_append_right _ (List.mem_append_right _ (List.mem_append_left _ (List.mem_of_getElem? (i := 47) rfl))))
  | 3, _ => exact h _ (List.mem_append_right _ (List.mem_append_right _ (List.mem_append_left _ (List.mem_of_getElem? (i := 57) rfl))))
  | 4, _ => exact h _ (List.mem_append_right _ (List.mem_append_right _ (List.mem_append_right _ (List.mem_append_left _ (List.mem_of_getElem? (i := 6) rfl)))))
  | 5, _ => exact h _ (List.mem_append_right _ (List.mem_append_right _ (List.mem_append_right _ (List.mem_append_left _ (List.mem_of_getElem? (i := 18) rfl)))))
  | 6, _ => exact h _ (List.mem_append_right _ (List.mem_append_right _ (List.mem_append_right _ (List.mem_append_left _ (List.mem_of_getElem? (i := 31) rfl)))))
  | 7, _ => exact h _ (List.mem_append_right _ (List.mem_append_right _ (List.mem_append_right _ (List.mem_append_left _ (List.mem_of_getElem? (i := 44) rfl)))))
  | 8, _ => exact h _ (List.mem_append_right _ (List.mem_append_right _ (List.mem_append_right _ (List.mem_append_left _ (List.mem_of_getElem? (i := 54) rfl)))))
  | 9, _ => exact h _ (List.mem_append_right _ (List.mem_append_right _ (List.mem_append_right _ (List.mem_append_right _ (List.mem_append_left _ (List.mem_of_getElem? (i := 41) rfl))))))
  | 10, _ => exact h _ (List.mem_append_right _ (List.mem_append_right _ (List.mem_append_right _ (List.mem_append_right _ (List.mem_append_left _ (List.mem_of_getElem? (i := 6) rfl))))))
  | 11, _ => exact h _ (List.mem_append_right _ (List.mem_append_right _ (List.mem_append_right _ (List.mem_append_right _ (List.mem_append_left _ (List.mem_of_getElem? (i := 25) rfl))))))
  | i + 12, h => exact absurd h (by omega)
theorem mm_s3 {args : Array Value} {s : State} (h : ∀ w ∈ mm_nl, w.before args s = true) : ∀ i : Nat, i < 12 → (Cond.arrayOf (.field (Term.string "PennyMore$Reader" (mm_sx i).1) "java/lang/String" "value" "[B") .byte).before args s = true := by
  intro i hi
  match i, hi with
  | 0, _ => exact h _ (List.mem_append_right _ (List.mem_append_right _ (List.mem_append_right _ (List.mem_append_right _ (List.mem_append_left _ (List.mem_of_getElem? (i := 57) rfl))))))
  | 1, _ => exact h _ (List.mem_append_right _ (List.mem_append_right _ (List.mem_append_left _ (List.mem_of_getElem? (i := 39) rfl))))
  | 2, _ => exact h _ (List.mem_append_right _ (List.mem_append_right _ (List.mem_append_left _ (List.mem_of_getElem? (i := 48) rfl))))
  | 3, _ => exact h _ (List.mem_append_right _ (List.mem_append_right _ (List.mem_append_left _ (List.mem_of_getElem? (i := 58) rfl))))
  | 4, _ => exact h _ (List.mem_append_right _ (List.mem_append_right _ (List.mem_append_right _ (List.mem_append_left _ (List.mem_of_getElem? (i := 7) rfl)))))
  | 5, _ => exact h _ (List.mem_append_right _ (List.mem_append_right _ (List.mem_append_right _ (List.mem_append_left _ (List.mem_of_getElem? (i := 19) rfl)))))
  | 6, _ => exact h _ (List.mem_append_right _ (List.mem_append_right _ (List.mem_append_right _ (List.mem_append_left _ (List.mem_of_getElem? (i := 32) rfl)))))
  | 7, _ => exact h _ (List.mem_append_right _ (List.mem_append_right _ (List.mem_append_right _ (List.mem_append_left _ (List.mem_of_getElem? (i := 45) rfl)))))
  | 8, _ => exact h _ (List.mem_append_right _ (List.mem_append_right _ (List.mem_append_right _ (List.mem_append_left _ (List.mem_of_getElem? (i := 55) rfl)))))
  | 9, _ => exact h _ (List.mem_append_right _ (List.mem_append_right _ (List.mem_append_right _ (List.mem_append_right _ (List.mem_append_left _ (List.mem_of_getElem? (i := 42) rfl))))))
  | 10, _ => exact h _ (List.mem_append_right _ (List.mem_append_right _ (List.mem_append_right _ (List.mem_append_right _ (List.mem_append_left _ (List.mem_of_getElem? (i := 7) rfl))))))
  | 11, _ => exact h _ (List.mem_append_right _ (List.mem_append_right _ (List.mem_append_right _ (List.mem_append_right _ (List.mem_append_left _ (List.mem_of_getElem? (i := 26) rfl))))))
  | i + 12, h => exact absurd h (by omega)
theorem mm_s4 {args : Array Value} {s : State} (h : ∀ w ∈ mm_nl, w.before args s = true) : ∀ i : Nat, i < 12 → (Cond.eq (.length (.field (Term.string "PennyMore$Reader" (mm_sx i).1) "java/lang/String" "value" "[B")) (.int (Int32.ofNat (mm_sl.getD i 0)))).before args s = true := by
  intro i hi
  match i, hi with
  | 0, _ => exact h _ (List.mem_append_right _ (List.mem_append_right _ (List.mem_append_right _ (List.mem_append_right _ (List.mem_append_left _ (List.mem_of_getElem? (i := 58) rfl))))))
  | 1, _ => exact h _ (List.mem_append_right _ (List.mem_append_right _ (List.mem_append_left _ (List.mem_of_getElem? (i := 40) rfl))))
  | 2, _ => exact h _ (List.mem_append_right _ (List.mem_append_right _ (List.mem_append_left _ (List.mem_of_getElem? (i := 49) rfl))))
  | 3, _ => exact h _ (List.mem_append_right _ (List.mem_append_right _ (List.mem_append_left _ (List.mem_of_getElem? (i := 59) rfl))))
  | 4, _ => exact h _ (List.mem_append_right _ (List.mem_append_right _ (List.mem_append_right _ (List.mem_append_left _ (List.mem_of_getElem? (i := 8) rfl)))))
  | 5, _ => exact h _ (List.mem_append_right _ (List.mem_append_right _ (List.mem_append_right _ (List.mem_append_left _ (List.mem_of_getElem? (i := 20) rfl)))))
  | 6, _ => exact h _ (List.mem_append_right _ (List.mem_append_right _ (List.mem_append_right _ (List.mem_append_left _ (List.mem_of_getElem? (i := 33) rfl)))))
  | 7, _ => exact h _ (List.mem_append_right _ (List.mem_append_right _ (List.mem_append_right _ (List.mem_append_left _ (List.mem_of_getElem? (i := 46) rfl)))))
  | 8, _ => exact h _ (List.mem_append_right _ (List.mem_append_right _ (List.mem_append_right _ (List.mem_append_left _ (List.mem_of_getElem? (i := 56) rfl)))))
  | 9, _ => exact h _ (List.mem_append_right _ (List.mem_append_right _ (List.mem_append_right _ (List.mem_append_right _ (List.mem_append_left _ (List.mem_of_getElem? (i := 43) rfl))))))
  | 10, _ => exact h _ (List.mem_append_right _ (List.mem_append_right _ (List.mem_append_right _ (List.mem_append_right _ (List.mem_append_left _ (List.mem_of_getElem? (i := 8) rfl))))))
  | 11, _ => exact h _ (List.mem_append_right _ (List.mem_append_right _ (List.mem_append_right _ (List.mem_append_right _ (List.mem_append_left _ (List.mem_of_getElem? (i := 27) rfl))))))
  | i + 12, h => exact absurd h (by omega)
theorem mm_s5 {args : Array Value} {s : State} (h : ∀ w ∈ mm_nl, w.before args s = true) : ∀ i : Nat, i < 12 → ∀ j : Nat, j < mm_sl.getD i 0 → (Cond.eq (.elem (.field (Term.string "PennyMore$Reader" (mm_sx i).1) "java/lang/String" "value" "[B") (.int (Int32.ofNat j))) (.int ((mm_sb.getD i []).getD j 0))).before args s = true := by
  intro i hi
  match i, hi with
  | 0, _ => exact (by
    intro j hj
    match j, hj with
    | 0, _ => exact h _ (List.mem_append_right _ (List.mem_append_right _ (List.mem_append_right _ (List.mem_append_right _ (List.mem_append_left _ (List.mem_of_getElem? (i := 59) rfl))))))
    | j + 1, h => exact absurd h (by show ¬ j + 1 < 1; omega))
  | 1, _ => exact (by
    intro j hj
    match j, hj with
    | 0, _ => exact h _ (List.mem_append_right _ (List.mem_append_right _ (List.mem_append_left _ (List.mem_of_getElem? (i := 41) rfl))))
    | 1, _ => exact h _ (List.mem_append_right _ (List.mem_append_right _ (List.mem_append_left _ (List.mem_of_getElem? (i := 42) rfl))))
    | 2, _ => exact h _ (List.mem_append_right _ (List.mem_append_right _ (List.mem_append_left _ (List.mem_of_getElem? (i := 43) rfl))))
    | 3, _ => exact h _ (List.mem_append_right _ (List.mem_append_right _ (List.mem_append_left _ (List.mem_of_getElem? (i := 44) rfl))))
    | 4, _ => exact h _ (List.mem_append_right _ (List.mem_append_right _ (List.mem_append_left _ (List.mem_of_getElem? (i := 45) rfl))))
    | j + 5, h => exact absurd h (by show ¬ j + 5 < 5; omega))
  | 2, _ => exact (by
    intro j hj
    match j, hj with
    | 0, _ => exact h _ (List.mem_append_right _ (List.mem_append_right _ (List.mem_append_left _ (List.mem_of_getElem? (i := 50) rfl))))
    | 1, _ => exact h _ (List.mem_append_right _ (List.mem_append_right _ (List.mem_append_left _ (List.mem_of_getElem? (i := 51) rfl))))
    | 2, _ => exact h _ (List.mem_append_right _ (List.mem_append_right _ (List.mem_append_left _ (List.mem_of_getElem? (i := 52) rfl))))
    | 3, _ => exact h _ (List.mem_append_right _ (List.mem_append_right _ (List.mem_append_left _ (List.mem_of_getElem? (i := 53) rfl))))
    | 4, _ => exact h _ (List.mem_append_right _ (List.mem_append_right _ (List.mem_append_left _ (List.mem_of_getElem? (i := 54) rfl))))
    | j + 5, h => exact absurd h (by show ¬ j + 5 < 5; omega))
  | 3, _ => exact (by
    intro j hj
    match j, hj with
    | 0, _ => exact h _ (List.mem_append_right _ (List.mem_append_right _ (List.mem_append_right _ (List.mem_append_left _ (List.mem_of_getElem? (i := 0) rfl)))))
    | 1, _ => exact h _ (List.mem_append_right _ (List.mem_append_right _ (List.mem_append_right _ (List.mem_append_left _ (List.mem_of_getElem? (i := 1) rfl)))))
    | 2, _ => exact h _ (List.mem_append_right _ (List.mem_append_right _ (List.mem_append_right _ (List.mem_append_left _ (List.mem_of_getElem? (i := 2) rfl)))))
    | j + 3, h => exact absurd h (by show ¬ j + 3 < 3; omega))
  | 4, _ => exact (by
    intro j hj
    match j, hj with
    | 0, _ => exact h _ (List.mem_append_right _ (List.mem_append_right _ (List.mem_append_right _ (List.mem_append_left _ (List.mem_of_getElem? (i := 9) rfl)))))
    | 1, _ => exact h _ (List.mem_append_right _ (List.mem_append_right _ (List.mem_append_right _ (List.mem_append_left _ (List.mem_of_getElem? (i := 10) rfl)))))
    | 2, _ => exact h _ (List.mem_append_right _ (List.mem_append_right _ (List.mem_append_right _ (List.mem_append_left _ (List.mem_of_getElem? (i := 11) rfl)))))
    | 3, _ => exact h _ (List.mem_append_right _ (List.mem_append_right _ (List.mem_append_right _ (List.mem_append_left _ (List.mem_of_getElem? (i := 12) rfl)))))
    | 4, _ => exact h _ (List.mem_append_right _ (List.mem_append_right _ (List.mem_append_right _ (List.mem_append_left _ (List.mem_of_getElem? (i := 13) rfl)))))
    | j + 5, h => exact absurd h (by show ¬ j + 5 < 5; omega))
  | 5, _ => exact (by
    intro j hj
    match j, hj with
    | 0, _ => exact h _ (List.mem_append_right _ (List.mem_append_right _ (List.mem_append_right _ (List.mem_append_left _ (List.mem_of_getElem? (i := 21) rfl)))))
    | 1, _ => exact h _ (List.mem_append_right _ (List.mem_append_right _ (List.mem_append_right _ (List.mem_append_left _ (List.mem_of_getElem? (i := 22) rfl)))))
    | 2, _ => exact h _ (List.mem_append_right _ (List.mem_append_right _ (List.mem_append_right _ (List.mem_append_left _ (List.mem_of_getElem? (i := 23) rfl)))))
    | 3, _ => exact h _ (List.mem_append_right _ (List.mem_append_right _ (List.mem_append_right _ (List.mem_append_left _ (List.mem_of_getElem? (i := 24) rfl)))))
    | 4, _ => exact h _ (List.mem_append_right _ (List.mem_append_right _ (List.mem_append_right _ (List.mem_append_left _ (List.mem_of_getElem? (i := 25) rfl)))))
    | j + 5, h => exact absurd h (by show ¬ j + 5 < 5; omega))
  | 6, _ => exact (by
    intro j hj
    match j, hj with
    | 0, _ => exact h _ (List.mem_append_right _ (List.mem_append_right _ (List.mem_append_right _ (List.mem_append_left _ (List.mem_of_getElem? (i := 34) rfl)))))
    | 1, _ => exact h _ (List.mem_append_right _ (List.mem_append_right _ (List.mem_append_right _ (List.mem_append_left _ (List.mem_of_getElem? (i := 35) rfl)))))
    | 2, _ => exact h _ (List.mem_append_right _ (List.mem_append_right _ (List.mem_append_right _ (List.mem_append_left _ (List.mem_of_getElem? (i := 36) rfl)))))
    | 3, _ => exact h _ (List.mem_append_right _ (List.mem_append_right _ (List.mem_append_right _ (List.mem_append_left _ (List.mem_of_getElem? (i := 37) rfl)))))
    | j + 4, h => exact absurd h (by show ¬ j + 4 < 4; omega))
  | 7, _ => exact (by
    intro j hj
    match j, hj with

    | j + 0, h => exact absurd h (by show ¬ j + 0 < 0; omega))
  | 8, _ => exact (by
    intro j hj
    match j, hj with
    | 0, _ => exact h _ (List.mem_append_right _ (List.mem_append_right _ (List.mem_append_right _ (List.mem_append_left _ (List.mem_of_getElem? (i := 57) rfl)))))
    | j + 1, h => exact absurd h (by show ¬ j + 1 < 1; omega))
  | 9, _ => exact (by
    intro j hj
    match j, hj with
    | 0, _ => exact h _ (List.mem_append_right _ (List.mem_append_right _ (List.mem_append_right _ (List.mem_append_right _ (List.mem_append_left _ (List.mem_of_getElem? (i := 44) rfl))))))
    | j + 1, h => exact absurd h (by show ¬ j + 1 < 1; omega))
  | 10, _ => exact (by
    intro j hj
    match j, hj with
    | 0, _ => exact h _ (List.mem_append_right _ (List.mem_append_right _ (List.mem_append_right _ (List.mem_append_right _ (List.mem_append_left _ (List.mem_of_getElem? (i := 9) rfl))))))
    | 1, _ => exact h _ (List.mem_append_right _ (List.mem_append_right _ (List.mem_append_right _ (List.mem_append_right _ (List.mem_append_left _ (List.mem_of_getElem? (i := 10) rfl))))))
    | 2, _ => exact h _ (List.mem_append_right _ (List.mem_append_right _ (List.mem_append_right _ (List.mem_append_right _ (List.mem_append_left _ (List.mem_of_getElem? (i := 11) rfl))))))
    | 3, _ => exact h _ (List.mem_append_right _ (List.mem_append_right _ (List.mem_append_right _ (List.mem_append_right _ (List.mem_append_left _ (List.mem_of_getElem? (i := 12) rfl))))))
    | 4, _ => exact h _ (List.mem_append_right _ (List.mem_append_right _ (List.mem_append_right _ (List.mem_append_right _ (List.mem_append_left _ (List.mem_of_getElem? (i := 13) rfl))))))
    | 5, _ => exact h _ (List.mem_append_right _ (List.mem_append_right _ (List.mem_append_right _ (List.mem_append_right _ (List.mem_append_left _ (List.mem_of_getElem? (i := 14) rfl))))))
    | 6, _ => exact h _ (List.mem_append_right _ (List.mem_append_right _ (List.mem_append_right _ (List.mem_append_right _ (List.mem_append_left _ (List.mem_of_getElem? (i := 15) rfl))))))
    | j + 7, h => exact absurd h (by show ¬ j + 7 < 7; omega))
  | 11, _ => exact (by
    intro j hj
    match j, hj with
    | 0, _ => exact h _ (List.mem_append_right _ (List.mem_append_right _ (List.mem_append_right _ (List.mem_append_right _ (List.mem_append_left _ (List.mem_of_getElem? (i := 28) rfl))))))
    | 1, _ => exact h _ (List.mem_append_right _ (List.mem_append_right _ (List.mem_append_right _ (List.mem_append_right _ (List.mem_append_left _ (List.mem_of_getElem? (i := 29) rfl))))))
    | 2, _ => exact h _ (List.mem_append_right _ (List.mem_append_right _ (List.mem_append_right _ (List.mem_append_right _ (List.mem_append_left _ (List.mem_of_getElem? (i := 30) rfl))))))
    | j + 3, h => exact absurd h (by show ¬ j + 3 < 3; omega))
  | i + 12, h => exact absurd h (by omega)
theorem mm_s6 {args : Array Value} {s : State} (h : ∀ w ∈ mm_nl, w.before args s = true) : ∀ i : Nat, i < 12 → ∀ j : Nat, j < 12 → i ≠ j → (Cond.not (Cond.eq (Term.string "PennyMore$Reader" (mm_sx i).1) (Term.string "PennyMore$Reader" (mm_sx j).1))).before args s = true ∨ (Cond.not (Cond.eq (Term.string "PennyMore$Reader" (mm_sx j).1) (Term.string "PennyMore$Reader" (mm_sx i).1))).before args s = true := by
  intro i hi
  match i, hi with
  | 0, _ => exact (by
    intro j hj hne
    match j, hj, hne with
    | 0, _, hne => exact absurd rfl hne
    | 1, _, _ => exact Or.inr (h _ (List.mem_append_right _ (List.mem_append_right _ (List.mem_append_right _ (List.mem_append_right _ (List.mem_append_right _ (List.mem_of_getElem? (i := 0) rfl)))))))
    | 2, _, _ => exact Or.inr (h _ (List.mem_append_right _ (List.mem_append_right _ (List.mem_append_right _ (List.mem_append_right _ (List.mem_append_right _ (List.mem_of_getElem? (i := 1) rfl)))))))
    | 3, _, _ => exact Or.inr (h _ (List.mem_append_right _ (List.mem_append_right _ (List.mem_append_right _ (List.mem_append_right _ (List.mem_append_right _ (List.mem_of_getElem? (i := 2) rfl)))))))
    | 4, _, _ => exact Or.inr (h _ (List.mem_append_right _ (List.mem_append_right _ (List.mem_append_right _ (List.mem_append_right _ (List.mem_append_right _ (List.mem_of_getElem? (i := 3) rfl)))))))
    | 5, _, _ => exact Or.inr (h _ (List.mem_append_right _ (List.mem_append_right _ (List.mem_append_right _ (List.mem_append_right _ (List.mem_append_right _ (List.mem_of_getElem? (i := 4) rfl)))))))
    | 6, _, _ => exact Or.inr (h _ (List.mem_append_right _ (List.mem_append_right _ (List.mem_append_right _ (List.mem_append_right _ (List.mem_append_right _ (List.mem_of_getElem? (i := 5) rfl)))))))
    | 7, _, _ => exact Or.inr (h _ (List.mem_append_right _ (List.mem_append_right _ (List.mem_append_right _ (List.mem_append_right _ (List.mem_append_right _ (List.mem_of_getElem? (i := 6) rfl)))))))
    | 8, _, _ => exact Or.inr (h _ (List.mem_append_right _ (List.mem_append_right _ (List.mem_append_right _ (List.mem_append_right _ (List.mem_append_right _ (List.mem_of_getElem? (i := 7) rfl)))))))
    | 9, _, _ => exact Or.inr (h _ (List.mem_append_right _ (List.mem_append_right _ (List.mem_append_right _ (List.mem_append_right _ (List.mem_append_right _ (List.mem_of_getElem? (i := 10) rfl)))))))
    | 10, _, _ => exact Or.inr (h _ (List.mem_append_right _ (List.mem_append_right _ (List.mem_append_right _ (List.mem_append_right _ (List.mem_append_right _ (List.mem_of_getElem? (i := 8) rfl)))))))
    | 11, _, _ => exact Or.inr (h _ (List.mem_append_right _ (List.mem_append_right _ (List.mem_append_right _ (List.mem_append_right _ (List.mem_append_right _ (List.mem_of_getElem? (i := 9) rfl)))))))
    | j + 12, h, _ => exact absurd h (by omega))
  | 1, _ => exact (by
    intro j hj hne
    match j, hj, hne with
    | 0, _, _ => exact Or.inl (h _ (List.mem_append_right _ (List.mem_append_right _ (List.mem_append_right _ (List.mem_append_right _ (List.mem_append_right _ (List.mem_of_getElem? (i := 0) rfl)))))))
    | 1, _, hne => exact absurd rfl hne
    | 2, _, _ => exact Or.inl (h _ (List.mem_append_right _ (List.mem_append_right _ (List.mem_append_left _ (List.mem_of_getElem? (i := 55) rfl)))))
    | 3, _, _ => exact Or.inl (h _ (List.mem_append_right _ (List.mem_append_right _ (List.mem_append_right _ (List.mem_append_left _ (List.mem_of_getElem? (i := 3) rfl))))))
    | 4, _, _ => exact Or.inl (h _ (List.mem_append_right _ (List.mem_append_right _ (List.mem_append_right _ (List.mem_append_left _ (List.mem_of_getElem? (i := 14) rfl))))))
    | 5, _, _ => exact Or.inl (h _ (List.mem_append_right _ (List.mem_append_right _ (List.mem_append_right _ (List.mem_append_left _ (List.mem_of_getElem? (i := 26) rfl))))))
    | 6, _, _ => exact Or.inl (h _ (List.mem_append_right _ (List.mem_append_right _ (List.mem_append_right _ (List.mem_append_left _ (List.mem_of_getElem? (i := 38) rfl))))))
    | 7, _, _ => exact Or.inl (h _ (List.mem_append_right _ (List.mem_append_right _ (List.mem_append_right _ (List.mem_append_left _ (List.mem_of_getElem? (i := 47) rfl))))))
    | 8, _, _ => exact Or.inl (h _ (List.mem_append_right _ (List.mem_append_right _ (List.mem_append_right _ (List.mem_append_left _ (List.mem_of_getElem? (i := 58) rfl))))))
    | 9, _, _ => exact Or.inl (h _ (List.mem_append_right _ (List.mem_append_right _ (List.mem_append_right _ (List.mem_append_right _ (List.mem_append_left _ (List.mem_of_getElem? (i := 45) rfl)))))))
    | 10, _, _ => exact Or.inl (h _ (List.mem_append_right _ (List.mem_append_right _ (List.mem_append_right _ (List.mem_append_right _ (List.mem_append_left _ (List.mem_of_getElem? (i := 16) rfl)))))))
    | 11, _, _ => exact Or.inl (h _ (List.mem_append_right _ (List.mem_append_right _ (List.mem_append_right _ (List.mem_append_right _ (List.mem_append_left _ (List.mem_of_getElem? (i := 31) rfl)))))))
    | j + 12, h, _ => exact absurd h (by omega))
  | 2, _ => exact (by
    intro j hj hne
    match j, hj, hne with
    | 0, _, _ => exact Or.inl (h _ (List.mem_append_right _ (List.mem_append_right _ (List.mem_append_right _ (List.mem_append_right _ (List.mem_append_right _ (List.mem_of_getElem? (i := 1) rfl)))))))
    | 1, _, _ => exact Or.inr (h _ (List.mem_append_right _ (List.mem_append_right _ (List.mem_append_left _ (List.mem_of_getElem? (i := 55) rfl)))))
    | 2, _, hne => exact absurd rfl hne
    | 3, _, _ => exact Or.inl (h _ (List.mem_append_right _ (List.mem_append_right _ (List.mem_append_right _ (List.mem_append_left _ (List.mem_of_getElem? (i := 4) rfl))))))
    | 4, _, _ => exact Or.inl (h _ (List.mem_append_right _ (List.mem_append_right _ (List.mem_append_right _ (List.mem_append_left _ (List.mem_of_getElem? (i := 15) rfl))))))
    | 5, _, _ => exact Or.inl (h _ (List.mem_append_right _ (List.mem_append_right _ (List.mem_append_right _ (List.mem_append_left _ (List.mem_of_getElem? (i := 27) rfl))))))
    | 6, _, _ => exact Or.inl (h _ (List.mem_append_right _ (List.mem_append_right _ (List.mem_append_right _ (List.mem_append_left _ (List.mem_of_getElem? (i := 39) rfl))))))
    | 7, _, _ => exact Or.inl (h _ (List.mem_append_right _ (List.mem_append_right _ (List.mem_append_right _ (List.mem_append_left _ (List.mem_of_getElem? (i := 48) rfl))))))
    | 8, _, _ => exact Or.inl (h _ (List.mem_append_right _ (List.mem_append_right _ (List.mem_append_right _ (List.mem_append_left _ (List.mem_of_getElem? (i := 59) rfl))))))
    | 9, _, _ => exact Or.inl (h _ (List.mem_append_right _ (List.mem_append_right _ (List.mem_append_right _ (List.mem_append_right _ (List.mem_append_left _ (List.mem_of_getElem? (i := 46) rfl)))))))
    | 10, _, _ => exact Or.inl (h _ (List.mem_append_right _ (List.mem_append_right _ (List.mem_append_right _ (List.mem_append_right _ (List.mem_append_left _ (List.mem_of_getElem? (i := 17) rfl)))))))
    | 11, _, _ => exact Or.inl (h _ (List.mem_append_right _ (List.mem_append_right _ (List.mem_append_right _ (List.mem_append_right _ (List.mem_append_left _ (List.mem_of_getElem? (i := 32) rfl)))))))
    | j + 12, h, _ => exact absurd h (by omega))
  | 3, _ => exact (by
    intro j hj hne
    match j, hj, hne with
    | 0, _, _ => exact Or.inl (h _ (List.mem_append_right _ (List.mem_append_right _ (List.mem_append_right _ (List.mem_append_right _ (List.mem_append_right _ (List.mem_of_getElem? (i := 2) rfl)))))))
    | 1, _, _ => exact Or.inr (h _ (List.mem_append_right _ (List.mem_append_right _ (List.mem_append_right _ (List.mem_append_left _ (List.mem_of_getElem? (i := 3) rfl))))))
    | 2, _, _ => exact Or.inr (h _ (List.mem_append_right _ (List.mem_append_right _ (List.mem_append_right _ (List.mem_append_left _ (List.mem_of_getElem? (i := 4) rfl))))))
    | 3, _, hne => exact absurd rfl hne
    | 4, _, _ => exact Or.inl (h _ (List.mem_append_right _ (List.mem_append_right _ (List.mem_append_right _ (List.mem_append_left _ (List.mem_of_getElem? (i := 16) rfl))))))
    | 5, _, _ => exact Or.inl (h _ (List.mem_append_right _ (List.mem_append_right _ (List.mem_append_right _ (List.mem_append_left _ (List.mem_of_getElem? (i := 28) rfl))))))
    | 6, _, _ => exact Or.inl (h _ (List.mem_append_right _ (List.mem_append_right _ (List.mem_append_right _ (List.mem_append_left _ (List.mem_of_getElem? (i := 40) rfl))))))
    | 7, _, _ => exact Or.inl (h _ (List.mem_append_right _ (List.mem_append_right _ (List.mem_append_right _ (List.mem_append_left _ (List.mem_of_getElem? (i := 49) rfl))))))
    | 8, _, _ => exact Or.inl (h _ (List.mem_append_right _ (List.mem_append_right _ (List.mem_append_right _ (List.mem_append_right _ (List.mem_append_left _ (List.mem_of_getElem? (i := 0) rfl)))))))
    | 9, _, _ => exact Or.inl (h _ (List.mem_append_right _ (List.mem_append_right _ (List.mem_append_right _ (List.mem_append_right _ (List.mem_append_left _ (List.mem_of_getElem? (i := 47) rfl)))))))
    | 10, _, _ => exact Or.inl (h _ (List.mem_append_right _ (List.mem_append_right _ (List.mem_append_right _ (List.mem_append_right _ (List.mem_append_left _ (List.mem_of_getElem? (i := 18) rfl)))))))
    | 11, _, _ => exact Or.inl (h _ (List.mem_append_right _ (List.mem_append_right _ (List.mem_append_right _ (List.mem_append_right _ (List.mem_append_left _ (List.mem_of_getElem? (i := 33) rfl)))))))
    | j + 12, h, _ => exact absurd h (by omega))
  | 4, _ => exact (by
    intro j hj hne
    match j, hj, hne with
    | 0, _, _ => exact Or.inl (h _ (List.mem_append_right _ (List.mem_append_right _ (List.mem_append_right _ (List.mem_append_right _ (List.mem_append_right _ (List.mem_of_getElem? (i := 3) rfl)))))))
    | 1, _, _ => exact Or.inr (h _ (List.mem_append_right _ (List.mem_append_right _ (List.mem_append_right _ (List.mem_append_left _ (List.mem_of_getElem? (i := 14) rfl))))))
    | 2, _, _ => exact Or.inr (h _ (List.mem_append_right _ (List.mem_append_right _ (List.mem_append_right _ (List.mem_append_left _ (List.mem_of_getElem? (i := 15) rfl))))))
    | 3, _, _ => exact Or.inr (h _ (List.mem_append_right _ (List.mem_append_right _ (List.mem_append_right _ (List.mem_append_left _ (List.mem_of_getElem? (i := 16) rfl))))))
    | 4, _, hne => exact absurd rfl hne
    | 5, _, _ => exact Or.inl (h _ (List.mem_append_right _ (List.mem_append_right _ (List.mem_append_right _ (List.mem_append_left _ (List.mem_of_getElem? (i := 29) rfl))))))
    | 6, _, _ => exact Or.inl (h _ (List.mem_append_right _ (List.mem_append_right _ (List.mem_append_right _ (List.mem_append_left _ (List.mem_of_getElem? (i := 41) rfl))))))
    | 7, _, _ => exact Or.inl (h _ (List.mem_append_right _ (List.mem_append_right _ (List.mem_append_right _ (List.mem_append_left _ (List.mem_of_getElem? (i := 50) rfl))))))
    | 8, _, _ => exact Or.inl (h _ (List.mem_append_right _ (List.mem_append_right _ (List.mem_append_right _ (List.mem_append_right _ (List.mem_append_left _ (List.mem_of_getElem? (i := 1) rfl)))))))
    | 9, _, _ => exact Or.inl (h _ (List.mem_append_right _ (List.mem_append_right _ (List.mem_append_right _ (List.mem_append_right _ (List.mem_append_left _ (List.mem_of_getElem? (i := 48) rfl)))))))
    | 10, _, _ => exact Or.inl (h _ (List.mem_append_right _ (List.mem_append_right _ (List.mem_append_right _ (List.mem_append_right _ (List.mem_append_left _ (List.mem_of_getElem? (i := 19) rfl)))))))
    | 11, _, _ => exact Or.inl (h _ (List.mem_append_right _ (List.mem_append_right _ (List.mem_append_right _ (List.mem_append_right _ (List.mem_append_left _ (List.mem_of_getElem? (i := 34) rfl)))))))
    | j + 12, h, _ => exact absurd h (by omega))
  | 5, _ => exact (by
    intro j hj hne
    match j, hj, hne with
    | 0, _, _ => exact Or.inl (h _ (List.mem_append_right _ (List.mem_append_right _ (List.mem_append_right _ (List.mem_append_right _ (List.mem_append_right _ (List.mem_of_getElem? (i := 4) rfl)))))))
    | 1, _, _ => exact Or.inr (h _ (List.mem_append_right _ (List.mem_append_right _ (List.mem_append_right _ (List.mem_append_left _ (List.mem_of_getElem? (i := 26) rfl))))))
    | 2, _, _ => exact Or.inr (h _ (List.mem_append_right _ (List.mem_append_right _ (List.mem_append_right _ (List.mem_append_left _ (List.mem_of_getElem? (i := 27) rfl))))))
    | 3, _, _ => exact Or.inr (h _ (List.mem_append_right _ (List.mem_append_right _ (List.mem_append_right _ (List.mem_append_left _ (List.mem_of_getElem? (i := 28) rfl))))))
    | 4, _, _ => exact Or.inr (h _ (List.mem_append_right _ (List.mem_append_right _ (List.mem_append_right _ (List.mem_append_left _ (List.mem_of_getElem? (i := 29) rfl))))))
    | 5, _, hne => exact absurd rfl hne
    | 6, _, _ => exact Or.inl (h _ (List.mem_append_right _ (List.mem_append_right _ (List.mem_append_right _ (List.mem_append_left _ (List.mem_of_getElem? (i := 42) rfl))))))
    | 7, _, _ => exact Or.inl (h _ (List.mem_append_right _ (List.mem_append_right _ (List.mem_append_right _ (List.mem_append_left _ (List.mem_of_getElem? (i := 51) rfl))))))
    | 8, _, _ => exact Or.inl (h _ (List.mem_append_right _ (List.mem_append_right _ (List.mem_append_right _ (List.mem_append_right _ (List.mem_append_left _ (List.mem_of_getElem? (i := 2) rfl)))))))
    | 9, _, _ => exact Or.inl (h _ (List.mem_append_right _ (List.mem_append_right _ (List.mem_append_right _ (List.mem_append_right _ (List.mem_append_left _ (List.mem_of_getElem? (i := 49) rfl)))))))
    | 10, _, _ => exact Or.inl (h _ (List.mem_append_right _ (List.mem_append_right _ (List.mem_append_right _ (List.mem_append_right _ (List.mem_append_left _ (List.mem_of_getElem? (i := 20) rfl)))))))
    | 11, _, _ => exact Or.inl (h _ (List.mem_append_right _ (List.mem_append_right _ (List.mem_append_right _ (List.mem_append_right _ (List.mem_append_left _ (List.mem_of_getElem? (i := 35) rfl)))))))
    | j + 12, h, _ => exact absurd h (by omega))
  | 6, _ => exact (by
    intro j hj hne
    match j, hj, hne with
    | 0, _, _ => exact Or.inl (h _ (List.mem_append_right _ (List.mem_append_right _ (List.mem_append_right _ (List.mem_append_right _ (List.mem_append_right _ (List.mem_of_getElem? (i := 5) rfl)))))))
    | 1, _, _ => exact Or.inr (h _ (List.mem_append_right _ (List.mem_append_right _ (List.mem_append_right _ (List.mem_append_left _ (List.mem_of_getElem? (i := 38) rfl))))))
    | 2, _, _ => exact Or.inr (h _ (List.mem_append_right _ (List.mem_append_right _ (List.mem_append_right _ (List.mem_append_left _ (List.mem_of_getElem? (i := 39) rfl))))))
    | 3, _, _ => exact Or.inr (h _ (List.mem_append_right _ (List.mem_append_right _ (List.mem_append_right _ (List.mem_append_left _ (List.mem_of_getElem? (i := 40) rfl))))))
    | 4, _, _ => exact Or.inr (h _ (List.mem_append_right _ (List.mem_append_right _ (List.mem_append_right _ (List.mem_append_left _ (List.mem_of_getElem? (i := 41) rfl))))))
    | 5, _, _ => exact Or.inr (h _ (List.mem_append_right _ (List.mem_append_right _ (List.mem_append_right _ (List.mem_append_left _ (List.mem_of_getElem? (i := 42) rfl))))))
    | 6, _, hne => exact absurd rfl hne
    | 7, _, _ => exact Or.inl (h _ (List.mem_append_right _ (List.mem_append_right _ (List.mem_append_right _ (List.mem_append_left _ (List.mem_of_getElem? (i := 52) rfl))))))
    | 8, _, _ => exact Or.inl (h _ (List.mem_append_right _ (List.mem_append_right _ (List.mem_append_right _ (List.mem_append_right _ (List.mem_append_left _ (List.mem_of_getElem? (i := 3) rfl)))))))
    | 9, _, _ => exact Or.inl (h _ (List.mem_append_right _ (List.mem_append_right _ (List.mem_append_right _ (List.mem_append_right _ (List.mem_append_left _ (List.mem_of_getElem? (i := 50) rfl)))))))
    | 10, _, _ => exact Or.inl (h _ (List.mem_append_right _ (List.mem_append_right _ (List.mem_append_right _ (List.mem_append_right _ (List.mem_append_left _ (List.mem_of_getElem? (i := 21) rfl)))))))
    | 11, _, _ => exact Or.inl (h _ (List.mem_append_right _ (List.mem_append_right _ (List.mem_append_right _ (List.mem_append_right _ (List.mem_append_left _ (List.mem_of_getElem? (i := 36) rfl)))))))
    | j + 12, h, _ => exact absurd h (by omega))
  | 7, _ => exact (by
    intro j hj hne
    match j, hj, hne with
    | 0, _, _ => exact Or.inl (h _ (List.mem_append_right _ (List.mem_append_right _ (List.mem_append_right _ (List.mem_append_right _ (List.mem_append_right _ (List.mem_of_getElem? (i := 6) rfl)))))))
    | 1, _, _ => exact Or.inr (h _ (List.mem_append_right _ (List.mem_append_right _ (List.mem_append_right _ (List.mem_append_left _ (List.mem_of_getElem? (i := 47) rfl))))))
    | 2, _, _ => exact Or.inr (h _ (List.mem_append_right _ (List.mem_append_right _ (List.mem_append_right _ (List.mem_append_left _ (List.mem_of_getElem? (i := 48) rfl))))))
    | 3, _, _ => exact Or.inr (h _ (List.mem_append_right _ (List.mem_append_right _ (List.mem_append_right _ (List.mem_append_left _ (List.mem_of_getElem? (i := 49) rfl))))))
    | 4, _, _ => exact Or.inr (h _ (List.mem_append_right _ (List.mem_append_right _ (List.mem_append_right _ (List.mem_append_left _ (List.mem_of_getElem? (i := 50) rfl))))))
    | 5, _, _ => exact Or.inr (h _ (List.mem_append_right _ (List.mem_append_right _ (List.mem_append_right _ (List.mem_append_left _ (List.mem_of_getElem? (i := 51) rfl))))))
    | 6, _, _ => exact Or.inr (h _ (List.mem_append_right _ (List.mem_append_right _ (List.mem_append_right _ (List.mem_append_left _ (List.mem_of_getElem? (i := 52) rfl))))))
    | 7, _, hne => exact absurd rfl hne
    | 8, _, _ => exact Or.inl (h _ (List.mem_append_right _ (List.mem_append_right _ (List.mem_append_right _ (List.mem_append_right _ (List.mem_append_left _ (List.mem_of_getElem? (i := 4) rfl)))))))
    | 9, _, _ => exact Or.inl (h _ (List.mem_append_right _ (List.mem_append_right _ (List.mem_append_right _ (List.mem_append_right _ (List.mem_append_left _ (List.mem_of_getElem? (i := 51) rfl)))))))
    | 10, _, _ => exact Or.inl (h _ (List.mem_append_right _ (List.mem_append_right _ (List.mem_append_right _ (List.mem_append_right _ (List.mem_append_left _ (List.mem_of_getElem? (i := 22) rfl)))))))
    | 11, _, _ => exact Or.inl (h _ (List.mem_append_right _ (List.mem_append_right _ (List.mem_append_right _ (List.mem_append_right _ (List.mem_append_left _ (List.mem_of_getElem? (i := 37) rfl)))))))
    | j + 12, h, _ => exact absurd h (by omega))
  | 8, _ => exact (by
    intro j hj hne
    match j, hj, hne with
    | 0, _, _ => exact Or.inl (h _ (List.mem_append_right _ (List.mem_append_right _ (List.mem_append_right _ (List.mem_append_right _ (List.mem_append_right _ (List.mem_of_getElem? (i := 7) rfl)))))))
    | 1, _, _ => exact Or.inr (h _ (List.mem_append_right _ (List.mem_append_right _ (List.mem_append_right _ (List.mem_append_left _ (List.mem_of_getElem? (i := 58) rfl))))))
    | 2, _, _ => exact Or.inr (h _ (List.mem_append_right _ (List.mem_append_right _ (List.mem_append_right _ (List.mem_append_left _ (List.mem_of_getElem? (i := 59) rfl))))))
    | 3, _, _ => exact Or.inr (h _ (List.mem_append_right _ (List.mem_append_right _ (List.mem_append_right _ (List.mem_append_right _ (List.mem_append_left _ (List.mem_of_getElem? (i := 0) rfl)))))))
    | 4, _, _ => exact Or.inr (h _ (List.mem_append_right _ (List.mem_append_right _ (List.mem_append_right _ (List.mem_append_right _ (List.mem_append_left _ (List.mem_of_getElem? (i := 1) rfl)))))))
    | 5, _, _ => exact Or.inr (h _ (List.mem_append_right _ (List.mem_append_right _ (List.mem_append_right _ (List.mem_append_right _ (List.mem_append_left _ (List.mem_of_getElem? (i := 2) rfl)))))))
    | 6, _, _ => exact Or.inr (h _ (List.mem_append_right _ (List.mem_append_right _ (List.mem_append_right _ (List.mem_append_right _ (List.mem_append_left _ (List.mem_of_getElem? (i := 3) rfl)))))))
    | 7, _, _ => exact Or.inr (h _ (List.mem_append_right _ (List.mem_append_right _ (List.mem_append_right _ (List.mem_append_right _ (List.mem_append_left _ (List.mem_of_getElem? (i := 4) rfl)))))))
    | 8, _, hne => exact absurd rfl hne
    | 9, _, _ => exact Or.inl (h _ (List.mem_append_right _ (List.mem_append_right _ (List.mem_append_right _ (List.mem_append_right _ (List.mem_append_left _ (List.mem_of_getElem? (i := 52) rfl)))))))
    | 10, _, _ => exact Or.inl (h _ (List.mem_append_right _ (List.mem_append_right _ (List.mem_append_right _ (List.mem_append_right _ (List.mem_append_left _ (List.mem_of_getElem? (i := 23) rfl)))))))
    | 11, _, _ => exact Or.inl (h _ (List.mem_append_right _ (List.mem_append_right _ (List.mem_append_right _ (List.mem_append_right _ (List.mem_append_left _ (List.mem_of_getElem? (i := 38) rfl)))))))
    | j + 12, h, _ => exact absurd h (by omega))
  | 9, _ => exact (by
    intro j hj hne
    match j, hj, hne with
    | 0, _, _ => exact Or.inl (h _ (List.mem_append_right _ (List.mem_append_right _ (List.mem_append_right _ (List.mem_append_right _ (List.mem_append_right _ (List.mem_of_getElem? (i := 10) rfl)))))))
    | 1, _, _ => exact Or.inr (h _ (List.mem_append_right _ (List.mem_append_right _ (List.mem_append_right _ (List.mem_append_right _ (List.mem_append_left _ (List.mem_of_getElem? (i := 45) rfl)))))))
    | 2, _, _ => exact Or.inr (h _ (List.mem_append_right _ (List.mem_append_right _ (List.mem_append_right _ (List.mem_append_right _ (List.mem_append_left _ (List.mem_of_getElem? (i := 46) rfl)))))))
    | 3, _, _ => exact Or.inr (h _ (List.mem_append_right _ (List.mem_append_right _ (List.mem_append_right _ (List.mem_append_right _ (List.mem_append_left _ (List.mem_of_getElem? (i := 47) rfl)))))))
    | 4, _, _ => exact Or.inr (h _ (List.mem_append_right _ (List.mem_append_right _ (List.mem_append_right _ (List.mem_append_right _ (List.mem_append_left _ (List.mem_of_getElem? (i := 48) rfl)))))))
    | 5, _, _ => exact Or.inr (h _ (List.mem_append_right _ (List.mem_append_right _ (List.mem_append_right _ (List.mem_append_right _ (List.mem_append_left _ (List.mem_of_getElem? (i := 49) rfl)))))))
    | 6, _, _ => exact Or.inr (h _ (List.mem_append_right _ (List.mem_append_right _ (List.mem_append_right _ (List.mem_append_right _ (List.mem_append_left _ (List.mem_of_getElem? (i := 50) rfl)))))))
    | 7, _, _ => exact Or.inr (h _ (List.mem_append_right _ (List.mem_append_right _ (List.mem_append_right _ (List.mem_append_right _ (List.mem_append_left _ (List.mem_of_getElem? (i := 51) rfl)))))))
    | 8, _, _ => exact Or.inr (h _ (List.mem_append_right _ (List.mem_append_right _ (List.mem_append_right _ (List.mem_append_right _ (List.mem_append_left _ (List.mem_of_getElem? (i := 52) rfl)))))))
    | 9, _, hne => exact absurd rfl hne
    | 10, _, _ => exact Or.inr (h _ (List.mem_append_right _ (List.mem_append_right _ (List.mem_append_right _ (List.mem_append_right _ (List.mem_append_left _ (List.mem_of_getElem? (i := 53) rfl)))))))
    | 11, _, _ => exact Or.inr (h _ (List.mem_append_right _ (List.mem_append_right _ (List.mem_append_right _ (List.mem_append_right _ (List.mem_append_left _ (List.mem_of_getElem? (i := 54) rfl)))))))
    | j + 12, h, _ => exact absurd h (by omega))
  | 10, _ => exact (by
    intro j hj hne
    match j, hj, hne with
    | 0, _, _ => exact Or.inl (h _ (List.mem_append_right _ (List.mem_append_right _ (List.mem_append_right _ (List.mem_append_right _ (List.mem_append_right _ (List.mem_of_getElem? (i := 8) rfl)))))))
    | 1, _, _ => exact Or.inr (h _ (List.mem_append_right _ (List.mem_append_right _ (List.mem_append_right _ (List.mem_append_right _ (List.mem_append_left _ (List.mem_of_getElem? (i := 16) rfl)))))))
    | 2, _, _ => exact Or.inr (h _ (List.mem_append_right _ (List.mem_append_right _ (List.mem_append_right _ (List.mem_append_right _ (List.mem_append_left _ (List.mem_of_getElem? (i := 17) rfl)))))))
    | 3, _, _ => exact Or.inr (h _ (List.mem_append_right _ (List.mem_append_right _ (List.mem_append_right _ (List.mem_append_right _ (List.mem_append_left _ (List.mem_of_getElem? (i := 18) rfl)))))))
    | 4, _, _ => exact Or.inr (h _ (List.mem_append_right _ (List.mem_append_right _ (List.mem_append_right _ (List.mem_append_right _ (List.mem_append_left _ (List.mem_of_getElem? (i := 19) rfl)))))))
    | 5, _, _ => exact Or.inr (h _ (List.mem_append_right _ (List.mem_append_right _ (List.mem_append_right _ (List.mem_append_right _ (List.mem_append_left _ (List.mem_of_getElem? (i := 20) rfl)))))))
    | 6, _, _ => exact Or.inr (h _ (List.mem_append_right _ (List.mem_append_right _ (List.mem_append_right _ (List.mem_append_right _ (List.mem_append_left _ (List.mem_of_getElem? (i := 21) rfl)))))))
    | 7, _, _ => exact Or.inr (h _ (List.mem_append_right _ (List.mem_append_right _ (List.mem_append_right _ (List.mem_append_right _ (List.mem_append_left _ (List.mem_of_getElem? (i := 22) rfl)))))))
    | 8, _, _ => exact Or.inr (h _ (List.mem_append_right _ (List.mem_append_right _ (List.mem_append_right _ (List.mem_append_right _ (List.mem_append_left _ (List.mem_of_getElem? (i := 23) rfl)))))))
    | 9, _, _ => exact Or.inl (h _ (List.mem_append_right _ (List.mem_append_right _ (List.mem_append_right _ (List.mem_append_right _ (List.mem_append_left _ (List.mem_of_getElem? (i := 53) rfl)))))))
    | 10, _, hne => exact absurd rfl hne
    | 11, _, _ => exact Or.inl (h _ (List.mem_append_right _ (List.mem_append_right _ (List.mem_append_right _ (List.mem_append_right _ (List.mem_append_left _ (List.mem_of_getElem? (i := 39) rfl)))))))
    | j + 12, h, _ => exact absurd h (by omega))
  | 11, _ => exact (by
    intro j hj hne
    match j, hj, hne with
    | 0, _, _ => exact Or.inl (h _ (List.mem_append_right _ (List.mem_append_right _ (List.mem_append_right _ (List.mem_append_right _ (List.mem_append_right _ (List.mem_of_getElem? (i := 9) rfl)))))))
    | 1, _, _ => exact Or.inr (h _ (List.mem_append_right _ (List.mem_append_right _ (List.mem_append_right _ (List.mem_append_right _ (List.mem_append_left _ (List.mem_of_getElem? (i := 31) rfl)))))))
    | 2, _, _ => exact Or.inr (h _ (List.mem_append_right _ (List.mem_append_right _ (List.mem_append_right _ (List.mem_append_right _ (List.mem_append_left _ (List.mem_of_getElem? (i := 32) rfl)))))))
    | 3, _, _ => exact Or.inr (h _ (List.mem_append_right _ (List.mem_append_right _ (List.mem_append_right _ (List.mem_append_right _ (List.mem_append_left _ (List.mem_of_getElem? (i := 33) rfl)))))))
    | 4, _, _ => exact Or.inr (h _ (List.mem_append_right _ (List.mem_append_right _ (List.mem_append_right _ (List.mem_append_right _ (List.mem_append_left _ (List.mem_of_getElem? (i := 34) rfl)))))))
    | 5, _, _ => exact Or.inr (h _ (List.mem_append_right _ (List.mem_append_right _ (List.mem_append_right _ (List.mem_append_right _ (List.mem_append_left _ (List.mem_of_getElem? (i := 35) rfl)))))))
    | 6, _, _ => exact Or.inr (h _ (List.mem_append_right _ (List.mem_append_right _ (List.mem_append_right _ (List.mem_append_right _ (List.mem_append_left _ (List.mem_of_getElem? (i := 36) rfl)))))))
    | 7, _, _ => exact Or.inr (h _ (List.mem_append_right _ (List.mem_append_right _ (List.mem_append_right _ (List.mem_append_right _ (List.mem_append_left _ (List.mem_of_getElem? (i := 37) rfl)))))))
    | 8, _, _ => exact Or.inr (h _ (List.mem_append_right _ (List.mem_append_right _ (List.mem_append_right _ (List.mem_append_right _ (List.mem_append_left _ (List.mem_of_getElem? (i := 38) rfl)))))))
    | 9, _, _ => exact Or.inl (h _ (List.mem_append_right _ (List.mem_append_right _ (List.mem_append_right _ (List.mem_append_right _ (List.mem_append_left _ (List.mem_of_getElem? (i := 54) rfl)))))))
    | 10, _, _ => exact Or.inr (h _ (List.mem_append_right _ (List.mem_append_right _ (List.mem_append_right _ (List.mem_append_right _ (List.mem_append_left _ (List.mem_of_getElem? (i := 39) rfl)))))))
    | 11, _, hne => exact absurd rfl hne
    | j + 12, h, _ => exact absurd h (by omega))
  | i + 12, h => exact absurd h (by omega)
theorem mm_s7 {args : Array Value} {s : State} (h : ∀ w ∈ mm_nl, w.before args s = true) : ∀ q ∈ mm_NC, va_Nc q.1 q.2 s := List.forall_mem_cons.mpr ⟨va_Nc.of (h _ (List.mem_append_left _ (List.mem_of_getElem? (i := 17) rfl))), List.forall_mem_cons.mpr ⟨va_Nc.of (h _ (List.mem_append_left _ (List.mem_of_getElem? (i := 14) rfl))), List.forall_mem_cons.mpr ⟨va_Nc.of (h _ (List.mem_append_left _ (List.mem_of_getElem? (i := 15) rfl))), List.forall_mem_cons.mpr ⟨va_Nc.of (h _ (List.mem_append_left _ (List.mem_of_getElem? (i := 16) rfl))), List.forall_mem_cons.mpr ⟨va_Nc.of (h _ (List.mem_append_left _ (List.mem_of_getElem? (i := 13) rfl))), List.forall_mem_cons.mpr ⟨va_Nc.of (h _ (List.mem_append_left _ (List.mem_of_getElem? (i := 28) rfl))), List.forall_mem_cons.mpr ⟨va_Nc.of (h _ (List.mem_append_left _ (List.mem_of_getElem? (i := 25) rfl))), List.forall_mem_cons.mpr ⟨va_Nc.of (h _ (List.mem_append_left _ (List.mem_of_getElem? (i := 24) rfl))), List.forall_mem_cons.mpr ⟨va_Nc.of (h _ (List.mem_append_left _ (List.mem_of_getElem? (i := 26) rfl))), List.forall_mem_cons.mpr ⟨va_Nc.of (h _ (List.mem_append_left _ (List.mem_of_getElem? (i := 27) rfl))), List.forall_mem_cons.mpr ⟨va_Nc.of (h _ (List.mem_append_left _ (List.mem_of_getElem? (i := 39) rfl))), List.forall_mem_cons.mpr ⟨va_Nc.of (h _ (List.mem_append_left _ (List.mem_of_getElem? (i := 38) rfl))), List.forall_mem_cons.mpr ⟨va_Nc.of (h _ (List.mem_append_left _ (List.mem_of_getElem? (i := 35) rfl))), List.forall_mem_cons.mpr ⟨va_Nc.of (h _ (List.mem_append_left _ (List.mem_of_getElem? (i := 37) rfl))), List.forall_mem_cons.mpr ⟨va_Nc.of (h _ (List.mem_append_left _ (List.mem_of_getElem? (i := 36) rfl))), List.forall_mem_cons.mpr ⟨va_Nc.of (h _ (List.mem_append_left _ (List.mem_of_getElem? (i := 51) rfl))), List.forall_mem_cons.mpr ⟨va_Nc.of (h _ (List.mem_append_left _ (List.mem_of_getElem? (i := 48) rfl))), List.forall_mem_cons.mpr ⟨va_Nc.of (h _ (List.mem_append_left _ (List.mem_of_getElem? (i := 49) rfl))), List.forall_mem_cons.mpr ⟨va_Nc.of (h _ (List.mem_append_left _ (List.mem_of_getElem? (i := 46) rfl))), List.forall_mem_cons.mpr ⟨va_Nc.of (h _ (List.mem_append_left _ (List.mem_of_getElem? (i := 50) rfl))), List.forall_mem_cons.mpr ⟨va_Nc.of (h _ (List.mem_append_left _ (List.mem_of_getElem? (i := 47) rfl))), List.forall_mem_cons.mpr ⟨va_Nc.of (h _ (List.mem_append_right _ (List.mem_append_left _ (List.mem_of_getElem? (i := 3) rfl)))), List.forall_mem_cons.mpr ⟨va_Nc.of (h _ (List.mem_append_right _ (List.mem_append_left _ (List.mem_of_getElem? (i := 0) rfl)))), List.forall_mem_cons.mpr ⟨va_Nc.of (h _ (List.mem_append_left _ (List.mem_of_getElem? (i := 58) rfl))), List.forall_mem_cons.mpr ⟨va_Nc.of (h _ (List.mem_append_right _ (List.mem_append_left _ (List.mem_of_getElem? (i := 1) rfl)))), List.forall_mem_cons.mpr ⟨va_Nc.of (h _ (List.mem_append_right _ (List.mem_append_left _ (List.mem_of_getElem? (i := 2) rfl)))), List.forall_mem_cons.mpr ⟨va_Nc.of (h _ (List.mem_append_left _ (List.mem_of_getElem? (i := 59) rfl))), List.forall_mem_cons.mpr ⟨va_Nc.of (h _ (List.mem_append_right _ (List.mem_append_left _ (List.mem_of_getElem? (i := 15) rfl)))), List.forall_mem_cons.mpr ⟨va_Nc.of (h _ (List.mem_append_right _ (List.mem_append_left _ (List.mem_of_getElem? (i := 12) rfl)))), List.forall_mem_cons.mpr ⟨va_Nc.of (h _ (List.mem_append_right _ (List.mem_append_left _ (List.mem_of_getElem? (i := 14) rfl)))), List.forall_mem_cons.mpr ⟨va_Nc.of (h _ (List.mem_append_right _ (List.mem_append_left _ (List.mem_of_getElem? (i := 10) rfl)))), List.forall_mem_cons.mpr ⟨va_Nc.of (h _ (List.mem_append_right _ (List.mem_append_left _ (List.mem_of_getElem? (i := 13) rfl)))), List.forall_mem_cons.mpr ⟨va_Nc.of (h _ (List.mem_append_right _ (List.mem_append_left _ (List.mem_of_getElem? (i := 11) rfl)))), fun _ hh => absurd hh List.not_mem_nil⟩⟩⟩⟩⟩⟩⟩⟩⟩⟩⟩⟩⟩⟩⟩⟩⟩⟩⟩⟩⟩⟩⟩⟩⟩⟩⟩⟩⟩⟩⟩⟩⟩
theorem mm_s8 {args : Array Value} {s : State} (h : ∀ w ∈ mm_nl, w.before args s = true) : (Cond.eq (.static "java/lang/String" "COMPACT_STRINGS" "Z") (.int 1)).before args s = true := h _ (List.mem_append_left _ (List.mem_of_getElem? (i := 2) rfl))
theorem mm_s9 {args : Array Value} {s : State} (h : ∀ w ∈ mm_nl, w.before args s = true) : (Cond.isRef (.static "jdk/internal/util/Preconditions" "SIOOBE_FORMATTER" "Ljava/util/function/BiFunction;")).before args s = true := h _ (List.mem_append_left _ (List.mem_of_getElem? (i := 3) rfl))
end
section
/-! THE CLAIM OUT OF ONE WALK OF THE LAW'S BODY. Your part is whole_start (and what it stands on); all else here is the same for every law, but numbers. -/
def R_law : String := "PennyMoreLaw"
def lw_P (b : Addr) (xs : List Int32) (args : Array Value) (s : State) : Prop := args = #[.ref b] ∧ s.IntsAt b xs ∧ xs.length ≤ 3072 ∧ (Jvm.Cond.and given_1 narrow_1).before args s = true
def lw_Q (_ : Array Value) (s : State) (o : Outcome) (t : State) : Prop := o = .returned (some (.int 1)) ∧ Framed s o t [] 600000 7302250
def lw_Z (below : List Frame) (a : Array Value) (s : State) : State → Prop := fun t => ∃ o, t.status = .running ∧ Ended t below o ∧ lw_Q a s o t
/-- the law's own end, with 1 on the stack, nothing written that was there before, its room as the claim has it -/
theorem lw_ret {p : Program} {l : Launch} {e : Env} {s : State} {m : MethodId} {below : List Frame} {meth : Method} {c : Code} {b : Nat} (hx : p.tables.exec = Jvm.exec) (hb : c.code = code) (hr : meth.sig.returnType = ret) (hlocks : meth.locks = false) {pc : Nat} {H : Heap} {ls : Array Slot} (hdg : decode code pc = .ok (.ireturn, 1)) : W p l e room_1 s m #[Value.ref b] below meth c H [] 600000 7302250 (lw_Z below #[Value.ref b] s) (F0 m pc ls [.int 1]) := by
  intro T hT X
  obtain ⟨fs, hret, hrun, hended, hW, hframe⟩ := X.leave (v := some (.int 1)) (hlocks := hlocks) (fun h => by rw [hr] at h; cases h)
  have hmeth' : T.vm.method? m = some meth := X.method'
  refine ⟨T.setFrames fs, ?_, .returned (some (.int 1)), hrun, hended, rfl, ⟨_, rfl⟩, hW, hframe⟩
  jvm_step X.here [X.here.top, hx, hb, hdg, hmeth', hr, ret, narrow_b1]
  (try refine ⟨rfl, ?_⟩); (try refine ⟨rfl, ?_⟩)
  first | (intro acts; rw [hret _ acts rfl rfl rfl]) | rw [hret _ _ rfl rfl rfl]
  exact Steps.refl _
/-- what holds at the law's entry: the machine, the code, the tables' words (any of lw_tbl by 'hts w (by decide +kernel)'), the script of L ints xs at the cell b, what the Statement gives of the start (any of its parts by flat_of_before) -/
def lw_At (p : Program) (s : State) (m : MethodId) (meth : Method) (c : Code) (b L : Nat) (xs : Nat → Int32) : Prop :=
  p.tables.exec = Jvm.exec ∧ c.code = code ∧ meth.sig.returnType = ret ∧ c.maxLocals = 4 ∧ s.vm.findClass R_law = some m.cls ∧ (∀ w ∈ lw_tbl, w.before #[Value.ref b] s = true) ∧ va_X b L xs s s.heap ∧ b < s.heap.size ∧ meth.locks = false ∧ (Jvm.Cond.and given_1 narrow_1).before #[Value.ref b] s = true
/-- the small machine's start: no cell but the script -/
def mm_S0 (L : Nat) (xs : Nat → Int32) : mm_S := (fun a => if a = mm_SC then xs else fun _ => 0, fun _ _ => 0, fun _ _ => none, fun _ => 99, fun a => if a = mm_SC then L else 0, 0, 0)
theorem mm_start (hlaw : ∀ (xs : Nat → Int32) (L : Nat), L ≤ 3072 → ∃ S', mm_ex 30 mm_nc 0 [.ref mm_SC, .null, .null, .null] [] (mm_S0 L xs) = some (some (.int 1), S') ∧ mm_n S' ≤ 600000 ∧ mm_z S' ≤ 7302250) {p : Program} {e : Env} {s : State} {m : MethodId} {below : List Frame} {meth : Method} {c : Code} (l : Launch) {b L : Nat} {xs : Nat → Int32} (hL : L ≤ 3072) (C0 : lw_At p s m meth c b L xs) : W p l e room_1 s m #[Value.ref b] below meth c s.heap [] 0 0 (lw_Z below #[Value.ref b] s) (entryFrame m ([Value.ref b] : List Value).toArray 4) := by
  obtain ⟨hx, hb, hr, hml, hown, hts, hX, hbl, hlocks, hgv⟩ := id C0
  have htsG : ∀ w ∈ mm_G, w.before #[Value.ref b] s = true := fun w hw => hts w (List.mem_filter.mp hw).1
  have hnl : ∀ w ∈ mm_nl, w.before #[Value.ref b] s = true := fun w hw => flat_of_before _ hgv w (show w ∈ flatC given_1 ++ flatC narrow_1 from List.mem_append_right _ (by rw [mm_flat]; exact hw))
  have hA : ∀ a : Nat, a < s.heap.size → ¬ (fun q : Nat => s.heap.size ≤ q) a := fun a h => Nat.not_le.mpr h
  obtain ⟨adK, adV, hSt, hev⟩ := vk_Sof (s := s) (args := #[Value.ref b]) (N := 12) (tm := fun i => .string "PennyMore$Reader" (mm_sx i).1) (len := mm_sl) (byt := mm_sb) (A := fun q : Nat => s.heap.size ≤ q) (by decide +kernel) (mm_s1 hnl) (mm_s2 hnl) (mm_s3 hnl) (mm_s4 hnl) (mm_s5 hnl) (fun i j hi hj hij => mm_s6 hnl i hi j hj hij) hA
  obtain ⟨z, hz, hzc⟩ : ∃ z : Value, va_Z "jdk/internal/util/Preconditions" "SIOOBE_FORMATTER" "Ljava/util/function/BiFunction;" z (fun q : Nat => s.heap.size ≤ q) s s.heap ∧ z.category = 1 := by
    rcases va_Zqof (hts _ mm_gs6) (htsG _ mm_gi2) (mm_s9 hnl) hA with h | ⟨t, h⟩
    · exact ⟨_, h, rfl⟩
    · exact ⟨_, h, rfl⟩
  obtain ⟨aa, ha1, ha2, ha3⟩ : ∃ aa : Nat → Nat, (∀ k, k < 12 → aa (1000000 + 2 * k) = adK k) ∧ (∀ k, k < 12 → aa (1000000 + 2 * k + 1) = adV k) ∧ aa mm_SC = b := by
    refine ⟨fun a => if a = mm_SC then b else if a % 2 = 0 then adK (a % 1000000 / 2) else adV (a % 1000000 / 2), fun k hk => ?_, fun k hk => ?_, ?_⟩
    · have e1 : ¬ (1000000 + 2 * k = mm_SC) := by show ¬ (1000000 + 2 * k = 3000000); omega
      have e2 : (1000000 + 2 * k) % 2 = 0 := by rw [Nat.add_mul_mod_self_left]
      have e3 : (1000000 + 2 * k) % 1000000 / 2 = k := by rw [Nat.add_mod_left, Nat.mod_eq_of_lt (by omega)]; omega
      simp only [if_neg e1, if_pos e2, e3]
    · have e1 : ¬ (1000000 + 2 * k + 1 = mm_SC) := by show ¬ (1000000 + 2 * k + 1 = 3000000); omega
      have e2 : ¬ (1000000 + 2 * k + 1) % 2 = 0 := by rw [Nat.add_right_comm, Nat.add_mul_mod_self_left]; decide
      have e3 : (1000000 + 2 * k + 1) % 1000000 / 2 = k := by rw [Nat.add_assoc, Nat.add_mod_left, Nat.mod_eq_of_lt (by omega)]; omega
      simp only [if_neg e1, if_neg e2, e3]
    · simp
  have hEv : mm_Ev z aa (fun q : Nat => s.heap.size ≤ q) s s.heap := by
    refine ⟨⟨fun i hi => ?_, fun i j hi hj h => ?_⟩, fun k hk => ?_, va_Zof (hts _ mm_gs5) (htsG _ mm_gi1) (va_eqi (mm_s8 hnl)) hA, hz, hzc, mm_s7 hnl, fun q hq => va_Nw.of rfl (hts _ (mm_E1_ok q hq)), fun q hq => va_AO.of (hts _ (mm_E2_ok q hq)), fun q hq => va_Nw.of rfl (hts _ (mm_E3_ok q hq))⟩
    · have h := hSt.1 i hi
      simp only [ha1 i hi, ha2 i hi]
      exact h
    · simp only [ha1 i hi, ha1 j hj] at h
      exact hSt.2 i j hi hj h
    · rw [ha1 k hk]
      exact vk_R.of (hts _ (mm_strw k hk)) (hev k hk)
  have hkn : ∀ k, ∃ q : ClassId × (Nat → Nat), k < 13 → u_Kn s (mm_ck k) (mm_T k) (mm_NF k) q.1 q.2 := by
    intro k
    by_cases hk : k < 13
    · obtain ⟨n, hn⟩ := mm_inst k hk
      obtain ⟨cC, iS, h⟩ := u_known (C := mm_ck k) (T := mm_T k) (N := mm_NF k) (n := n) htsG (mm_uws k hk) (htsG _ hn)
      exact ⟨(cC, iS), fun _ => h⟩
    · exact ⟨(0, fun _ => 0), fun h => absurd h hk⟩
  obtain ⟨D, hD⟩ : ∃ D : va_G, ∀ k, k < 13 → u_Kn s (mm_ck k) (mm_T k) (mm_NF k) (D.1 k) (D.2 k) := ⟨(fun k => (Classical.choose (hkn k)).1, fun k => (Classical.choose (hkn k)).2), fun k hk => Classical.choose_spec (hkn k) hk⟩
  have harr : ∀ ty : FieldType, (Cond.arrayClass ty).before #[Value.ref b] s = true → ∃ cA : ClassId, ArrOfT s cA ty ∧ s.vm.findClass ("[" ++ ty.toString) = some cA := by
    intro ty h
    obtain ⟨c, k, comp, h1, h2, h3⟩ := Cond.arrayClass_spec h
    exact ⟨c, fun n v => ⟨fun k h => (by cases h), k, h2, comp, h3⟩, h1⟩
  have harq : ∀ C : String, (Cond.arrayOver (.object C)).before #[Value.ref b] s = true → ∃ cA : ClassId, ArrOfT s cA (.object C) ∧ va_RA s cA (.object C) := by
    intro C h
    obtain ⟨comp, c, k, h1, -, h3, h4, h5⟩ := Cond.arrayOver_spec h
    exact ⟨c, fun n v => ⟨fun k h => (by cases h), k, h3, comp, h4⟩, k, comp, h3, h4, h1, h5⟩
  obtain ⟨ci, hi1, hi2⟩ := harr .int (htsG _ mm_ar_i)
  obtain ⟨cj, hj1, hj2⟩ := harr .long (htsG _ mm_ar_j)
  obtain ⟨cz, hz1, hz2⟩ := harr .boolean (htsG _ mm_ar_z)
  obtain ⟨cb, hb1, hb2⟩ := harq "PennyMore$Buyer" (hts _ (mm_E2_ok _ (by decide)))
  obtain ⟨cs, hs1, hs2⟩ := harq "PennyMore$Shop" (hts _ (mm_E2_ok _ (by decide)))
  obtain ⟨ct, ht1, ht2⟩ := harq "PennyMore$Tape" (hts _ (mm_E2_ok _ (by decide)))
  obtain ⟨ca, hca⟩ : ∃ ca : Nat → ClassId, mm_ats ca = [(ci, .int), (cj, .long), (cz, .boolean), (cb, .object "PennyMore$Buyer"), (cs, .object "PennyMore$Shop"), (ct, .object "PennyMore$Tape")] := ⟨fun k => if k = 13 then ci else if k = 14 then cj else if k = 15 then cz else if k = 16 then cb else if k = 17 then cs else ct, rfl⟩
  have hK : va_K D mm_cl_s (mm_ats ca) s := by
    refine ⟨fun k q hq => ?_, fun k q hq => ?_⟩
    · have hk : k < 13 := (List.getElem?_eq_some_iff.mp hq).1
      rw [mm_cls_get k hk] at hq
      cases hq
      exact hD k hk
    · rw [hca] at hq
      match k, hq with
      | 0, hq => cases hq; exact ⟨hi1, hi2⟩
      | 1, hq => cases hq; exact ⟨hj1, hj2⟩
      | 2, hq => cases hq; exact ⟨hz1, hz2⟩
      | 3, hq => cases hq; exact ⟨hb1, hb2⟩
      | 4, hq => cases hq; exact ⟨hs1, hs2⟩
      | 5, hq => cases hq; exact ⟨ht1, ht2⟩
      | k + 6, hq => simp at hq
  obtain ⟨S', hex, hn1, hz1'⟩ := hlaw xs L hL
  obtain ⟨f, hf⟩ := mm_ex_iff.mp hex
  rw [lg_entry_eq]
  have hle := mm_en_Lr (aa := aa) (z := z) hzc (as := [.ref mm_SC]) (n := 4) (by decide)
  have hmap : ([.ref mm_SC] : List Value).map (mm_ad aa z) = [.ref b] := by
    rw [List.map_cons, mm_ad_ref, ha3]; rfl
  rw [hmap] at hle
  have hnil : mm_ws ca aa (mm_S0 L xs) = [] := rfl
  refine mm_frame f p l e room_1 s m #[Value.ref b] below meth c _ D ca z (fun q : Nat => s.heap.size ≤ q) mm_tl (L, xs) 30 mm_nc 0 [.ref mm_SC, .null, .null, .null] [] (mm_S0 L xs) (some (.int 1)) S' aa s.heap [] _ 0 0 rfl hf
    ⟨hx, hb, hml, hown, htsG, fun h => absurd h (by decide), rfl, hK, fun q h => h, by decide, by decide⟩
    ⟨by rw [hnil]; exact fun k q h => by simp at h, by rw [hnil]; exact ⟨fun i j p q h => by simp at h, fun k q h => by simp at h⟩, va_S.rf, ⟨fun i hi => absurd hi (Nat.not_lt_zero i), Nat.zero_le _⟩, hEv, rfl, rfl, fun _ => by rw [ha3]; exact ⟨hX, hbl, Nat.not_le.mpr hbl⟩⟩
    ⟨mm_p1 (Or.inr (by decide)) (mm_p1 trivial (mm_p1 trivial (mm_p1 trivial (fun w h => by cases h)))), (fun w h => by cases h), hle⟩ (by show 0 + mm_n S' ≤ 600000 + 0; omega) (by show 0 + mm_z S' ≤ 7302250 + 0; omega) ?_
  intro pc' aa' H' locs' lm' cells' slots' h1 h2 h3 h4 h5 h6
  have h1 : cells' + 0 = 0 + mm_n S' := h1
  have h2 : slots' + 0 = 0 + mm_z S' := h2
  refine W.widen (k := 600000) (n := 7302250) (by omega) (by omega) ?_
  refine va_forget (fun q hq => h5.2.2.1.2.2 q hq) ?_
  exact lw_ret hx hb hr hlocks h4.1
end
section
/-! ===== the small machine's instructions as equations ===== -/
section MX
variable {d y pc : Nat} {ls st : List Value} {S : mm_S} {t : mm_mT}
theorem mm_nn {S : mm_S} : mm_n S ≤ mm_n S ∧ mm_z S ≤ mm_z S := ⟨Nat.le_refl _, Nat.le_refl _⟩
theorem mx_iconst (ht : mm_mt[y]? = some t) {n : Int} {v : Int32} (hd : decode t.2.1 pc = .ok (.iconst n, 1)) (hv : Int32.ofInt n = v) : mm_ex d y pc ls st S = mm_ex d y (pc + 1) ls (.int v :: st) S := by
  subst hv
  exact mm_ex_go ht hd rfl rfl mm_nn
theorem mx_bipush (ht : mm_mt[y]? = some t) {n : Int} {v : Int32} (hd : decode t.2.1 pc = .ok (.bipush n, 2)) (hv : (Int8.ofInt n).toInt32 = v) : mm_ex d y pc ls st S = mm_ex d y (pc + 2) ls (.int v :: st) S := by
  subst hv
  exact mm_ex_go ht hd rfl rfl mm_nn
theorem mx_sipush (ht : mm_mt[y]? = some t) {n : Int} {v : Int32} (hd : decode t.2.1 pc = .ok (.sipush n, 3)) (hv : (Int16.ofInt n).toInt32 = v) : mm_ex d y pc ls st S = mm_ex d y (pc + 3) ls (.int v :: st) S := by
  subst hv
  exact mm_ex_go ht hd rfl rfl mm_nn
theorem mx_lconst (ht : mm_mt[y]? = some t) {n : Fin 2} {v : Int64} (hd : decode t.2.1 pc = .ok (.lconst n, 1)) (hv : Int64.ofNat (n : Nat) = v) : mm_ex d y pc ls st S = mm_ex d y (pc + 1) ls (.long v :: st) S := by
  subst hv
  exact mm_ex_go ht hd rfl rfl mm_nn
theorem mx_ldc (ht : mm_mt[y]? = some t) {i : Nat} {v : Value} (hd : decode t.2.1 pc = .ok (.ldc i, 2)) (hv : mm_fd mm_LC t.2.2.2.2 i = some v) : mm_ex d y pc ls st S = mm_ex d y (pc + 2) ls (v :: st) S :=
  mm_ex_go ht hd rfl (by unfold mm_st; simp only [hv]) mm_nn
theorem mx_ldc_w (ht : mm_mt[y]? = some t) {i : Nat} {v : Int32} (hd : decode t.2.1 pc = .ok (.ldc_w i, 3)) (hv : mm_fd mm_LC t.2.2.2.2 i = some (.int v)) : mm_ex d y pc ls st S = mm_ex d y (pc + 3) ls (.int v :: st) S :=
  mm_ex_go ht hd rfl (by unfold mm_st; simp only [hv]) mm_nn
theorem mx_ldc2_w (ht : mm_mt[y]? = some t) {i : Nat} {v : Int64} (hd : decode t.2.1 pc = .ok (.ldc2_w i, 3)) (hv : mm_fd mm_L2 t.2.2.2.2 i = some v) : mm_ex d y pc ls st S = mm_ex d y (pc + 3) ls (.long v :: st) S :=
  mm_ex_go ht hd rfl (by unfold mm_st; simp only [hv]) mm_nn
theorem mx_iload_n (ht : mm_mt[y]? = some t) {k : Fin 4} {x : Int32} (hd : decode t.2.1 pc = .ok (.iload_n k, 1)) (hv : mm_lg ls k = .int x) : mm_ex d y pc ls st S = mm_ex d y (pc + 1) ls (.int x :: st) S :=
  mm_ex_go ht hd rfl (by unfold mm_st; simp only [hv]; rfl) mm_nn
theorem mx_iload (ht : mm_mt[y]? = some t) {k : Nat} {x : Int32} (hd : decode t.2.1 pc = .ok (.iload k, 2)) (hv : mm_lg ls k = .int x) : mm_ex d y pc ls st S = mm_ex d y (pc + 2) ls (.int x :: st) S :=
  mm_ex_go ht hd rfl (by unfold mm_st; simp only [hv]; rfl) mm_nn
theorem mx_lload_n (ht : mm_mt[y]? = some t) {k : Fin 4} {x : Int64} (hd : decode t.2.1 pc = .ok (.lload_n k, 1)) (hv : mm_lg ls k = .long x) : mm_ex d y pc ls st S = mm_ex d y (pc + 1) ls (.long x :: st) S :=
  mm_ex_go ht hd rfl (by unfold mm_st; simp only [hv]; rfl) mm_nn
theorem mx_lload (ht : mm_mt[y]? = some t) {k : Nat} {x : Int64} (hd : decode t.2.1 pc = .ok (.lload k, 2)) (hv : mm_lg ls k = .long x) : mm_ex d y pc ls st S = mm_ex d y (pc + 2) ls (.long x :: st) S :=
  mm_ex_go ht hd rfl (by unfold mm_st; simp only [hv]; rfl) mm_nn
theorem mx_aload_n (ht : mm_mt[y]? = some t) {k : Fin 4} {x : Nat} (hd : decode t.2.1 pc = .ok (.aload_n k, 1)) (hv : mm_lg ls k = .ref x) : mm_ex d y pc ls st S = mm_ex d y (pc + 1) ls (.ref x :: st) S :=
  mm_ex_go ht hd rfl (by unfold mm_st; simp only [hv]; rfl) mm_nn
theorem mx_aload (ht : mm_mt[y]? = some t) {k : Nat} {x : Nat} (hd : decode t.2.1 pc = .ok (.aload k, 2)) (hv : mm_lg ls k = .ref x) : mm_ex d y pc ls st S = mm_ex d y (pc + 2) ls (.ref x :: st) S :=
  mm_ex_go ht hd rfl (by unfold mm_st; simp only [hv]; rfl) mm_nn
theorem mm_gdt {b : Bool} {A : mm_Act} (h : b = true) : mm_gd b A = A := if_pos h
theorem mx_istore_n (ht : mm_mt[y]? = some t) {k : Fin 4} {x : Int32} {ls' : List Value} (hd : decode t.2.1 pc = .ok (.istore_n k, 1)) (hk : decide ((k : Nat) < ls.length) = true) (hl : mm_l1 ls k (.int x) = ls') : mm_ex d y pc ls (.int x :: st) S = mm_ex d y (pc + 1) ls' st S := by
  subst hl
  exact mm_ex_go ht hd rfl (mm_gdt hk) mm_nn
theorem mx_istore (ht : mm_mt[y]? = some t) {k : Nat} {x : Int32} {ls' : List Value} (hd : decode t.2.1 pc = .ok (.istore k, 2)) (hk : decide (k < ls.length) = true) (hl : mm_l1 ls k (.int x) = ls') : mm_ex d y pc ls (.int x :: st) S = mm_ex d y (pc + 2) ls' st S := by
  subst hl
  exact mm_ex_go ht hd rfl (mm_gdt hk) mm_nn
theorem mx_lstore_n (ht : mm_mt[y]? = some t) {k : Fin 4} {x : Int64} {ls' : List Value} (hd : decode t.2.1 pc = .ok (.lstore_n k, 1)) (hk : decide ((k : Nat) + 1 < ls.length) = true) (hl : mm_l2 ls k (.long x) = ls') : mm_ex d y pc ls (.long x :: st) S = mm_ex d y (pc + 1) ls' st S := by
  subst hl
  exact mm_ex_go ht hd rfl (mm_gdt hk) mm_nn
theorem mx_lstore (ht : mm_mt[y]? = some t) {k : Nat} {x : Int64} {ls' : List Value} (hd : decode t.2.1 pc = .ok (.lstore k, 2)) (hk : decide (k + 1 < ls.length) = true) (hl : mm_l2 ls k (.long x) = ls') : mm_ex d y pc ls (.long x :: st) S = mm_ex d y (pc + 2) ls' st S := by
  subst hl
  exact mm_ex_go ht hd rfl (mm_gdt hk) mm_nn
theorem mx_astore_n (ht : mm_mt[y]? = some t) {k : Fin 4} {x : Nat} {ls' : List Value} (hd : decode t.2.1 pc = .ok (.astore_n k, 1)) (hk : decide ((k : Nat) < ls.length) = true) (hl : mm_l1 ls k (.ref x) = ls') : mm_ex d y pc ls (.ref x :: st) S = mm_ex d y (pc + 1) ls' st S := by
  subst hl
  exact mm_ex_go ht hd rfl (mm_gdt hk) mm_nn
theorem mx_astore (ht : mm_mt[y]? = some t) {k : Nat} {x : Nat} {ls' : List Value} (hd : decode t.2.1 pc = .ok (.astore k, 2)) (hk : decide (k < ls.length) = true) (hl : mm_l1 ls k (.ref x) = ls') : mm_ex d y pc ls (.ref x :: st) S = mm_ex d y (pc + 2) ls' st S := by
  subst hl
  exact mm_ex_go ht hd rfl (mm_gdt hk) mm_nn
theorem mx_iinc (ht : mm_mt[y]? = some t) {k : Nat} {n : Int} {x v : Int32} {ls' : List Value} (hd : decode t.2.1 pc = .ok (.iinc k n, 3)) (hv : mm_lg ls k = .int x) (hk : decide (k < ls.length) = true) (hn : Int32.ofInt n = v) (hl : mm_l1 ls k (.int (x + v)) = ls') : mm_ex d y pc ls st S = mm_ex d y (pc + 3) ls' st S := by
  subst hl hn
  exact mm_ex_go ht hd rfl (by unfold mm_st; simp only [hv]; exact mm_gdt hk) mm_nn
theorem mx_iadd (ht : mm_mt[y]? = some t) {a b : Int32} (hd : decode t.2.1 pc = .ok (.iadd, 1)) : mm_ex d y pc ls (.int b :: .int a :: st) S = mm_ex d y (pc + 1) ls (.int (a + b) :: st) S := mm_ex_go ht hd rfl rfl mm_nn
theorem mx_isub (ht : mm_mt[y]? = some t) {a b : Int32} (hd : decode t.2.1 pc = .ok (.isub, 1)) : mm_ex d y pc ls (.int b :: .int a :: st) S = mm_ex d y (pc + 1) ls (.int (a - b) :: st) S := mm_ex_go ht hd rfl rfl mm_nn
theorem mx_imul (ht : mm_mt[y]? = some t) {a b : Int32} (hd : decode t.2.1 pc = .ok (.imul, 1)) : mm_ex d y pc ls (.int b :: .int a :: st) S = mm_ex d y (pc + 1) ls (.int (a * b) :: st) S := mm_ex_go ht hd rfl rfl mm_nn
theorem mx_iand (ht : mm_mt[y]? = some t) {a b : Int32} (hd : decode t.2.1 pc = .ok (.iand, 1)) : mm_ex d y pc ls (.int b :: .int a :: st) S = mm_ex d y (pc + 1) ls (.int (a &&& b) :: st) S := mm_ex_go ht hd rfl rfl mm_nn
theorem mx_ior (ht : mm_mt[y]? = some t) {a b : Int32} (hd : decode t.2.1 pc = .ok (.ior, 1)) : mm_ex d y pc ls (.int b :: .int a :: st) S = mm_ex d y (pc + 1) ls (.int (a ||| b) :: st) S := mm_ex_go ht hd rfl rfl mm_nn
theorem mx_ixor (ht : mm_mt[y]? = some t) {a b : Int32} (hd : decode t.2.1 pc = .ok (.ixor, 1)) : mm_ex d y pc ls (.int b :: .int a :: st) S = mm_ex d y (pc + 1) ls (.int (a ^^^ b) :: st) S := mm_ex_go ht hd rfl rfl mm_nn
theorem mx_ishl (ht : mm_mt[y]? = some t) {a b : Int32} (hd : decode t.2.1 pc = .ok (.ishl, 1)) : mm_ex d y pc ls (.int b :: .int a :: st) S = mm_ex d y (pc + 1) ls (.int (a <<< (b &&& 31)) :: st) S := mm_ex_go ht hd rfl rfl mm_nn
theorem mx_ishr (ht : mm_mt[y]? = some t) {a b : Int32} (hd : decode t.2.1 pc = .ok (.ishr, 1)) : mm_ex d y pc ls (.int b :: .int a :: st) S = mm_ex d y (pc + 1) ls (.int (a >>> (b &&& 31)) :: st) S := mm_ex_go ht hd rfl rfl mm_nn
theorem mx_iushr (ht : mm_mt[y]? = some t) {a b : Int32} (hd : decode t.2.1 pc = .ok (.iushr, 1)) : mm_ex d y pc ls (.int b :: .int a :: st) S = mm_ex d y (pc + 1) ls (.int (a.toUInt32 >>> (b.toUInt32 &&& Int32.toUInt32 31)).toInt32 :: st) S := mm_ex_go ht hd rfl rfl mm_nn
theorem mx_idiv (ht : mm_mt[y]? = some t) {a b : Int32} (hd : decode t.2.1 pc = .ok (.idiv, 1)) (h : ¬ b = nI 0) : mm_ex d y pc ls (.int b :: .int a :: st) S = mm_ex d y (pc + 1) ls (.int (a / b) :: st) S := mm_ex_go ht hd rfl (mm_gdt (by have h1 : ¬ b = 0 := h; simp [h1])) mm_nn
theorem mx_irem (ht : mm_mt[y]? = some t) {a b : Int32} (hd : decode t.2.1 pc = .ok (.irem, 1)) (h : ¬ b = nI 0) : mm_ex d y pc ls (.int b :: .int a :: st) S = mm_ex d y (pc + 1) ls (.int (a - a / b * b) :: st) S := mm_ex_go ht hd rfl (mm_gdt (by have h1 : ¬ b = 0 := h; simp [h1])) mm_nn
theorem mx_ineg (ht : mm_mt[y]? = some t) {a : Int32} (hd : decode t.2.1 pc = .ok (.ineg, 1)) : mm_ex d y pc ls (.int a :: st) S = mm_ex d y (pc + 1) ls (.int (-a) :: st) S := mm_ex_go ht hd rfl rfl mm_nn
theorem mx_i2l (ht : mm_mt[y]? = some t) {a : Int32} (hd : decode t.2.1 pc = .ok (.i2l, 1)) : mm_ex d y pc ls (.int a :: st) S = mm_ex d y (pc + 1) ls (.long a.toInt64 :: st) S := mm_ex_go ht hd rfl rfl mm_nn
theorem mx_i2b (ht : mm_mt[y]? = some t) {a : Int32} (hd : decode t.2.1 pc = .ok (.i2b, 1)) : mm_ex d y pc ls (.int a :: st) S = mm_ex d y (pc + 1) ls (.int a.toInt8.toInt32 :: st) S := mm_ex_go ht hd rfl rfl mm_nn
theorem mx_i2s (ht : mm_mt[y]? = some t) {a : Int32} (hd : decode t.2.1 pc = .ok (.i2s, 1)) : mm_ex d y pc ls (.int a :: st) S = mm_ex d y (pc + 1) ls (.int a.toInt16.toInt32 :: st) S := mm_ex_go ht hd rfl rfl mm_nn
theorem mx_i2c (ht : mm_mt[y]? = some t) {a : Int32} (hd : decode t.2.1 pc = .ok (.i2c, 1)) : mm_ex d y pc ls (.int a :: st) S = mm_ex d y (pc + 1) ls (.int (a.toUInt32 % 65536).toInt32 :: st) S := mm_ex_go ht hd rfl rfl mm_nn
theorem mx_l2i (ht : mm_mt[y]? = some t) {a : Int64} (hd : decode t.2.1 pc = .ok (.l2i, 1)) : mm_ex d y pc ls (.long a :: st) S = mm_ex d y (pc + 1) ls (.int a.toInt32 :: st) S := mm_ex_go ht hd rfl rfl mm_nn
theorem mx_ladd (ht : mm_mt[y]? = some t) {a b : Int64} (hd : decode t.2.1 pc = .ok (.ladd, 1)) : mm_ex d y pc ls (.long b :: .long a :: st) S = mm_ex d y (pc + 1) ls (.long (a + b) :: st) S := mm_ex_go ht hd rfl rfl mm_nn
theorem mx_lsub (ht : mm_mt[y]? = some t) {a b : Int64} (hd : decode t.2.1 pc = .ok (.lsub, 1)) : mm_ex d y pc ls (.long b :: .long a :: st) S = mm_ex d y (pc + 1) ls (.long (a - b) :: st) S := mm_ex_go ht hd rfl rfl mm_nn
theorem mx_lmul (ht : mm_mt[y]? = some t) {a b : Int64} (hd : decode t.2.1 pc = .ok (.lmul, 1)) : mm_ex d y pc ls (.long b :: .long a :: st) S = mm_ex d y (pc + 1) ls (.long (a * b) :: st) S := mm_ex_go ht hd rfl rfl mm_nn
theorem mx_land (ht : mm_mt[y]? = some t) {a b : Int64} (hd : decode t.2.1 pc = .ok (.land, 1)) : mm_ex d y pc ls (.long b :: .long a :: st) S = mm_ex d y (pc + 1) ls (.long (a &&& b) :: st) S := mm_ex_go ht hd rfl rfl mm_nn
theorem mx_lor (ht : mm_mt[y]? = some t) {a b : Int64} (hd : decode t.2.1 pc = .ok (.lor, 1)) : mm_ex d y pc ls (.long b :: .long a :: st) S = mm_ex d y (pc + 1) ls (.long (a ||| b) :: st) S := mm_ex_go ht hd rfl rfl mm_nn
theorem mx_ldiv (ht : mm_mt[y]? = some t) {a b : Int64} (hd : decode t.2.1 pc = .ok (.ldiv, 1)) (h : ¬ b = 0) : mm_ex d y pc ls (.long b :: .long a :: st) S = mm_ex d y (pc + 1) ls (.long (a / b) :: st) S := mm_ex_go ht hd rfl (mm_gdt (by simp [h])) mm_nn
theorem mx_lrem (ht : mm_mt[y]? = some t) {a b : Int64} (hd : decode t.2.1 pc = .ok (.lrem, 1)) (h : ¬ b = 0) : mm_ex d y pc ls (.long b :: .long a :: st) S = mm_ex d y (pc + 1) ls (.long (a - a / b * b) :: st) S := mm_ex_go ht hd rfl (mm_gdt (by simp [h])) mm_nn
theorem mx_lshl (ht : mm_mt[y]? = some t) {a : Int64} {b : Int32} (hd : decode t.2.1 pc = .ok (.lshl, 1)) : mm_ex d y pc ls (.int b :: .long a :: st) S = mm_ex d y (pc + 1) ls (.long (a <<< (b.toInt64 &&& 63)) :: st) S := mm_ex_go ht hd rfl rfl mm_nn
theorem mx_lcmp (ht : mm_mt[y]? = some t) {a b : Int64} (hd : decode t.2.1 pc = .ok (.lcmp, 1)) : mm_ex d y pc ls (.long b :: .long a :: st) S = mm_ex d y (pc + 1) ls (.int (lg_cmp a b) :: st) S := mm_ex_go ht hd rfl rfl mm_nn
theorem mx_dupi (ht : mm_mt[y]? = some t) {x : Int32} (hd : decode t.2.1 pc = .ok (.dup, 1)) : mm_ex d y pc ls (.int x :: st) S = mm_ex d y (pc + 1) ls (.int x :: .int x :: st) S := mm_ex_go ht hd rfl rfl mm_nn
theorem mx_dupr (ht : mm_mt[y]? = some t) {x : Nat} (hd : decode t.2.1 pc = .ok (.dup, 1)) : mm_ex d y pc ls (.ref x :: st) S = mm_ex d y (pc + 1) ls (.ref x :: .ref x :: st) S := mm_ex_go ht hd rfl rfl mm_nn
theorem mx_popi (ht : mm_mt[y]? = some t) {x : Int32} (hd : decode t.2.1 pc = .ok (.pop, 1)) : mm_ex d y pc ls (.int x :: st) S = mm_ex d y (pc + 1) ls st S := mm_ex_go ht hd rfl rfl mm_nn
theorem mx_pop2l (ht : mm_mt[y]? = some t) {x : Int64} (hd : decode t.2.1 pc = .ok (.pop2, 1)) : mm_ex d y pc ls (.long x :: st) S = mm_ex d y (pc + 1) ls st S := mm_ex_go ht hd rfl rfl mm_nn
theorem mx_dup2l (ht : mm_mt[y]? = some t) {x : Int64} (hd : decode t.2.1 pc = .ok (.dup2, 1)) : mm_ex d y pc ls (.long x :: st) S = mm_ex d y (pc + 1) ls (.long x :: .long x :: st) S := mm_ex_go ht hd rfl rfl mm_nn
theorem mx_dup2i (ht : mm_mt[y]? = some t) {x : Int32} {a : Nat} (hd : decode t.2.1 pc = .ok (.dup2, 1)) : mm_ex d y pc ls (.int x :: .ref a :: st) S = mm_ex d y (pc + 1) ls (.int x :: .ref a :: .int x :: .ref a :: st) S := mm_ex_go ht hd rfl rfl mm_nn
theorem mm_jpt {pc tgt : Nat} {off : Int} (h : (pc : Int) + off = (tgt : Int)) : mm_jp pc off ls st S = mm_go tgt ls st S := by
  unfold mm_jp
  rw [if_neg (by omega), h]
  rfl
theorem mx_goto (ht : mm_mt[y]? = some t) {off : Int} {tgt : Nat} (hd : decode t.2.1 pc = .ok (.goto off, 3)) (h : (pc : Int) + off = (tgt : Int)) : mm_ex d y pc ls st S = mm_ex d y tgt ls st S := mm_ex_go ht hd rfl (mm_jpt h) mm_nn
theorem mm_cjt {b : Bool} {pc tgt : Nat} {off : Int} (h : (pc : Int) + off = (tgt : Int)) : mm_cj b pc off ls st S = if b = true then mm_go tgt ls st S else mm_go (pc + 3) ls st S := by
  unfold mm_cj
  rw [if_neg (by omega), h]
  rfl
theorem mx_if (ht : mm_mt[y]? = some t) {c : ClassFile.Cond} {off : Int} {tgt : Nat} {x : Int32} (hd : decode t.2.1 pc = .ok (.ifCond c off, 3)) (h : (pc : Int) + off = (tgt : Int)) : mm_ex d y pc ls (.int x :: st) S = if mm_c1 c x = true then mm_ex d y tgt ls st S else mm_ex d y (pc + 3) ls st S := by
  have e : mm_st d t pc ls (.int x :: st) S (.ifCond c off) = mm_cj (mm_c1 c x) pc off ls st S := rfl
  rw [mm_cjt h] at e
  by_cases hb : mm_c1 c x = true
  · rw [if_pos hb] at e ⊢
    exact mm_ex_go ht hd rfl e mm_nn
  · rw [if_neg hb] at e ⊢
    exact mm_ex_go ht hd rfl e mm_nn
theorem mx_icmp (ht : mm_mt[y]? = some t) {c : ClassFile.Cond} {off : Int} {tgt : Nat} {a b : Int32} (hd : decode t.2.1 pc = .ok (.if_icmp c off, 3)) (h : (pc : Int) + off = (tgt : Int)) : mm_ex d y pc ls (.int b :: .int a :: st) S = if mm_c2 c a b = true then mm_ex d y tgt ls st S else mm_ex d y (pc + 3) ls st S := by
  have e : mm_st d t pc ls (.int b :: .int a :: st) S (.if_icmp c off) = mm_cj (mm_c2 c a b) pc off ls st S := rfl
  rw [mm_cjt h] at e
  by_cases hb : mm_c2 c a b = true
  · rw [if_pos hb] at e ⊢
    exact mm_ex_go ht hd rfl e mm_nn
  · rw [if_neg hb] at e ⊢
    exact mm_ex_go ht hd rfl e mm_nn
theorem mm_ifd {α : Type} {P : Prop} [Decidable P] {a b : α} : (if decide P = true then a else b) = if P then a else b := by
  by_cases h : P
  · rw [if_pos (by simpa using h), if_pos h]
  · rw [if_neg (by simpa using h), if_neg h]
theorem mm_ifn {α : Type} {P : Prop} [Decidable P] {a b : α} : (if (!decide P) = true then a else b) = if P then b else a := by
  by_cases h : P
  · rw [if_neg (by simp [h]), if_pos h]
  · rw [if_pos (by simp [h]), if_neg h]
theorem mx_ieq (ht : mm_mt[y]? = some t) {off : Int} {tgt : Nat} {x : Int32} (hd : decode t.2.1 pc = .ok (.ifCond .eq off, 3)) (h : (pc : Int) + off = (tgt : Int)) : mm_ex d y pc ls (.int x :: st) S = if x = nI 0 then mm_ex d y tgt ls st S else mm_ex d y (pc + 3) ls st S := (mx_if ht hd h).trans mm_ifd
theorem mx_ine (ht : mm_mt[y]? = some t) {off : Int} {tgt : Nat} {x : Int32} (hd : decode t.2.1 pc = .ok (.ifCond .ne off, 3)) (h : (pc : Int) + off = (tgt : Int)) : mm_ex d y pc ls (.int x :: st) S = if x = nI 0 then mm_ex d y (pc + 3) ls st S else mm_ex d y tgt ls st S := (mx_if ht hd h).trans mm_ifn
theorem mx_ilt (ht : mm_mt[y]? = some t) {off : Int} {tgt : Nat} {x : Int32} (hd : decode t.2.1 pc = .ok (.ifCond .lt off, 3)) (h : (pc : Int) + off = (tgt : Int)) : mm_ex d y pc ls (.int x :: st) S = if x < nI 0 then mm_ex d y tgt ls st S else mm_ex d y (pc + 3) ls st S := (mx_if ht hd h).trans mm_ifd
theorem mx_ige (ht : mm_mt[y]? = some t) {off : Int} {tgt : Nat} {x : Int32} (hd : decode t.2.1 pc = .ok (.ifCond .ge off, 3)) (h : (pc : Int) + off = (tgt : Int)) : mm_ex d y pc ls (.int x :: st) S = if nI 0 ≤ x then mm_ex d y tgt ls st S else mm_ex d y (pc + 3) ls st S := (mx_if ht hd h).trans mm_ifd
theorem mx_igt (ht : mm_mt[y]? = some t) {off : Int} {tgt : Nat} {x : Int32} (hd : decode t.2.1 pc = .ok (.ifCond .gt off, 3)) (h : (pc : Int) + off = (tgt : Int)) : mm_ex d y pc ls (.int x :: st) S = if nI 0 < x then mm_ex d y tgt ls st S else mm_ex d y (pc + 3) ls st S := (mx_if ht hd h).trans mm_ifd
theorem mx_ile (ht : mm_mt[y]? = some t) {off : Int} {tgt : Nat} {x : Int32} (hd : decode t.2.1 pc = .ok (.ifCond .le off, 3)) (h : (pc : Int) + off = (tgt : Int)) : mm_ex d y pc ls (.int x :: st) S = if x ≤ nI 0 then mm_ex d y tgt ls st S else mm_ex d y (pc + 3) ls st S := (mx_if ht hd h).trans mm_ifd
theorem mx_ceq (ht : mm_mt[y]? = some t) {off : Int} {tgt : Nat} {a b : Int32} (hd : decode t.2.1 pc = .ok (.if_icmp .eq off, 3)) (h : (pc : Int) + off = (tgt : Int)) : mm_ex d y pc ls (.int b :: .int a :: st) S = if a = b then mm_ex d y tgt ls st S else mm_ex d y (pc + 3) ls st S := (mx_icmp ht hd h).trans mm_ifd
theorem mx_cne (ht : mm_mt[y]? = some t) {off : Int} {tgt : Nat} {a b : Int32} (hd : decode t.2.1 pc = .ok (.if_icmp .ne off, 3)) (h : (pc : Int) + off = (tgt : Int)) : mm_ex d y pc ls (.int b :: .int a :: st) S = if a = b then mm_ex d y (pc + 3) ls st S else mm_ex d y tgt ls st S := (mx_icmp ht hd h).trans mm_ifn
theorem mx_clt (ht : mm_mt[y]? = some t) {off : Int} {tgt : Nat} {a b : Int32} (hd : decode t.2.1 pc = .ok (.if_icmp .lt off, 3)) (h : (pc : Int) + off = (tgt : Int)) : mm_ex d y pc ls (.int b :: .int a :: st) S = if a < b then mm_ex d y tgt ls st S else mm_ex d y (pc + 3) ls st S := (mx_icmp ht hd h).trans mm_ifd
theorem mx_cge (ht : mm_mt[y]? = some t) {off : Int} {tgt : Nat} {a b : Int32} (hd : decode t.2.1 pc = .ok (.if_icmp .ge off, 3)) (h : (pc : Int) + off = (tgt : Int)) : mm_ex d y pc ls (.int b :: .int a :: st) S = if b ≤ a then mm_ex d y tgt ls st S else mm_ex d y (pc + 3) ls st S := (mx_icmp ht hd h).trans mm_ifd
theorem mx_cgt (ht : mm_mt[y]? = some t) {off : Int} {tgt : Nat} {a b : Int32} (hd : decode t.2.1 pc = .ok (.if_icmp .gt off, 3)) (h : (pc : Int) + off = (tgt : Int)) : mm_ex d y pc ls (.int b :: .int a :: st) S = if b < a then mm_ex d y tgt ls st S else mm_ex d y (pc + 3) ls st S := (mx_icmp ht hd h).trans mm_ifd
theorem mx_cle (ht : mm_mt[y]? = some t) {off : Int} {tgt : Nat} {a b : Int32} (hd : decode t.2.1 pc = .ok (.if_icmp .le off, 3)) (h : (pc : Int) + off = (tgt : Int)) : mm_ex d y pc ls (.int b :: .int a :: st) S = if a ≤ b then mm_ex d y tgt ls st S else mm_ex d y (pc + 3) ls st S := (mx_icmp ht hd h).trans mm_ifd
/-- the switches: by a list of keys and ends -/
def mm_sw {α : Type} (x : Int32) (ks : List (Int32 × α)) (df : α) : α := match ks with
  | [] => df
  | q :: l => if x = q.1 then q.2 else mm_sw x l df
theorem mx_tsw (ht : mm_mt[y]? = some t) {df lo hi : Int} {offs : Array Int} {len tg : Nat} {x : Int32} (hd : decode t.2.1 pc = .ok (.tableswitch df lo hi offs, len)) (h : (if x.toInt < lo ∨ hi < x.toInt then mm_jp pc df ls st S else match offs[(x.toInt - lo).toNat]? with
    | some off => mm_jp pc off ls st S
    | none => none) = mm_go tg ls st S) : mm_ex d y pc ls (.int x :: st) S = mm_ex d y tg ls st S := mm_ex_go ht hd rfl h mm_nn
theorem mx_lsw (ht : mm_mt[y]? = some t) {df : Int} {ps : Array (Int × Int)} {len tg : Nat} {x : Int32} (hd : decode t.2.1 pc = .ok (.lookupswitch df ps, len)) (hp : (ps.toList.zip (ps.toList.drop 1)).all (fun (a, next) => a.1 < next.1) = true) (h : (pc : Int) + Op.lookupswitch.offset ps.toList df x.toInt = (tg : Int)) : mm_ex d y pc ls (.int x :: st) S = mm_ex d y tg ls st S := mm_ex_go ht hd rfl ((mm_gdt hp).trans (mm_jpt h)) mm_nn
theorem mx_gets1 (ht : mm_mt[y]? = some t) (hd : decode t.2.1 pc = .ok (.getstatic 38, 3)) (h : t.2.2.2.2 = 13) : mm_ex d y pc ls st S = mm_ex d y (pc + 3) ls (.int 1 :: st) S := mm_ex_go ht hd rfl (if_pos ⟨h, rfl⟩) mm_nn
theorem mx_gets2 (ht : mm_mt[y]? = some t) (hd : decode t.2.1 pc = .ok (.getstatic 1053, 3)) (h : t.2.2.2.2 = 13) : mm_ex d y pc ls st S = mm_ex d y (pc + 3) ls (mm_FM :: st) S := mm_ex_go ht hd rfl ((if_neg (by simp)).trans (if_pos ⟨h, rfl⟩)) mm_nn
theorem mx_getS1 (ht : mm_mt[y]? = some t) {a : Nat} (hd : decode t.2.1 pc = .ok (.getfield 9, 3)) (h : t.2.2.2.2 = 13) (ha : mm_isS a = true) : mm_ex d y pc ls (.ref a :: st) S = mm_ex d y (pc + 3) ls (.ref (a + 1) :: st) S := mm_ex_go ht hd rfl ((if_pos h).trans ((if_pos ha).trans (if_pos rfl))) mm_nn
theorem mx_getS2 (ht : mm_mt[y]? = some t) {a : Nat} (hd : decode t.2.1 pc = .ok (.getfield 15, 3)) (h : t.2.2.2.2 = 13) (ha : mm_isS a = true) : mm_ex d y pc ls (.ref a :: st) S = mm_ex d y (pc + 3) ls (.int 0 :: st) S := mm_ex_go ht hd rfl ((if_pos h).trans ((if_pos ha).trans ((if_neg (by simp)).trans (if_pos rfl)))) mm_nn
theorem mx_getf (ht : mm_mt[y]? = some t) {i f k tg fi a : Nat} {v : Value} (hd : decode t.2.1 pc = .ok (.getfield i, 3)) (h : decide (t.2.2.2.2 = 13) = false) (hl : mm_fd mm_FL t.2.2.2.2 i = some (f, k, tg, fi)) (hg : mm_gf S f k tg a = some v) : mm_ex d y pc ls (.ref a :: st) S = mm_ex d y (pc + 3) ls (v :: st) S := by
  refine mm_ex_go ht hd rfl ((if_neg (of_decide_eq_false h)).trans ?_) mm_nn
  simp only [hl, hg]
theorem mx_geti (ht : mm_mt[y]? = some t) {i f k fi a : Nat} (hd : decode t.2.1 pc = .ok (.getfield i, 3)) (h : decide (t.2.2.2.2 = 13) = false) (hl : mm_fd mm_FL t.2.2.2.2 i = some (f, k, 0, fi)) (ho : mm_obj S a f = true) : mm_ex d y pc ls (.ref a :: st) S = mm_ex d y (pc + 3) ls (.int (mm_M S a k) :: st) S := mx_getf ht hd h hl (by unfold mm_gf; rw [if_pos ho]; rfl)
theorem mx_getz (ht : mm_mt[y]? = some t) {i f k fi a : Nat} (hd : decode t.2.1 pc = .ok (.getfield i, 3)) (h : decide (t.2.2.2.2 = 13) = false) (hl : mm_fd mm_FL t.2.2.2.2 i = some (f, k, 3, fi)) (ho : mm_obj S a f = true) : mm_ex d y pc ls (.ref a :: st) S = mm_ex d y (pc + 3) ls (.int (mm_M S a k) :: st) S := mx_getf ht hd h hl (by unfold mm_gf; rw [if_pos ho]; rfl)
theorem mx_getj (ht : mm_mt[y]? = some t) {i f k fi a : Nat} (hd : decode t.2.1 pc = .ok (.getfield i, 3)) (h : decide (t.2.2.2.2 = 13) = false) (hl : mm_fd mm_FL t.2.2.2.2 i = some (f, k, 1, fi)) (ho : mm_obj S a f = true) : mm_ex d y pc ls (.ref a :: st) S = mm_ex d y (pc + 3) ls (.long (mm_L S a k) :: st) S := mx_getf ht hd h hl (by unfold mm_gf; rw [if_pos ho]; rfl)
theorem mx_getr (ht : mm_mt[y]? = some t) {i f k fi a : Nat} (hd : decode t.2.1 pc = .ok (.getfield i, 3)) (h : decide (t.2.2.2.2 = 13) = false) (hl : mm_fd mm_FL t.2.2.2.2 i = some (f, k, 2, fi)) (ho : mm_obj S a f = true) : mm_ex d y pc ls (.ref a :: st) S = mm_ex d y (pc + 3) ls (mm_rv (mm_R S a k) :: st) S := mx_getf ht hd h hl (by unfold mm_gf; rw [if_pos ho]; rfl)
theorem mx_putf (ht : mm_mt[y]? = some t) {i f k tg fi a : Nat} {v : Value} {S1 : mm_S} (hd : decode t.2.1 pc = .ok (.putfield i, 3)) (hl : mm_fd mm_FL t.2.2.2.2 i = some (f, k, tg, fi)) (hi : (decide (fi = 0) || (decide (t.1.name = "<init>") && decide ((mm_T f k).1 = t.1.cls))) = true) (hg : mm_pf S f k tg a v = some S1) (hm : mm_n S ≤ mm_n S1 ∧ mm_z S ≤ mm_z S1) : mm_ex d y pc ls (v :: .ref a :: st) S = mm_ex d y (pc + 3) ls st S1 := by
  have e : mm_st d t pc ls (v :: .ref a :: st) S (.putfield i) = mm_go (pc + 3) ls st S1 := by
    unfold mm_st mm_pr
    simp only [hl, hg, hi, mm_gd, if_true]
  exact mm_ex_go ht hd rfl e hm
theorem mx_puti (ht : mm_mt[y]? = some t) {i f k fi a : Nat} {x : Int32} (hd : decode t.2.1 pc = .ok (.putfield i, 3)) (hl : mm_fd mm_FL t.2.2.2.2 i = some (f, k, 0, fi)) (hi : (decide (fi = 0) || (decide (t.1.name = "<init>") && decide ((mm_T f k).1 = t.1.cls))) = true) (ho : mm_obj S a f = true) : mm_ex d y pc ls (.int x :: .ref a :: st) S = mm_ex d y (pc + 3) ls st (mm_sM S a (mm_u (mm_M S a) k x)) := mx_putf ht hd hl hi (by unfold mm_pf; exact if_pos ho) mm_nn
theorem mx_putz (ht : mm_mt[y]? = some t) {i f k fi a : Nat} {x : Int32} (hd : decode t.2.1 pc = .ok (.putfield i, 3)) (hl : mm_fd mm_FL t.2.2.2.2 i = some (f, k, 3, fi)) (hi : (decide (fi = 0) || (decide (t.1.name = "<init>") && decide ((mm_T f k).1 = t.1.cls))) = true) (ho : mm_obj S a f = true) (hx : x = 0 ∨ x = 1) : mm_ex d y pc ls (.int x :: .ref a :: st) S = mm_ex d y (pc + 3) ls st (mm_sM S a (mm_u (mm_M S a) k x)) := mx_putf ht hd hl hi (by unfold mm_pf; rw [if_pos ho]; exact if_pos hx) mm_nn
theorem mx_putj (ht : mm_mt[y]? = some t) {i f k fi a : Nat} {x : Int64} (hd : decode t.2.1 pc = .ok (.putfield i, 3)) (hl : mm_fd mm_FL t.2.2.2.2 i = some (f, k, 1, fi)) (hi : (decide (fi = 0) || (decide (t.1.name = "<init>") && decide ((mm_T f k).1 = t.1.cls))) = true) (ho : mm_obj S a f = true) : mm_ex d y pc ls (.long x :: .ref a :: st) S = mm_ex d y (pc + 3) ls st (mm_sL S a (mm_u (mm_L S a) k x)) := mx_putf ht hd hl hi (by unfold mm_pf; exact if_pos ho) mm_nn
theorem mx_putr (ht : mm_mt[y]? = some t) {i f k fi a b : Nat} (hd : decode t.2.1 pc = .ok (.putfield i, 3)) (hl : mm_fd mm_FL t.2.2.2.2 i = some (f, k, 2, fi)) (hi : (decide (fi = 0) || (decide (t.1.name = "<init>") && decide ((mm_T f k).1 = t.1.cls))) = true) (ho : mm_obj S a f = true) (hb : b < mm_n S) : mm_ex d y pc ls (.ref b :: .ref a :: st) S = mm_ex d y (pc + 3) ls st (mm_sR S a (mm_u (mm_R S a) k (some b))) := mx_putf ht hd hl hi (by unfold mm_pf; rw [if_pos ho]; exact if_pos hb) mm_nn
theorem mm_and2 {a b : Bool} (h1 : a = true) (h2 : b = true) : (a && b) = true := by rw [h1, h2]; rfl
theorem mx_iald (ht : mm_mt[y]? = some t) {a : Nat} {i : Int32} (hd : decode t.2.1 pc = .ok (.iaload, 1)) (h1 : mm_arr S a 13 = true) (h2 : mm_inb i (mm_N S a) = true) : mm_ex d y pc ls (.int i :: .ref a :: st) S = mm_ex d y (pc + 1) ls (.int (mm_M S a i.toNatClampNeg) :: st) S := mm_ex_go ht hd rfl ((if_pos h1).trans (mm_gdt h2)) mm_nn
theorem mx_isc (ht : mm_mt[y]? = some t) {i : Int32} (hd : decode t.2.1 pc = .ok (.iaload, 1)) (h1 : mm_arr S mm_SC 13 = false) (h0 : t.2.2.2.2 = 17) (h2 : mm_inb i (mm_N S mm_SC) = true) : mm_ex d y pc ls (.int i :: .ref mm_SC :: st) S = mm_ex d y (pc + 1) ls (.int (mm_M S mm_SC i.toNatClampNeg) :: st) S := mm_ex_go ht hd rfl ((if_neg (by rw [h1]; decide)).trans (mm_gdt (by simp [h0, h2]))) mm_nn
theorem mx_lald (ht : mm_mt[y]? = some t) {a : Nat} {i : Int32} (hd : decode t.2.1 pc = .ok (.laload, 1)) (h1 : mm_arr S a 14 = true) (h2 : mm_inb i (mm_N S a) = true) : mm_ex d y pc ls (.int i :: .ref a :: st) S = mm_ex d y (pc + 1) ls (.long (mm_L S a i.toNatClampNeg) :: st) S := mm_ex_go ht hd rfl (mm_gdt (mm_and2 h1 h2)) mm_nn
theorem mx_zald (ht : mm_mt[y]? = some t) {a : Nat} {i : Int32} (hd : decode t.2.1 pc = .ok (.baload, 1)) (h1 : mm_arr S a 15 = true) (h2 : mm_inb i (mm_N S a) = true) : mm_ex d y pc ls (.int i :: .ref a :: st) S = mm_ex d y (pc + 1) ls (.int (mm_M S a i.toNatClampNeg) :: st) S := mm_ex_go ht hd rfl ((if_pos h1).trans (mm_gdt h2)) mm_nn
theorem mx_bald (ht : mm_mt[y]? = some t) {a : Nat} {i : Int32} (hd : decode t.2.1 pc = .ok (.baload, 1)) (h1 : mm_arr S a 15 = false) (hB : mm_isB a = true) (h2 : mm_inb i (mm_by a).length = true) : mm_ex d y pc ls (.int i :: .ref a :: st) S = mm_ex d y (pc + 1) ls (.int ((mm_by a).getD i.toNatClampNeg 0) :: st) S := mm_ex_go ht hd rfl ((if_neg (by rw [h1]; decide)).trans (mm_gdt (by rw [hB, h2]; rfl))) mm_nn
theorem mx_qald (ht : mm_mt[y]? = some t) {a : Nat} {i : Int32} (hd : decode t.2.1 pc = .ok (.aaload, 1)) (h1 : (mm_arr S a 16 || mm_arr S a 17 || mm_arr S a 18) = true) (h2 : mm_inb i (mm_N S a) = true) : mm_ex d y pc ls (.int i :: .ref a :: st) S = mm_ex d y (pc + 1) ls (mm_rv (mm_R S a i.toNatClampNeg) :: st) S := mm_ex_go ht hd rfl (mm_gdt (mm_and2 h1 h2)) mm_nn
theorem mx_iast (ht : mm_mt[y]? = some t) {a : Nat} {i x : Int32} (hd : decode t.2.1 pc = .ok (.iastore, 1)) (h1 : mm_arr S a 13 = true) (h2 : mm_inb i (mm_N S a) = true) : mm_ex d y pc ls (.int x :: .int i :: .ref a :: st) S = mm_ex d y (pc + 1) ls st (mm_sM S a (mm_u (mm_M S a) i.toNatClampNeg x)) := mm_ex_go ht hd rfl (mm_gdt (mm_and2 h1 h2)) mm_nn
theorem mx_last (ht : mm_mt[y]? = some t) {a : Nat} {i : Int32} {x : Int64} (hd : decode t.2.1 pc = .ok (.lastore, 1)) (h1 : mm_arr S a 14 = true) (h2 : mm_inb i (mm_N S a) = true) : mm_ex d y pc ls (.long x :: .int i :: .ref a :: st) S = mm_ex d y (pc + 1) ls st (mm_sL S a (mm_u (mm_L S a) i.toNatClampNeg x)) := mm_ex_go ht hd rfl (mm_gdt (mm_and2 h1 h2)) mm_nn
theorem mx_zast (ht : mm_mt[y]? = some t) {a : Nat} {i x : Int32} (hd : decode t.2.1 pc = .ok (.bastore, 1)) (h1 : mm_arr S a 15 = true) (h2 : mm_inb i (mm_N S a) = true) : mm_ex d y pc ls (.int x :: .int i :: .ref a :: st) S = mm_ex d y (pc + 1) ls st (mm_sM S a (mm_u (mm_M S a) i.toNatClampNeg (vp_nar .boolean x))) := mm_ex_go ht hd rfl (mm_gdt (mm_and2 h1 h2)) mm_nn
theorem mx_qastN (ht : mm_mt[y]? = some t) {a : Nat} {i : Int32} (hd : decode t.2.1 pc = .ok (.aastore, 1)) (h1 : (mm_arr S a 16 || mm_arr S a 17 || mm_arr S a 18) = true) (h2 : mm_inb i (mm_N S a) = true) : mm_ex d y pc ls (.null :: .int i :: .ref a :: st) S = mm_ex d y (pc + 1) ls st (mm_sR S a (mm_u (mm_R S a) i.toNatClampNeg none)) := mm_ex_go ht hd rfl (mm_gdt (mm_and2 h1 h2)) mm_nn
theorem mx_qast (ht : mm_mt[y]? = some t) {a b : Nat} {i : Int32} (hd : decode t.2.1 pc = .ok (.aastore, 1)) (h1 : (mm_arr S a 16 || mm_arr S a 17 || mm_arr S a 18) = true) (h2 : mm_inb i (mm_N S a) = true) (h3 : mm_obj S b (if mm_K S a = 16 then 0 else if mm_K S a = 17 then 6 else 8) = true) : mm_ex d y pc ls (.ref b :: .int i :: .ref a :: st) S = mm_ex d y (pc + 1) ls st (mm_sR S a (mm_u (mm_R S a) i.toNatClampNeg (some b))) := mm_ex_go ht hd rfl ((mm_gdt (mm_and2 h1 h2)).trans (mm_gdt h3)) mm_nn
theorem mx_alen (ht : mm_mt[y]? = some t) {a : Nat} (hd : decode t.2.1 pc = .ok (.arraylength, 1)) (h1 : (decide (a < mm_n S) && decide (13 ≤ mm_K S a) && decide (mm_K S a < 19)) = true) : mm_ex d y pc ls (.ref a :: st) S = mm_ex d y (pc + 1) ls (.int (nI (mm_N S a)) :: st) S := mm_ex_go ht hd rfl (if_pos h1) mm_nn
theorem mx_aleni (ht : mm_mt[y]? = some t) {a : Nat} (hd : decode t.2.1 pc = .ok (.arraylength, 1)) (h1 : mm_arr S a 13 = true) : mm_ex d y pc ls (.ref a :: st) S = mm_ex d y (pc + 1) ls (.int (nI (mm_N S a)) :: st) S := mx_alen ht hd (by
  obtain ⟨h2, h3⟩ := mm_arr_sp h1
  simp [h2, h3])
theorem mx_alenB (ht : mm_mt[y]? = some t) {a : Nat} (hd : decode t.2.1 pc = .ok (.arraylength, 1)) (h1 : (decide (a < mm_n S) && decide (13 ≤ mm_K S a) && decide (mm_K S a < 19)) = false) (hB : mm_isB a = true) : mm_ex d y pc ls (.ref a :: st) S = mm_ex d y (pc + 1) ls (.int (nI (mm_by a).length) :: st) S := mm_ex_go ht hd rfl ((if_neg (by rw [h1]; decide)).trans (if_pos hB)) mm_nn
theorem mx_alenS (ht : mm_mt[y]? = some t) (hd : decode t.2.1 pc = .ok (.arraylength, 1)) (h1 : (decide (mm_SC < mm_n S) && decide (13 ≤ mm_K S mm_SC) && decide (mm_K S mm_SC < 19)) = false) (h0 : t.2.2.2.2 = 17) : mm_ex d y pc ls (.ref mm_SC :: st) S = mm_ex d y (pc + 1) ls (.int (nI (mm_N S mm_SC)) :: st) S := mm_ex_go ht hd rfl ((if_neg (by rw [h1]; decide)).trans ((if_neg (by decide)).trans (mm_gdt (by simp [h0])))) mm_nn
theorem mm_nwle {k n : Nat} : mm_n S ≤ mm_n (mm_nw S k n) ∧ mm_z S ≤ mm_z (mm_nw S k n) := ⟨Nat.le_succ _, Nat.le_add_right _ _⟩
theorem mx_newi (ht : mm_mt[y]? = some t) {n : Int32} (hd : decode t.2.1 pc = .ok (.newarray .int, 2)) (h : (!decide (n < 0) && decide (n.toNatClampNeg ≤ 1000) && decide (mm_n S < 1000000)) = true) : mm_ex d y pc ls (.int n :: st) S = mm_ex d y (pc + 2) ls (.ref (mm_n S) :: st) (mm_nw S 13 n.toNatClampNeg) := mm_ex_go ht hd rfl (mm_gdt h) mm_nwle
theorem mx_newj (ht : mm_mt[y]? = some t) {n : Int32} (hd : decode t.2.1 pc = .ok (.newarray .long, 2)) (h : (!decide (n < 0) && decide (n.toNatClampNeg ≤ 1000) && decide (mm_n S < 1000000)) = true) : mm_ex d y pc ls (.int n :: st) S = mm_ex d y (pc + 2) ls (.ref (mm_n S) :: st) (mm_nw S 14 n.toNatClampNeg) := mm_ex_go ht hd rfl (mm_gdt h) mm_nwle
theorem mx_newz (ht : mm_mt[y]? = some t) {n : Int32} (hd : decode t.2.1 pc = .ok (.newarray .boolean, 2)) (h : (!decide (n < 0) && decide (n.toNatClampNeg ≤ 1000) && decide (mm_n S < 1000000)) = true) : mm_ex d y pc ls (.int n :: st) S = mm_ex d y (pc + 2) ls (.ref (mm_n S) :: st) (mm_nw S 15 n.toNatClampNeg) := mm_ex_go ht hd rfl (mm_gdt h) mm_nwle
theorem mx_newq (ht : mm_mt[y]? = some t) {n : Int32} {i k : Nat} (hd : decode t.2.1 pc = .ok (.anewarray i, 3)) (hl : mm_fd mm_AN t.2.2.2.2 i = some k) (h : (!decide (n < 0) && decide (n.toNatClampNeg ≤ 1000) && decide (mm_n S < 1000000)) = true) : mm_ex d y pc ls (.int n :: st) S = mm_ex d y (pc + 3) ls (.ref (mm_n S) :: st) (mm_nw S k n.toNatClampNeg) := mm_ex_go ht hd rfl ((mm_gdt h).trans (by simp only [hl])) mm_nwle
theorem mx_new (ht : mm_mt[y]? = some t) {i k n : Nat} (hd : decode t.2.1 pc = .ok (.new i, 3)) (hl : mm_fd mm_NW t.2.2.2.2 i = some k) (hn : mm_NF k = n) (h : decide (mm_n S < 1000000) = true) : mm_ex d y pc ls st S = mm_ex d y (pc + 3) ls (.ref (mm_n S) :: st) (mm_nw S k n) := by
  subst hn
  exact mm_ex_go ht hd rfl ((mm_gdt h).trans (by simp only [hl])) mm_nwle
theorem mx_inst (ht : mm_mt[y]? = some t) {i a : Nat} {e : String × List Nat} (hd : decode t.2.1 pc = .ok (.instanceof i, 3)) (hl : mm_fd mm_IO t.2.2.2.2 i = some e) (h : mm_obj S a 0 = true) : mm_ex d y pc ls (.ref a :: st) S = mm_ex d y (pc + 3) ls (.int (if mm_K S a ∈ e.2 then 1 else 0) :: st) S := by
  have e1 : mm_st d t pc ls (.ref a :: st) S (.instanceof i) = mm_go (pc + 3) ls (.int (if mm_K S a ∈ e.2 then 1 else 0) :: st) S := by
    unfold mm_st mm_r1
    simp only [hl, mm_gdt h]
  exact mm_ex_go ht hd rfl e1 mm_nn
theorem mx_oinit (ht : mm_mt[y]? = some t) {i a : Nat} (hd : decode t.2.1 pc = .ok (.invokespecial i, 3)) (hl : mm_fd mm_OI t.2.2.2.2 i = some ()) (hc : mm_cs st ≤ 8) : mm_ex (d + 1) y pc ls (.ref a :: st) S = mm_ex (d + 1) y (pc + 3) ls st S := by
  have e1 : mm_st (d + 1) t pc ls (.ref a :: st) S (.invokespecial i) = mm_go (pc + 3) ls st S := by
    unfold mm_st mm_r1
    simp only [hl]
    exact mm_gdt (by simp [hc])
  exact mm_ex_go ht hd rfl e1 mm_nn
theorem mx_cpi (ht : mm_mt[y]? = some t) {i a a0 : Nat} {sp dp n : Int32} (hd : decode t.2.1 pc = .ok (.invokestatic i, 3)) (hl : mm_fd mm_AC t.2.2.2.2 i = some ()) (hc : mm_cs st ≤ 8) (h1 : mm_arr S a0 13 = true) (h2 : mm_arr S a 13 = true) (h3 : mm_cpOk sp dp n (mm_N S a0) (mm_N S a) = true) : mm_ex (d + 1) y pc ls (.int n :: .int dp :: .ref a :: .int sp :: .ref a0 :: st) S = mm_ex (d + 1) y (pc + 3) ls st (mm_sM S a (va_cpy (mm_M S a0) (mm_M S a) sp.toNatClampNeg dp.toNatClampNeg n.toNatClampNeg)) := by
  have e1 : mm_st (d + 1) t pc ls (.int n :: .int dp :: .ref a :: .int sp :: .ref a0 :: st) S (.invokestatic i) = mm_go (pc + 3) ls st (mm_sM S a (va_cpy (mm_M S a0) (mm_M S a) sp.toNatClampNeg dp.toNatClampNeg n.toNatClampNeg)) := by
    unfold mm_st mm_i2 mm_r1 mm_i1
    simp only [hl]
    refine (mm_gdt (by simp [hc])).trans (if_pos ?_)
    rw [h1, h2, h3]; rfl
  exact mm_ex_go ht hd rfl e1 mm_nn
theorem mx_cpl (ht : mm_mt[y]? = some t) {i a a0 : Nat} {sp dp n : Int32} (hd : decode t.2.1 pc = .ok (.invokestatic i, 3)) (hl : mm_fd mm_AC t.2.2.2.2 i = some ()) (hc : mm_cs st ≤ 8) (h1 : mm_arr S a0 14 = true) (h2 : mm_arr S a 14 = true) (h3 : mm_cpOk sp dp n (mm_N S a0) (mm_N S a) = true) : mm_ex (d + 1) y pc ls (.int n :: .int dp :: .ref a :: .int sp :: .ref a0 :: st) S = mm_ex (d + 1) y (pc + 3) ls st (mm_sL S a (va_cpy (mm_L S a0) (mm_L S a) sp.toNatClampNeg dp.toNatClampNeg n.toNatClampNeg)) := by
  have e1 : mm_st (d + 1) t pc ls (.int n :: .int dp :: .ref a :: .int sp :: .ref a0 :: st) S (.invokestatic i) = mm_go (pc + 3) ls st (mm_sL S a (va_cpy (mm_L S a0) (mm_L S a) sp.toNatClampNeg dp.toNatClampNeg n.toNatClampNeg)) := by
    unfold mm_st mm_i2 mm_r1 mm_i1
    simp only [hl]
    have h0 : mm_arr S a0 13 = false := by
      obtain ⟨-, hk⟩ := mm_arr_sp h1
      unfold mm_arr
      simp [hk]
    refine (mm_gdt (by simp [hc])).trans ((if_neg ?_).trans (if_pos ?_))
    · rw [h0]; simp
    · rw [h1, h2, h3]; rfl
  exact mm_ex_go ht hd rfl e1 mm_nn
theorem mx_math (ht : mm_mt[y]? = some t) {i k : Nat} {a b : Int32} (hd : decode t.2.1 pc = .ok (.invokestatic i, 3)) (hl0 : mm_fd mm_AC t.2.2.2.2 i = none) (hl : mm_fd mm_MX t.2.2.2.2 i = some k) (hc : mm_cs st ≤ 8) : mm_ex (d + 1) y pc ls (.int b :: .int a :: st) S = mm_ex (d + 1) y (pc + 3) ls (.int (if k = 0 then (if b < a then b else a) else (if a < b then b else a)) :: st) S := by
  have e1 : mm_st (d + 1) t pc ls (.int b :: .int a :: st) S (.invokestatic i) = mm_go (pc + 3) ls (.int (if k = 0 then (if b < a then b else a) else (if a < b then b else a)) :: st) S := by
    unfold mm_st mm_i2
    simp only [hl0, hl]
    exact mm_gdt (by simp [hc])
  exact mm_ex_go ht hd rfl e1 mm_nn
theorem mx_stat (ht : mm_mt[y]? = some t) {i na z : Nat} (as : List Value) (hd : decode t.2.1 pc = .ok (.invokestatic i, 3)) (hl0 : mm_fd mm_AC t.2.2.2.2 i = none) (hl1 : mm_fd mm_MX t.2.2.2.2 i = none) (hl : mm_fd mm_ST t.2.2.2.2 i = some (na, z)) (hn : as.length = na) (hz : z < mm_nc) (hc : mm_cs st ≤ 8) : mm_ex (d + 1) y pc ls (as.reverse ++ st) S = mm_bd (mm_cl d z as S) (fun v S2 => mm_ex (d + 1) y (pc + 3) ls (v.toList ++ st) S2) := by
  have hr : as.reverse.length = na := by rw [List.length_reverse]; exact hn
  have e1 : mm_st (d + 1) t pc ls (as.reverse ++ st) S (.invokestatic i) = mm_ca z as st S := by
    unfold mm_st
    simp only [hl0, hl1, hl]
    rw [List.take_left' hr, List.drop_left' hr, List.reverse_reverse]
    exact mm_gdt (by simp [hc]; omega)
  exact mm_ex_ca ht hd rfl e1 rfl mm_nn hz
theorem mx_virt (ht : mm_mt[y]? = some t) {i na z k a : Nat} {l : List (Nat × Nat)} (as : List Value) (hd : decode t.2.1 pc = .ok (.invokevirtual i, 3)) (hl : mm_fd mm_VT t.2.2.2.2 i = some (na, l)) (hk : mm_lu l k = some z) (hn : as.length = na) (hz : z < mm_nc) (hc : mm_cs st ≤ 8) (hr : mm_rk S a = k) : mm_ex (d + 1) y pc ls (as.reverse ++ .ref a :: st) S = mm_bd (mm_cl d z (.ref a :: as) S) (fun v S2 => mm_ex (d + 1) y (pc + 3) ls (v.toList ++ st) S2) := by
  have hr1 : as.reverse.length = na := by rw [List.length_reverse]; exact hn
  have e1 : mm_st (d + 1) t pc ls (as.reverse ++ .ref a :: st) S (.invokevirtual i) = mm_ca z (.ref a :: as) st S := by
    unfold mm_st
    simp only [hl]
    rw [List.take_left' hr1, List.drop_left' hr1, List.reverse_reverse]
    refine (mm_gdt (by simp; omega)).trans ?_
    simp only [mm_r1, hr, hk]
    exact mm_gdt (by simp [hc])
  exact mm_ex_ca ht hd rfl e1 rfl mm_nn hz
theorem mx_spec (ht : mm_mt[y]? = some t) {i na z srt a : Nat} (as : List Value) (hd : decode t.2.1 pc = .ok (.invokespecial i, 3)) (hl0 : mm_fd mm_OI t.2.2.2.2 i = none) (hl : mm_fd mm_SP t.2.2.2.2 i = some (na, z, srt)) (hn : as.length = na) (hz : z < mm_nc) (hc : mm_cs st ≤ 8) (hr : (decide (a < mm_n S) && decide (mm_K S a < 13)) = true) : mm_ex (d + 1) y pc ls (as.reverse ++ .ref a :: st) S = mm_bd (mm_cl d z (.ref a :: as) S) (fun v S2 => mm_ex (d + 1) y (pc + 3) ls (v.toList ++ st) S2) := by
  have hr1 : as.reverse.length = na := by rw [List.length_reverse]; exact hn
  have e1 : mm_st (d + 1) t pc ls (as.reverse ++ .ref a :: st) S (.invokespecial i) = mm_ca z (.ref a :: as) st S := by
    unfold mm_st
    simp only [hl0, hl]
    rw [List.take_left' hr1, List.drop_left' hr1, List.reverse_reverse]
    refine (mm_gdt (by simp; omega)).trans ?_
    simp only [mm_r1]
    rw [Bool.and_eq_true] at hr
    exact mm_gdt (by simp only [hc, decide_true, Bool.true_and]; rw [hr.1, hr.2]; rfl)
  exact mm_ex_ca ht hd rfl e1 rfl mm_nn hz
theorem mx_iret (ht : mm_mt[y]? = some t) {ty : FieldType} {x : Int32} (hd : decode t.2.1 pc = .ok (.ireturn, 1)) (hr : t.2.2.2.1 = some ty) (h : narrow ty (.int x) = .int x) (hy : ty ≠ .long) : mm_ex d y pc ls [.int x] S = some (some (.int x), S) := by
  have e1 : mm_st d t pc ls [.int x] S .ireturn = mm_rt (some (.int x)) S := by
    show mm_ire [.int x] t.2.2.2.1 S = _
    rw [hr]
    exact if_pos ⟨h, hy⟩
  exact mm_ex_rt ht hd rfl e1 rfl mm_nn
theorem mx_lret (ht : mm_mt[y]? = some t) {x : Int64} (hd : decode t.2.1 pc = .ok (.lreturn, 1)) (hr : t.2.2.2.1 = some .long) : mm_ex d y pc ls [.long x] S = some (some (.long x), S) := by
  have e1 : mm_st d t pc ls [.long x] S .lreturn = mm_rt (some (.long x)) S := by
    show mm_lre [.long x] t.2.2.2.1 S = _
    rw [hr]; rfl
  exact mm_ex_rt ht hd rfl e1 rfl mm_nn
theorem mx_aret (ht : mm_mt[y]? = some t) {n : String} {a : Nat} (hd : decode t.2.1 pc = .ok (.areturn, 1)) (hr : t.2.2.2.1 = some (.object n)) : mm_ex d y pc ls [.ref a] S = some (some (.ref a), S) := by
  have e1 : mm_st d t pc ls [.ref a] S .areturn = mm_rt (some (.ref a)) S := by
    show mm_are [.ref a] t.2.2.2.1 S = _
    rw [hr]; rfl
  exact mm_ex_rt ht hd rfl e1 rfl mm_nn
theorem mx_vret (ht : mm_mt[y]? = some t) (hd : decode t.2.1 pc = .ok (.return_, 1)) (hr : t.2.2.2.1 = none) : mm_ex d y pc ls [] S = some (none, S) := by
  have e1 : mm_st d t pc ls [] S .return_ = mm_rt none S := by
    show mm_vre [] t.2.2.2.1 S = _
    rw [hr]; rfl
  exact mm_ex_rt ht hd rfl e1 rfl mm_nn
theorem mm_cl_eq (ht : mm_mt[y]? = some t) {as ls' : List Value} (hf : (mm_as as).length ≤ t.2.2.1) (he : mm_en t.2.2.1 as = ls') : mm_cl d y as S = mm_ex d y 0 ls' [] S := by
  subst he
  unfold mm_cl
  simp only [ht]
  exact if_pos hf
theorem mm_nz {x : Int32} (h : x = 0 ∨ x = 1) : narrow .boolean (.int x) = .int x := by rcases h with rfl | rfl <;> rfl
end MX
end
section
/-! ===== writes of one cell; references read as numbers; switches ===== -/
def mm_uM (S : mm_S) (a k : Nat) (x : Int32) : mm_S := mm_sM S a (mm_u (mm_M S a) k x)
def mm_uL (S : mm_S) (a k : Nat) (x : Int64) : mm_S := mm_sL S a (mm_u (mm_L S a) k x)
def mm_uR (S : mm_S) (a k : Nat) (o : Option Nat) : mm_S := mm_sR S a (mm_u (mm_R S a) k o)
def mm_cpM (S : mm_S) (a0 a sp dp n : Nat) : mm_S := mm_sM S a (va_cpy (mm_M S a0) (mm_M S a) sp dp n)
def mm_cpL (S : mm_S) (a0 a sp dp n : Nat) : mm_S := mm_sL S a (va_cpy (mm_L S a0) (mm_L S a) sp dp n)
def mm_rg (S : mm_S) (a k : Nat) : Nat := (mm_R S a k).getD 0
section MXB
variable {d y pc : Nat} {ls st : List Value} {S : mm_S} {t : mm_mT}
theorem mm_rv_rg {a k : Nat} (h : (mm_R S a k).isSome = true) : mm_rv (mm_R S a k) = .ref (mm_rg S a k) := by
  obtain ⟨b, hb⟩ := Option.isSome_iff_exists.mp h
  unfold mm_rg
  rw [hb]; rfl
theorem mx_getR (ht : mm_mt[y]? = some t) {i f k fi a : Nat} (hd : decode t.2.1 pc = .ok (.getfield i, 3)) (h : decide (t.2.2.2.2 = 13) = false) (hl : mm_fd mm_FL t.2.2.2.2 i = some (f, k, 2, fi)) (ho : mm_obj S a f = true) (hr : (mm_R S a k).isSome = true) : mm_ex d y pc ls (.ref a :: st) S = mm_ex d y (pc + 3) ls (.ref (mm_rg S a k) :: st) S := by
  rw [mx_getr ht hd h hl ho, mm_rv_rg hr]
theorem mx_qaldR (ht : mm_mt[y]? = some t) {a : Nat} {i : Int32} (hd : decode t.2.1 pc = .ok (.aaload, 1)) (h1 : (mm_arr S a 16 || mm_arr S a 17 || mm_arr S a 18) = true) (h2 : mm_inb i (mm_N S a) = true) (hr : (mm_R S a i.toNatClampNeg).isSome = true) : mm_ex d y pc ls (.int i :: .ref a :: st) S = mm_ex d y (pc + 1) ls (.ref (mm_rg S a i.toNatClampNeg) :: st) S := by
  rw [mx_qald ht hd h1 h2, mm_rv_rg hr]
theorem mx_puti2 (ht : mm_mt[y]? = some t) {i f k fi a : Nat} {x : Int32} (hd : decode t.2.1 pc = .ok (.putfield i, 3)) (hl : mm_fd mm_FL t.2.2.2.2 i = some (f, k, 0, fi)) (hi : (decide (fi = 0) || (decide (t.1.name = "<init>") && decide ((mm_T f k).1 = t.1.cls))) = true) (ho : mm_obj S a f = true) : mm_ex d y pc ls (.int x :: .ref a :: st) S = mm_ex d y (pc + 3) ls st (mm_uM S a k x) := mx_puti ht hd hl hi ho
theorem mx_putz2 (ht : mm_mt[y]? = some t) {i f k fi a : Nat} {x : Int32} (hd : decode t.2.1 pc = .ok (.putfield i, 3)) (hl : mm_fd mm_FL t.2.2.2.2 i = some (f, k, 3, fi)) (hi : (decide (fi = 0) || (decide (t.1.name = "<init>") && decide ((mm_T f k).1 = t.1.cls))) = true) (ho : mm_obj S a f = true) (hx : x = nI 0 ∨ x = nI 1) : mm_ex d y pc ls (.int x :: .ref a :: st) S = mm_ex d y (pc + 3) ls st (mm_uM S a k x) := mx_putz ht hd hl hi ho hx
theorem mx_putj2 (ht : mm_mt[y]? = some t) {i f k fi a : Nat} {x : Int64} (hd : decode t.2.1 pc = .ok (.putfield i, 3)) (hl : mm_fd mm_FL t.2.2.2.2 i = some (f, k, 1, fi)) (hi : (decide (fi = 0) || (decide (t.1.name = "<init>") && decide ((mm_T f k).1 = t.1.cls))) = true) (ho : mm_obj S a f = true) : mm_ex d y pc ls (.long x :: .ref a :: st) S = mm_ex d y (pc + 3) ls st (mm_uL S a k x) := mx_putj ht hd hl hi ho
theorem mx_putr2 (ht : mm_mt[y]? = some t) {i f k fi a b : Nat} (hd : decode t.2.1 pc = .ok (.putfield i, 3)) (hl : mm_fd mm_FL t.2.2.2.2 i = some (f, k, 2, fi)) (hi : (decide (fi = 0) || (decide (t.1.name = "<init>") && decide ((mm_T f k).1 = t.1.cls))) = true) (ho : mm_obj S a f = true) (hb : b < mm_n S) : mm_ex d y pc ls (.ref b :: .ref a :: st) S = mm_ex d y (pc + 3) ls st (mm_uR S a k (some b)) := mx_putr ht hd hl hi ho hb
theorem mx_iast2 (ht : mm_mt[y]? = some t) {a : Nat} {i x : Int32} (hd : decode t.2.1 pc = .ok (.iastore, 1)) (h1 : mm_arr S a 13 = true) (h2 : mm_inb i (mm_N S a) = true) : mm_ex d y pc ls (.int x :: .int i :: .ref a :: st) S = mm_ex d y (pc + 1) ls st (mm_uM S a i.toNatClampNeg x) := mx_iast ht hd h1 h2
theorem mx_zast2 (ht : mm_mt[y]? = some t) {a : Nat} {i x : Int32} (hd : decode t.2.1 pc = .ok (.bastore, 1)) (h1 : mm_arr S a 15 = true) (h2 : mm_inb i (mm_N S a) = true) : mm_ex d y pc ls (.int x :: .int i :: .ref a :: st) S = mm_ex d y (pc + 1) ls st (mm_uM S a i.toNatClampNeg (vp_nar .boolean x)) := mx_zast ht hd h1 h2
theorem mx_last2 (ht : mm_mt[y]? = some t) {a : Nat} {i : Int32} {x : Int64} (hd : decode t.2.1 pc = .ok (.lastore, 1)) (h1 : mm_arr S a 14 = true) (h2 : mm_inb i (mm_N S a) = true) : mm_ex d y pc ls (.long x :: .int i :: .ref a :: st) S = mm_ex d y (pc + 1) ls st (mm_uL S a i.toNatClampNeg x) := mx_last ht hd h1 h2
theorem mx_qast2 (ht : mm_mt[y]? = some t) {a b : Nat} {i : Int32} (hd : decode t.2.1 pc = .ok (.aastore, 1)) (h1 : (mm_arr S a 16 || mm_arr S a 17 || mm_arr S a 18) = true) (h2 : mm_inb i (mm_N S a) = true) (h3 : mm_obj S b (if mm_K S a = 16 then 0 else if mm_K S a = 17 then 6 else 8) = true) : mm_ex d y pc ls (.ref b :: .int i :: .ref a :: st) S = mm_ex d y (pc + 1) ls st (mm_uR S a i.toNatClampNeg (some b)) := mx_qast ht hd h1 h2 h3
theorem mx_qastO (ht : mm_mt[y]? = some t) {a : Nat} {o : Option Nat} {i : Int32} (hd : decode t.2.1 pc = .ok (.aastore, 1)) (h1 : (mm_arr S a 16 || mm_arr S a 17 || mm_arr S a 18) = true) (h2 : mm_inb i (mm_N S a) = true) (h3 : ∀ e, o = some e → mm_obj S e (if mm_K S a = 16 then 0 else if mm_K S a = 17 then 6 else 8) = true) : mm_ex d y pc ls (mm_rv o :: .int i :: .ref a :: st) S = mm_ex d y (pc + 1) ls st (mm_uR S a i.toNatClampNeg o) := by
  cases o with
  | none => exact mx_qastN ht hd h1 h2
  | some b => exact mx_qast ht hd h1 h2 (h3 b rfl)
theorem mx_cpi2 (ht : mm_mt[y]? = some t) {i a a0 : Nat} {sp dp n : Int32} (hd : decode t.2.1 pc = .ok (.invokestatic i, 3)) (hl : mm_fd mm_AC t.2.2.2.2 i = some ()) (hc : mm_cs st ≤ 8) (h1 : mm_arr S a0 13 = true) (h2 : mm_arr S a 13 = true) (h3 : mm_cpOk sp dp n (mm_N S a0) (mm_N S a) = true) : mm_ex (d + 1) y pc ls (.int n :: .int dp :: .ref a :: .int sp :: .ref a0 :: st) S = mm_ex (d + 1) y (pc + 3) ls st (mm_cpM S a0 a sp.toNatClampNeg dp.toNatClampNeg n.toNatClampNeg) := mx_cpi ht hd hl hc h1 h2 h3
theorem mx_cpl2 (ht : mm_mt[y]? = some t) {i a a0 : Nat} {sp dp n : Int32} (hd : decode t.2.1 pc = .ok (.invokestatic i, 3)) (hl : mm_fd mm_AC t.2.2.2.2 i = some ()) (hc : mm_cs st ≤ 8) (h1 : mm_arr S a0 14 = true) (h2 : mm_arr S a 14 = true) (h3 : mm_cpOk sp dp n (mm_N S a0) (mm_N S a) = true) : mm_ex (d + 1) y pc ls (.int n :: .int dp :: .ref a :: .int sp :: .ref a0 :: st) S = mm_ex (d + 1) y (pc + 3) ls st (mm_cpL S a0 a sp.toNatClampNeg dp.toNatClampNeg n.toNatClampNeg) := mx_cpl ht hd hl hc h1 h2 h3
theorem mx_tswI (ht : mm_mt[y]? = some t) {df lo hi : Int} {offs : Array Int} {len tg : Nat} {x : Int32} (hd : decode t.2.1 pc = .ok (.tableswitch df lo hi offs, len)) (h : ¬(x.toInt < lo ∨ hi < x.toInt)) {off : Int} (ho : offs[(x.toInt - lo).toNat]? = some off) (he : (pc : Int) + off = (tg : Int)) : mm_ex d y pc ls (.int x :: st) S = mm_ex d y tg ls st S := by
  refine mx_tsw ht hd ?_
  rw [if_neg h, ho]
  exact mm_jpt he
theorem mx_tswD (ht : mm_mt[y]? = some t) {df lo hi : Int} {offs : Array Int} {len tg : Nat} {x : Int32} (hd : decode t.2.1 pc = .ok (.tableswitch df lo hi offs, len)) (h : x.toInt < lo ∨ hi < x.toInt) (he : (pc : Int) + df = (tg : Int)) : mm_ex d y pc ls (.int x :: st) S = mm_ex d y tg ls st S := by
  refine mx_tsw ht hd ?_
  rw [if_pos h]
  exact mm_jpt he
theorem mm_ni32 {x y : Int32} (h : ¬ x = y) : ¬ x.toInt = y.toInt := fun e => h (Int32.toInt_inj.mp e)
end MXB
end
