/-! ===== a small machine over numbered cells: what an instruction does, as a function ===== -/
abbrev mm_S : Type := (Nat → Nat → Int32) × (Nat → Nat → Int64) × (Nat → Nat → Option Nat) × (Nat → Nat) × (Nat → Nat) × Nat × Nat
def mm_M (S : mm_S) : Nat → Nat → Int32 := S.1
def mm_L (S : mm_S) : Nat → Nat → Int64 := S.2.1
def mm_R (S : mm_S) : Nat → Nat → Option Nat := S.2.2.1
def mm_K (S : mm_S) : Nat → Nat := S.2.2.2.1
def mm_N (S : mm_S) : Nat → Nat := S.2.2.2.2.1
def mm_n (S : mm_S) : Nat := S.2.2.2.2.2.1
def mm_z (S : mm_S) : Nat := S.2.2.2.2.2.2
def mm_u {α : Type} (f : Nat → α) (k : Nat) (x : α) : Nat → α := fun j => if j = k then x else f j
def mm_sM (S : mm_S) (a : Nat) (f : Nat → Int32) : mm_S := (mm_u S.1 a f, S.2)
def mm_sL (S : mm_S) (a : Nat) (f : Nat → Int64) : mm_S := (S.1, mm_u S.2.1 a f, S.2.2)
def mm_sR (S : mm_S) (a : Nat) (f : Nat → Option Nat) : mm_S := (S.1, S.2.1, mm_u S.2.2.1 a f, S.2.2.2)
/-- a new cell of a kind, of so many places -/
def mm_nw (S : mm_S) (k n : Nat) : mm_S := (mm_u S.1 S.2.2.2.2.2.1 (fun _ => 0), mm_u S.2.1 S.2.2.2.2.2.1 (fun _ => 0), mm_u S.2.2.1 S.2.2.2.2.2.1 (fun _ => none), mm_u S.2.2.2.1 S.2.2.2.2.2.1 k, mm_u S.2.2.2.2.1 S.2.2.2.2.2.1 n, S.2.2.2.2.2.1 + 1, S.2.2.2.2.2.2 + n)
/-- the script's number; a String constant's is 1000000 + 2k, its bytes' the next; the formatter is no number -/
abbrev mm_SC : Nat := 3000000
abbrev mm_FM : Value := .retAddr 0
abbrev mm_Act : Type := Option ((Nat × List Value × List Value × mm_S) ⊕ ((Nat × List Value × List Value × mm_S) ⊕ (Option Value × mm_S)))
abbrev mm_Res : Type := Option (Option Value × mm_S)
def mm_go (pc : Nat) (ls st : List Value) (S : mm_S) : mm_Act := some (.inl (pc, ls, st, S))
def mm_ca (y : Nat) (as st : List Value) (S : mm_S) : mm_Act := some (.inr (.inl (y, as, st, S)))
def mm_rt (v : Option Value) (S : mm_S) : mm_Act := some (.inr (.inr (v, S)))
def mm_rv : Option Nat → Value
  | some a => .ref a
  | none => .null
def mm_lg (ls : List Value) (k : Nat) : Value := ls.getD k .null
def mm_k1 (v : Value) : Value := if v.category = 2 then .null else v
def mm_kl (ls : List Value) : Nat → List Value
  | 0 => ls
  | k + 1 => ls.set k (mm_k1 (mm_lg ls k))
def mm_l1 (ls : List Value) (k : Nat) (v : Value) : List Value := (mm_kl ls k).set k v
def mm_l2 (ls : List Value) (k : Nat) (v : Value) : List Value := ((mm_kl ls k).set k v).set (k + 1) .null
def mm_i1 (st : List Value) (f : Int32 → List Value → mm_Act) : mm_Act := match st with
  | .int x :: r => f x r
  | _ => none
def mm_i2 (st : List Value) (f : Int32 → Int32 → List Value → mm_Act) : mm_Act := match st with
  | .int y :: .int x :: r => f x y r
  | _ => none
def mm_j1 (st : List Value) (f : Int64 → List Value → mm_Act) : mm_Act := match st with
  | .long x :: r => f x r
  | _ => none
def mm_j2 (st : List Value) (f : Int64 → Int64 → List Value → mm_Act) : mm_Act := match st with
  | .long y :: .long x :: r => f x y r
  | _ => none
def mm_r1 (st : List Value) (f : Nat → List Value → mm_Act) : mm_Act := match st with
  | .ref a :: r => f a r
  | _ => none
def mm_pr (st : List Value) (f : Value → Nat → List Value → mm_Act) : mm_Act := match st with
  | v :: .ref a :: r => f v a r
  | _ => none
def mm_v1 (st : List Value) (f : Value → List Value → mm_Act) : mm_Act := match st with
  | v :: r => f v r
  | _ => none
def mm_gd (b : Bool) (A : mm_Act) : mm_Act := if b = true then A else none
def mm_jp (pc : Nat) (off : Int) (ls st : List Value) (S : mm_S) : mm_Act := if (pc : Int) + off < 0 then none else mm_go ((pc : Int) + off).toNat ls st S
def mm_cj (b : Bool) (pc : Nat) (off : Int) (ls st : List Value) (S : mm_S) : mm_Act := if (pc : Int) + off < 0 then none else if b = true then mm_go ((pc : Int) + off).toNat ls st S else mm_go (pc + 3) ls st S
def mm_c1 (c : ClassFile.Cond) (x : Int32) : Bool := match c with
  | .eq => decide (x = 0)
  | .ne => !decide (x = 0)
  | .lt => decide (x < 0)
  | .ge => decide (0 ≤ x)
  | .gt => decide (0 < x)
  | .le => decide (x ≤ 0)
def mm_c2 (c : ClassFile.Cond) (x y : Int32) : Bool := match c with
  | .eq => decide (x = y)
  | .ne => !decide (x = y)
  | .lt => decide (x < y)
  | .ge => decide (y ≤ x)
  | .gt => decide (y < x)
  | .le => decide (x ≤ y)
def mm_inb (i : Int32) (n : Nat) : Bool := !(decide (i < 0) || decide (n ≤ i.toNatClampNeg))
def mm_cs : List Value → Nat
  | [] => 0
  | v :: l => v.category + mm_cs l
def mm_obj (S : mm_S) (a f : Nat) : Bool := decide (a < mm_n S) && decide (mm_K S a < 13) && mm_fam f (mm_K S a)
def mm_arr (S : mm_S) (a k : Nat) : Bool := decide (a < mm_n S) && decide (mm_K S a = k)
def mm_isS (a : Nat) : Bool := decide (1000000 ≤ a) && decide (a < 1000000 + 2 * 12) && decide (a % 2 = 0)
def mm_isB (a : Nat) : Bool := decide (1000000 ≤ a) && decide (a < 1000000 + 2 * 12) && decide (a % 2 = 1)
def mm_by (a : Nat) : List Int32 := (mm_sx (a % 1000000 / 2)).2.2
/-- the kind of a receiver -/
def mm_rk (S : mm_S) (a : Nat) : Nat := if a < mm_n S then (if mm_K S a < 13 then mm_K S a else 99) else if mm_isS a = true then 100 else 99
def mm_lu : List (Nat × Nat) → Nat → Option Nat
  | [], _ => none
  | e :: l, k => if e.1 == k then some e.2 else mm_lu l k
def mm_gf (S : mm_S) (fam k tg a : Nat) : Option Value := if mm_obj S a fam = true then (if tg = 1 then some (.long (mm_L S a k)) else if tg = 2 then some (mm_rv (mm_R S a k)) else some (.int (mm_M S a k))) else none
def mm_pf (S : mm_S) (fam k tg a : Nat) (v : Value) : Option mm_S := if mm_obj S a fam = true then (match tg, v with
    | 0, .int x => some (mm_sM S a (mm_u (mm_M S a) k x))
    | 3, .int x => if x = 0 ∨ x = 1 then some (mm_sM S a (mm_u (mm_M S a) k x)) else none
    | 1, .long x => some (mm_sL S a (mm_u (mm_L S a) k x))
    | 2, .ref b => if b < mm_n S then some (mm_sR S a (mm_u (mm_R S a) k (some b))) else none
    | _, _ => none) else none
def mm_cpOk (sp dp n : Int32) (n0 n1 : Nat) : Bool := !decide (sp < 0) && !decide (dp < 0) && !decide (n < 0) && decide (sp.toNatClampNeg + n.toNatClampNeg ≤ n0) && decide (dp.toNatClampNeg + n.toNatClampNeg ≤ n1)
def mm_ire (st : List Value) (rt : Option FieldType) (S : mm_S) : mm_Act := match st, rt with
  | [.int x], some ty => if narrow ty (.int x) = .int x ∧ ty ≠ .long then mm_rt (some (.int x)) S else none
  | _, _ => none
def mm_lre (st : List Value) (rt : Option FieldType) (S : mm_S) : mm_Act := match st, rt with
  | [.long x], some .long => mm_rt (some (.long x)) S
  | _, _ => none
def mm_are (st : List Value) (rt : Option FieldType) (S : mm_S) : mm_Act := match st, rt with
  | [.ref a], some (.object _) => mm_rt (some (.ref a)) S
  | _, _ => none
def mm_vre (st : List Value) (rt : Option FieldType) (S : mm_S) : mm_Act := match st, rt with
  | [], none => mm_rt none S
  | _, _ => none
/-- what one instruction does, at depth d, in the method t -/
def mm_st (d : Nat) (t : mm_mT) (pc : Nat) (ls st : List Value) (S : mm_S) : Instr → mm_Act
  | .iconst n => mm_go (pc + 1) ls (.int (Int32.ofInt n) :: st) S
  | .bipush n => mm_go (pc + 2) ls (.int (Int8.ofInt n).toInt32 :: st) S
  | .sipush n => mm_go (pc + 3) ls (.int (Int16.ofInt n).toInt32 :: st) S
  | .lconst n => mm_go (pc + 1) ls (.long (Int64.ofNat (n : Nat)) :: st) S
  | .ldc i => match mm_fd mm_LC t.2.2.2.2 i with
    | some v => mm_go (pc + 2) ls (v :: st) S
    | none => none
  | .ldc_w i => match mm_fd mm_LC t.2.2.2.2 i with
    | some (.int v) => mm_go (pc + 3) ls (.int v :: st) S
    | _ => none
  | .ldc2_w i => match mm_fd mm_L2 t.2.2.2.2 i with
    | some v => mm_go (pc + 3) ls (.long v :: st) S
    | none => none
  | .iload_n k => mm_i1 [mm_lg ls k] fun x _ => mm_go (pc + 1) ls (.int x :: st) S
  | .iload k => mm_i1 [mm_lg ls k] fun x _ => mm_go (pc + 2) ls (.int x :: st) S
  | .lload_n k => mm_j1 [mm_lg ls k] fun x _ => mm_go (pc + 1) ls (.long x :: st) S
  | .lload k => mm_j1 [mm_lg ls k] fun x _ => mm_go (pc + 2) ls (.long x :: st) S
  | .aload_n k => mm_r1 [mm_lg ls k] fun x _ => mm_go (pc + 1) ls (.ref x :: st) S
  | .aload k => mm_r1 [mm_lg ls k] fun x _ => mm_go (pc + 2) ls (.ref x :: st) S
  | .istore_n k => mm_i1 st fun x r => mm_gd (decide ((k : Nat) < ls.length)) (mm_go (pc + 1) (mm_l1 ls k (.int x)) r S)
  | .istore k => mm_i1 st fun x r => mm_gd (decide (k < ls.length)) (mm_go (pc + 2) (mm_l1 ls k (.int x)) r S)
  | .lstore_n k => mm_j1 st fun x r => mm_gd (decide ((k : Nat) + 1 < ls.length)) (mm_go (pc + 1) (mm_l2 ls k (.long x)) r S)
  | .lstore k => mm_j1 st fun x r => mm_gd (decide (k + 1 < ls.length)) (mm_go (pc + 2) (mm_l2 ls k (.long x)) r S)
  | .astore_n k => mm_r1 st fun x r => mm_gd (decide ((k : Nat) < ls.length)) (mm_go (pc + 1) (mm_l1 ls k (.ref x)) r S)
  | .astore k => mm_r1 st fun x r => mm_gd (decide (k < ls.length)) (mm_go (pc + 2) (mm_l1 ls k (.ref x)) r S)
  | .iinc k n => mm_i1 [mm_lg ls k] fun x _ => mm_gd (decide (k < ls.length)) (mm_go (pc + 3) (mm_l1 ls k (.int (x + Int32.ofInt n))) st S)
  | .iadd => mm_i2 st fun x y r => mm_go (pc + 1) ls (.int (x + y) :: r) S
  | .isub => mm_i2 st fun x y r => mm_go (pc + 1) ls (.int (x - y) :: r) S
  | .imul => mm_i2 st fun x y r => mm_go (pc + 1) ls (.int (x * y) :: r) S
  | .iand => mm_i2 st fun x y r => mm_go (pc + 1) ls (.int (x &&& y) :: r) S
  | .ior => mm_i2 st fun x y r => mm_go (pc + 1) ls (.int (x ||| y) :: r) S
  | .ixor => mm_i2 st fun x y r => mm_go (pc + 1) ls (.int (x ^^^ y) :: r) S
  | .idiv => mm_i2 st fun x y r => mm_gd (!decide (y = 0)) (mm_go (pc + 1) ls (.int (x / y) :: r) S)
  | .irem => mm_i2 st fun x y r => mm_gd (!decide (y = 0)) (mm_go (pc + 1) ls (.int (x - x / y * y) :: r) S)
  | .ishl => mm_i2 st fun x y r => mm_go (pc + 1) ls (.int (x <<< (y &&& 31)) :: r) S
  | .ishr => mm_i2 st fun x y r => mm_go (pc + 1) ls (.int (x >>> (y &&& 31)) :: r) S
  | .iushr => mm_i2 st fun x y r => mm_go (pc + 1) ls (.int (x.toUInt32 >>> (y.toUInt32 &&& Int32.toUInt32 31)).toInt32 :: r) S
  | .ineg => mm_i1 st fun x r => mm_go (pc + 1) ls (.int (-x) :: r) S
  | .i2l => mm_i1 st fun x r => mm_go (pc + 1) ls (.long x.toInt64 :: r) S
  | .i2b => mm_i1 st fun x r => mm_go (pc + 1) ls (.int x.toInt8.toInt32 :: r) S
  | .i2s => mm_i1 st fun x r => mm_go (pc + 1) ls (.int x.toInt16.toInt32 :: r) S
  | .i2c => mm_i1 st fun x r => mm_go (pc + 1) ls (.int (x.toUInt32 % 65536).toInt32 :: r) S
  | .l2i => mm_j1 st fun x r => mm_go (pc + 1) ls (.int x.toInt32 :: r) S
  | .ladd => mm_j2 st fun x y r => mm_go (pc + 1) ls (.long (x + y) :: r) S
  | .lsub => mm_j2 st fun x y r => mm_go (pc + 1) ls (.long (x - y) :: r) S
  | .lmul => mm_j2 st fun x y r => mm_go (pc + 1) ls (.long (x * y) :: r) S
  | .land => mm_j2 st fun x y r => mm_go (pc + 1) ls (.long (x &&& y) :: r) S
  | .lor => mm_j2 st fun x y r => mm_go (pc + 1) ls (.long (x ||| y) :: r) S
  | .ldiv => mm_j2 st fun x y r => mm_gd (!decide (y = 0)) (mm_go (pc + 1) ls (.long (x / y) :: r) S)
  | .lrem => mm_j2 st fun x y r => mm_gd (!decide (y = 0)) (mm_go (pc + 1) ls (.long (x - x / y * y) :: r) S)
  | .lshl => mm_i1 st fun y r => mm_j1 r fun x r => mm_go (pc + 1) ls (.long (x <<< (y.toInt64 &&& 63)) :: r) S
  | .lcmp => mm_j2 st fun x y r => mm_go (pc + 1) ls (.int (lg_cmp x y) :: r) S
  | .dup => match st with
    | v :: r => mm_gd (decide (v.category = 1)) (mm_go (pc + 1) ls (v :: v :: r) S)
    | _ => none
  | .pop => match st with
    | v :: r => mm_gd (decide (v.category = 1)) (mm_go (pc + 1) ls r S)
    | _ => none
  | .pop2 => match st with
    | .long _ :: r => mm_go (pc + 1) ls r S
    | _ => none
  | .dup2 => match st with
    | .long x :: r => mm_go (pc + 1) ls (.long x :: .long x :: r) S
    | v :: w :: r => mm_gd (decide (v.category = 1) && decide (w.category = 1)) (mm_go (pc + 1) ls (v :: w :: v :: w :: r) S)
    | _ => none
  | .goto off => mm_jp pc off ls st S
  | .ifCond c off => mm_i1 st fun x r => mm_cj (mm_c1 c x) pc off ls r S
  | .if_icmp c off => mm_i2 st fun x y r => mm_cj (mm_c2 c x y) pc off ls r S
  | .tableswitch df lo hi offs => mm_i1 st fun x r => if x.toInt < lo ∨ hi < x.toInt then mm_jp pc df ls r S else match offs[(x.toInt - lo).toNat]? with
    | some off => mm_jp pc off ls r S
    | none => none
  | .lookupswitch df ps => mm_i1 st fun x r => mm_gd ((ps.toList.zip (ps.toList.drop 1)).all (fun (a, next) => a.1 < next.1)) (mm_jp pc (Op.lookupswitch.offset ps.toList df x.toInt) ls r S)
  | .getstatic i => if t.2.2.2.2 = 13 ∧ i = 38 then mm_go (pc + 3) ls (.int 1 :: st) S else if t.2.2.2.2 = 13 ∧ i = 1053 then mm_go (pc + 3) ls (mm_FM :: st) S else none
  | .getfield i => mm_r1 st fun a r => if t.2.2.2.2 = 13 then (if mm_isS a = true then (if i = 9 then mm_go (pc + 3) ls (.ref (a + 1) :: r) S else if i = 15 then mm_go (pc + 3) ls (.int 0 :: r) S else none) else none) else match mm_fd mm_FL t.2.2.2.2 i with
    | some e => match mm_gf S e.1 e.2.1 e.2.2.1 a with
      | some v => mm_go (pc + 3) ls (v :: r) S
      | none => none
    | none => none
  | .putfield i => mm_pr st fun v a r => match mm_fd mm_FL t.2.2.2.2 i with
      | some e => mm_gd (decide (e.2.2.2 = 0) || (decide (t.1.name = "<init>") && decide ((mm_T e.1 e.2.1).1 = t.1.cls))) (match mm_pf S e.1 e.2.1 e.2.2.1 a v with
        | some S1 => mm_go (pc + 3) ls r S1
        | none => none)
      | none => none
  | .iaload => mm_i1 st fun i r => mm_r1 r fun a r => if mm_arr S a 13 = true then mm_gd (mm_inb i (mm_N S a)) (mm_go (pc + 1) ls (.int (mm_M S a i.toNatClampNeg) :: r) S) else mm_gd (decide (a = mm_SC) && decide (t.2.2.2.2 = 17) && mm_inb i (mm_N S a)) (mm_go (pc + 1) ls (.int (mm_M S a i.toNatClampNeg) :: r) S)
  | .laload => mm_i1 st fun i r => mm_r1 r fun a r => mm_gd (mm_arr S a 14 && mm_inb i (mm_N S a)) (mm_go (pc + 1) ls (.long (mm_L S a i.toNatClampNeg) :: r) S)
  | .baload => mm_i1 st fun i r => mm_r1 r fun a r => if mm_arr S a 15 = true then mm_gd (mm_inb i (mm_N S a)) (mm_go (pc + 1) ls (.int (mm_M S a i.toNatClampNeg) :: r) S) else mm_gd (mm_isB a && mm_inb i (mm_by a).length) (mm_go (pc + 1) ls (.int ((mm_by a).getD i.toNatClampNeg 0) :: r) S)
  | .aaload => mm_i1 st fun i r => mm_r1 r fun a r => mm_gd ((mm_arr S a 16 || mm_arr S a 17 || mm_arr S a 18) && mm_inb i (mm_N S a)) (mm_go (pc + 1) ls (mm_rv (mm_R S a i.toNatClampNeg) :: r) S)
  | .iastore => mm_i2 st fun i x r => mm_r1 r fun a r => mm_gd (mm_arr S a 13 && mm_inb i (mm_N S a)) (mm_go (pc + 1) ls r (mm_sM S a (mm_u (mm_M S a) i.toNatClampNeg x)))
  | .lastore => mm_j1 st fun x r => mm_i1 r fun i r => mm_r1 r fun a r => mm_gd (mm_arr S a 14 && mm_inb i (mm_N S a)) (mm_go (pc + 1) ls r (mm_sL S a (mm_u (mm_L S a) i.toNatClampNeg x)))
  | .bastore => mm_i2 st fun i x r => mm_r1 r fun a r => mm_gd (mm_arr S a 15 && mm_inb i (mm_N S a)) (mm_go (pc + 1) ls r (mm_sM S a (mm_u (mm_M S a) i.toNatClampNeg (vp_nar .boolean x))))
  | .aastore => mm_v1 st fun v r => mm_i1 r fun i r => mm_r1 r fun a r => mm_gd ((mm_arr S a 16 || mm_arr S a 17 || mm_arr S a 18) && mm_inb i (mm_N S a)) (match v with
      | .null => mm_go (pc + 1) ls r (mm_sR S a (mm_u (mm_R S a) i.toNatClampNeg none))
      | .ref b => mm_gd (mm_obj S b (if mm_K S a = 16 then 0 else if mm_K S a = 17 then 6 else 8)) (mm_go (pc + 1) ls r (mm_sR S a (mm_u (mm_R S a) i.toNatClampNeg (some b))))
      | _ => none)
  | .arraylength => mm_r1 st fun a r => if (decide (a < mm_n S) && decide (13 ≤ mm_K S a) && decide (mm_K S a < 19)) = true then mm_go (pc + 1) ls (.int (Int32.ofNat (mm_N S a)) :: r) S else if mm_isB a = true then mm_go (pc + 1) ls (.int (Int32.ofNat (mm_by a).length) :: r) S else mm_gd (decide (a = mm_SC) && decide (t.2.2.2.2 = 17)) (mm_go (pc + 1) ls (.int (Int32.ofNat (mm_N S a)) :: r) S)
  | .newarray ty => mm_i1 st fun n r => mm_gd (!decide (n < 0) && decide (n.toNatClampNeg ≤ 1000) && decide (mm_n S < 1000000)) (match ty with
    | .int => mm_go (pc + 2) ls (.ref (mm_n S) :: r) (mm_nw S 13 n.toNatClampNeg)
    | .long => mm_go (pc + 2) ls (.ref (mm_n S) :: r) (mm_nw S 14 n.toNatClampNeg)
    | .boolean => mm_go (pc + 2) ls (.ref (mm_n S) :: r) (mm_nw S 15 n.toNatClampNeg)
    | _ => none)
  | .anewarray i => mm_i1 st fun n r => mm_gd (!decide (n < 0) && decide (n.toNatClampNeg ≤ 1000) && decide (mm_n S < 1000000)) (match mm_fd mm_AN t.2.2.2.2 i with
    | some k => mm_go (pc + 3) ls (.ref (mm_n S) :: r) (mm_nw S k n.toNatClampNeg)
    | none => none)
  | .new i => mm_gd (decide (mm_n S < 1000000)) (match mm_fd mm_NW t.2.2.2.2 i with
    | some k => mm_go (pc + 3) ls (.ref (mm_n S) :: st) (mm_nw S k (mm_NF k))
    | none => none)
  | .instanceof i => mm_r1 st fun a r => match mm_fd mm_IO t.2.2.2.2 i with
    | some e => mm_gd (mm_obj S a 0) (mm_go (pc + 3) ls (.int (if mm_K S a ∈ e.2 then 1 else 0) :: r) S)
    | none => none
  | .invokestatic i => match mm_fd mm_AC t.2.2.2.2 i with
    | some _ => mm_i2 st fun dp n r => mm_r1 r fun a r => mm_i1 r fun sp r => mm_r1 r fun a0 r => mm_gd (decide (1 ≤ d) && decide (mm_cs r ≤ 8)) (if mm_arr S a0 13 && mm_arr S a 13 && mm_cpOk sp dp n (mm_N S a0) (mm_N S a) then mm_go (pc + 3) ls r (mm_sM S a (va_cpy (mm_M S a0) (mm_M S a) sp.toNatClampNeg dp.toNatClampNeg n.toNatClampNeg)) else if mm_arr S a0 14 && mm_arr S a 14 && mm_cpOk sp dp n (mm_N S a0) (mm_N S a) then mm_go (pc + 3) ls r (mm_sL S a (va_cpy (mm_L S a0) (mm_L S a) sp.toNatClampNeg dp.toNatClampNeg n.toNatClampNeg)) else none)
    | none => match mm_fd mm_MX t.2.2.2.2 i with
     | some k => mm_i2 st fun x y r => mm_gd (decide (1 ≤ d) && decide (mm_cs r ≤ 8)) (mm_go (pc + 3) ls (.int (if k = 0 then (if y < x then y else x) else (if x < y then y else x)) :: r) S)
     | none => match mm_fd mm_ST t.2.2.2.2 i with
      | some e => mm_gd (decide (e.1 ≤ st.length) && decide (mm_cs (st.drop e.1) ≤ 8)) (mm_ca e.2 (st.take e.1).reverse (st.drop e.1) S)
      | none => none
  | .invokevirtual i => match mm_fd mm_VT t.2.2.2.2 i with
    | some e => mm_gd (decide (e.1 ≤ st.length)) (mm_r1 (st.drop e.1) fun a r => mm_gd (decide (mm_cs r ≤ 8)) (match mm_lu e.2 (mm_rk S a) with
      | some y => mm_ca y (.ref a :: (st.take e.1).reverse) r S
      | none => none))
    | none => none
  | .invokespecial i => match mm_fd mm_OI t.2.2.2.2 i with
    | some _ => mm_r1 st fun a r => mm_gd (decide (1 ≤ d) && decide (mm_cs r ≤ 8)) (mm_go (pc + 3) ls r S)
    | none => match mm_fd mm_SP t.2.2.2.2 i with
      | some e => mm_gd (decide (e.1 ≤ st.length)) (mm_r1 (st.drop e.1) fun a r => mm_gd (decide (mm_cs r ≤ 8) && decide (a < mm_n S) && decide (mm_K S a < 13)) (mm_ca e.2.1 (.ref a :: (st.take e.1).reverse) r S))
      | none => none
  | .ireturn => mm_ire st t.2.2.2.1 S
  | .lreturn => mm_lre st t.2.2.2.1 S
  | .areturn => mm_are st t.2.2.2.1 S
  | .return_ => mm_vre st t.2.2.2.1 S
  | _ => none
/-- how long an instruction is (0: a switch) -/
def mm_ln : Instr → Nat
  | .bipush _ | .ldc _ | .iload _ | .lload _ | .aload _ | .istore _ | .lstore _ | .astore _ | .newarray _ => 2
  | .sipush _ | .ldc_w _ | .ldc2_w _ | .iinc _ _ | .goto _ | .ifCond _ _ | .if_icmp _ _ | .getstatic _ | .getfield _ | .putfield _ | .anewarray _ | .new _ | .instanceof _ | .invokestatic _ | .invokevirtual _ | .invokespecial _ => 3
  | .tableswitch _ _ _ _ | .lookupswitch _ _ => 0
  | _ => 1
def mm_lk (i : Instr) (len : Nat) : Bool := decide (mm_ln i = 0) || decide (mm_ln i = len)
def mm_as : List Value → List Value
  | [] => []
  | v :: l => if v.category = 2 then v :: .null :: mm_as l else v :: mm_as l
def mm_en (n : Nat) (as : List Value) : List Value := mm_as as ++ List.replicate (n - (mm_as as).length) .null
def mm_iv (i : Instr) : Bool := match i with
  | .invokestatic _ | .invokevirtual _ | .invokespecial _ => true
  | _ => false
def mm_ir (i : Instr) : Bool := match i with
  | .ireturn | .lreturn | .areturn | .return_ => true
  | _ => false
/-- no step takes cells away; a call is a call, an end is an end -/
def mm_mo (i : Instr) (S : mm_S) (a : mm_Act) : Bool := match a with
  | none => true
  | some (.inl q) => decide (mm_n S ≤ mm_n q.2.2.2) && decide (mm_z S ≤ mm_z q.2.2.2)
  | some (.inr (.inl q)) => decide (mm_n S ≤ mm_n q.2.2.2) && decide (mm_z S ≤ mm_z q.2.2.2) && mm_iv i
  | some (.inr (.inr r)) => decide (mm_n S ≤ mm_n r.2) && decide (mm_z S ≤ mm_z r.2) && mm_ir i
def mm_run : Nat → Nat → Nat → Nat → List Value → List Value → mm_S → mm_Res
  | 0, _, _, _, _, _, _ => none
  | f + 1, d, y, pc, ls, st, S => match mm_mt[y]? with
    | none => none
    | some t => match decode t.2.1 pc with
      | .error _ => none
      | .ok (i, len) => if (mm_lk i len && mm_mo i S (mm_st d t pc ls st S i)) = true then (match mm_st d t pc ls st S i with
        | none => none
        | some (.inl q) => mm_run f d y q.1 q.2.1 q.2.2.1 q.2.2.2
        | some (.inr (.inl q)) => match d with
          | 0 => none
          | d + 1 => if q.1 < mm_nc then (match mm_mt[q.1]? with
            | none => none
            | some u => if (mm_as q.2.1).length ≤ u.2.2.1 then (match mm_run f d q.1 0 (mm_en u.2.2.1 q.2.1) [] q.2.2.2 with
              | none => none
              | some r => mm_run f (d + 1) y (pc + 3) ls (r.1.toList ++ q.2.2.1) r.2) else none) else none
        | some (.inr (.inr r)) => some r) else none
theorem mm_run_succ (f : Nat) : ∀ (d y pc : Nat) (ls st : List Value) (S : mm_S) (r : Option Value × mm_S), mm_run f d y pc ls st S = some r → mm_run (f + 1) d y pc ls st S = some r := by
  induction f with
  | zero => intro d y pc ls st S r h; cases h
  | succ f ih =>
    intro d y pc ls st S r h
    unfold mm_run at h ⊢
    cases ht : mm_mt[y]? with
    | none => rw [ht] at h; cases h
    | some t =>
      simp only [ht] at h ⊢
      cases hd : decode t.2.1 pc with
      | error x => rw [hd] at h; cases h
      | ok il =>
        obtain ⟨i, len⟩ := il
        simp only [hd] at h ⊢
        by_cases hl : (mm_lk i len && mm_mo i S (mm_st d t pc ls st S i)) = true
        · simp only [if_pos hl] at h ⊢
          cases ha : mm_st d t pc ls st S i with
          | none => rw [ha] at h; cases h
          | some A =>
            rcases A with q | q | q
            · simp only [ha] at h ⊢
              exact ih _ _ _ _ _ _ _ h
            · simp only [ha] at h ⊢
              cases d with
              | zero => cases h
              | succ d =>
                simp only at h ⊢
                by_cases hq : q.1 < mm_nc
                · simp only [if_pos hq] at h ⊢
                  cases hu : mm_mt[q.1]? with
                  | none => rw [hu] at h; cases h
                  | some u =>
                    simp only [hu] at h ⊢
                    by_cases hf : (mm_as q.2.1).length ≤ u.2.2.1
                    · simp only [if_pos hf] at h ⊢
                      cases hr : mm_run f d q.1 0 (mm_en u.2.2.1 q.2.1) [] q.2.2.2 with
                      | none => rw [hr] at h; cases h
                      | some z =>
                        rw [hr] at h
                        rw [ih _ _ _ _ _ _ _ hr]
                        exact ih _ _ _ _ _ _ _ h
                    · rw [if_neg hf] at h; cases h
                · rw [if_neg hq] at h; cases h
            · simp only [ha] at h ⊢
              exact h
        · rw [if_neg hl] at h; cases h
theorem mm_run_le {f g : Nat} (hfg : f ≤ g) {d y pc : Nat} {ls st : List Value} {S : mm_S} {r : Option Value × mm_S} (h : mm_run f d y pc ls st S = some r) : mm_run g d y pc ls st S = some r := by
  induction hfg with
  | refl => exact h
  | step _ ih => exact mm_run_succ _ _ _ _ _ _ _ _ ih
theorem mm_run_det {f g d y pc : Nat} {ls st : List Value} {S : mm_S} {r q : Option Value × mm_S} (h : mm_run f d y pc ls st S = some r) (h2 : mm_run g d y pc ls st S = some q) : r = q := by
  have a := mm_run_le (Nat.le_max_left f g) h
  have b := mm_run_le (Nat.le_max_right f g) h2
  exact Option.some.inj (a.symm.trans b)
/-- what a run comes to, however long it is -/
noncomputable def mm_ex (d y pc : Nat) (ls st : List Value) (S : mm_S) : mm_Res := by
  classical exact if h : ∃ r, ∃ f, mm_run f d y pc ls st S = some r then some (Classical.choose h) else none
theorem mm_ex_iff {d y pc : Nat} {ls st : List Value} {S : mm_S} {r : Option Value × mm_S} : mm_ex d y pc ls st S = some r ↔ ∃ f, mm_run f d y pc ls st S = some r := by
  classical
  unfold mm_ex
  constructor
  · intro h
    split at h
    · rename_i hx
      obtain ⟨f, hf⟩ := Classical.choose_spec hx
      exact ⟨f, by rw [hf]; exact h⟩
    · cases h
  · rintro ⟨f, hf⟩
    have hx : ∃ r, ∃ f, mm_run f d y pc ls st S = some r := ⟨r, f, hf⟩
    rw [dif_pos hx]
    obtain ⟨g, hg⟩ := Classical.choose_spec hx
    exact congrArg some (mm_run_det hg hf)
noncomputable def mm_cl (d y : Nat) (as : List Value) (S : mm_S) : mm_Res := match mm_mt[y]? with
  | none => none
  | some u => if (mm_as as).length ≤ u.2.2.1 then mm_ex d y 0 (mm_en u.2.2.1 as) [] S else none
def mm_bd (x : mm_Res) (k : Option Value → mm_S → mm_Res) : mm_Res := match x with
  | none => none
  | some r => k r.1 r.2
section MMX
variable {d y pc len : Nat} {ls st : List Value} {S : mm_S} {t : mm_mT} {i : Instr}
theorem mm_run_eq (ht : mm_mt[y]? = some t) (hd : decode t.2.1 pc = .ok (i, len)) (hl : (mm_lk i len && mm_mo i S (mm_st d t pc ls st S i)) = true) (f : Nat) : mm_run (f + 1) d y pc ls st S = (match mm_st d t pc ls st S i with
        | none => none
        | some (.inl q) => mm_run f d y q.1 q.2.1 q.2.2.1 q.2.2.2
        | some (.inr (.inl q)) => match (generalizing := false) d with
          | 0 => none
          | d + 1 => if q.1 < mm_nc then (match mm_mt[q.1]? with
            | none => none
            | some u => if (mm_as q.2.1).length ≤ u.2.2.1 then (match mm_run f d q.1 0 (mm_en u.2.2.1 q.2.1) [] q.2.2.2 with
              | none => none
              | some r => mm_run f (d + 1) y (pc + 3) ls (r.1.toList ++ q.2.2.1) r.2) else none) else none
        | some (.inr (.inr r)) => some r) := by
  conv => lhs; unfold mm_run
  simp only [ht, hd, if_pos hl]
theorem mm_ex_go (ht : mm_mt[y]? = some t) (hd : decode t.2.1 pc = .ok (i, len)) (hl : mm_lk i len = true) {pc' : Nat} {ls' st' : List Value} {S' : mm_S} (hs : mm_st d t pc ls st S i = mm_go pc' ls' st' S') (hm : mm_n S ≤ mm_n S' ∧ mm_z S ≤ mm_z S') : mm_ex d y pc ls st S = mm_ex d y pc' ls' st' S' := by
  have hl : (mm_lk i len && mm_mo i S (mm_st d t pc ls st S i)) = true := by
    rw [hs, hl]
    simp [mm_mo, mm_go, hm]
  apply Option.ext
  intro r
  rw [mm_ex_iff, mm_ex_iff]
  constructor
  · rintro ⟨f, h⟩
    cases f with
    | zero => cases h
    | succ f =>
      rw [mm_run_eq ht hd hl, hs] at h
      exact ⟨f, h⟩
  · rintro ⟨f, h⟩
    refine ⟨f + 1, ?_⟩
    rw [mm_run_eq ht hd hl, hs]
    exact h
theorem mm_ex_rt (ht : mm_mt[y]? = some t) (hd : decode t.2.1 pc = .ok (i, len)) (hl : mm_lk i len = true) {v : Option Value} {S' : mm_S} (hs : mm_st d t pc ls st S i = mm_rt v S') (hi : mm_ir i = true) (hm : mm_n S ≤ mm_n S' ∧ mm_z S ≤ mm_z S') : mm_ex d y pc ls st S = some (v, S') := by
  have hl : (mm_lk i len && mm_mo i S (mm_st d t pc ls st S i)) = true := by
    rw [hs, hl]
    simp [mm_mo, mm_rt, hm, hi]
  rw [mm_ex_iff]
  refine ⟨1, ?_⟩
  rw [mm_run_eq ht hd hl, hs]
  rfl
theorem mm_ex_ca (ht : mm_mt[y]? = some t) (hd : decode t.2.1 pc = .ok (i, len)) (hl : mm_lk i len = true) {z : Nat} {as st' : List Value} {S' : mm_S} (hs : mm_st (d + 1) t pc ls st S i = mm_ca z as st' S') (hi : mm_iv i = true) (hm : mm_n S ≤ mm_n S' ∧ mm_z S ≤ mm_z S') (hz : z < mm_nc) : mm_ex (d + 1) y pc ls st S = mm_bd (mm_cl d z as S') (fun v S2 => mm_ex (d + 1) y (pc + 3) ls (v.toList ++ st') S2) := by
  have hl : (mm_lk i len && mm_mo i S (mm_st (d + 1) t pc ls st S i)) = true := by
    rw [hs, hl]
    simp [mm_mo, mm_ca, hm, hi]
  apply Option.ext
  intro r
  have hzt : mm_mt[z]? = mm_mc[z]? := by
    unfold mm_mt
    rw [List.getElem?_append_left (by rw [mm_mc_len]; exact hz)]
  cases hu : mm_mt[z]? with
  | none =>
    rw [hzt] at hu
    have h1 := List.getElem?_eq_none_iff.mp hu
    rw [mm_mc_len] at h1
    omega
  | some u =>
    unfold mm_cl mm_bd
    simp only [hu]
    rw [mm_ex_iff]
    constructor
    · rintro ⟨f, h⟩
      cases f with
      | zero => cases h
      | succ f =>
        rw [mm_run_eq ht hd hl, hs] at h
        simp only [mm_ca, if_pos hz, hu] at h
        by_cases hf : (mm_as as).length ≤ u.2.2.1
        · simp only [if_pos hf] at h ⊢
          cases hr : mm_run f d z 0 (mm_en u.2.2.1 as) [] S' with
          | none => rw [hr] at h; cases h
          | some q =>
            rw [hr] at h
            rw [mm_ex_iff.mpr ⟨f, hr⟩]
            exact mm_ex_iff.mpr ⟨f, h⟩
        · rw [if_neg hf] at h; cases h
    · intro h
      by_cases hf : (mm_as as).length ≤ u.2.2.1
      · simp only [if_pos hf] at h
        cases hq : mm_ex d z 0 (mm_en u.2.2.1 as) [] S' with
        | none => rw [hq] at h; cases h
        | some q =>
          rw [hq] at h
          obtain ⟨f, hf1⟩ := mm_ex_iff.mp hq
          obtain ⟨g, hg1⟩ := mm_ex_iff.mp h
          refine ⟨max f g + 1, ?_⟩
          rw [mm_run_eq ht hd hl, hs]
          simp only [mm_ca, if_pos hz, hu, if_pos hf]
          rw [mm_run_le (Nat.le_max_left f g) hf1]
          exact mm_run_le (Nat.le_max_right f g) hg1
      · rw [if_neg hf] at h; cases h
end MMX
