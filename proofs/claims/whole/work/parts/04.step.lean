/-! THE ABSTRACT MACHINE. An item: its place in the bytes, the instruction, its length, two numbers (targets, fields, methods, kinds), constants, targets of a switch. -/
abbrev JL : Type := List (Option Value)
abbrev JIt : Type := Nat × Instr × Nat × Nat × Nat × Int32 × Int64 × List (Int32 × Nat)
abbrev JIt.pc (t : JIt) : Nat := t.1
abbrev JIt.ins (t : JIt) : Instr := t.2.1
abbrev JIt.len (t : JIt) : Nat := t.2.2.1
abbrev JIt.a (t : JIt) : Nat := t.2.2.2.1
abbrev JIt.b (t : JIt) : Nat := t.2.2.2.2.1
abbrev JIt.v (t : JIt) : Int32 := t.2.2.2.2.2.1
abbrev JIt.w (t : JIt) : Int64 := t.2.2.2.2.2.2.1
abbrev JIt.tl (t : JIt) : List (Int32 × Nat) := t.2.2.2.2.2.2.2
/-- what a straight instruction asks, and what comes of it -/
abbrev JO : Type := List Prop × JL × List Value × JS
def jbad (lv : JL) (st : List Value) (S : JS) : JO := ([False], lv, st, S)
def jclr (lv : JL) (i : Nat) : JL := match i with
  | 0 => lv
  | j + 1 => match lv.getD j none with
    | some v => if v.category = 2 then lv.set j none else lv
    | none => lv
def jst1 (lv : JL) (i : Nat) (v : Value) : JL := (jclr lv i).set i (some v)
def jst2 (lv : JL) (i : Nat) (v : Value) : JL := ((jclr lv i).set i (some v)).set (i + 1) none
def jldI (lv : JL) (st : List Value) (S : JS) (i : Nat) : JO := match lv.getD i none with
  | some (.int x) => ([], lv, .int x :: st, S)
  | _ => jbad lv st S
def jldL (lv : JL) (st : List Value) (S : JS) (i : Nat) : JO := match lv.getD i none with
  | some (.long x) => ([], lv, .long x :: st, S)
  | _ => jbad lv st S
def jldA (lv : JL) (st : List Value) (S : JS) (i : Nat) : JO := match lv.getD i none with
  | some (.ref x) => ([], lv, .ref x :: st, S)
  | some .null => ([], lv, .null :: st, S)
  | _ => jbad lv st S
def jstI (lv : JL) (st : List Value) (S : JS) (i : Nat) : JO := match st with
  | .int x :: r => ([], jst1 lv i (.int x), r, S)
  | _ => jbad lv st S
def jstL (lv : JL) (st : List Value) (S : JS) (i : Nat) : JO := match st with
  | .long x :: r => ([], jst2 lv i (.long x), r, S)
  | _ => jbad lv st S
def jstA (lv : JL) (st : List Value) (S : JS) (i : Nat) : JO := match st with
  | .ref x :: r => ([], jst1 lv i (.ref x), r, S)
  | .null :: r => ([], jst1 lv i .null, r, S)
  | _ => jbad lv st S
def jII (f : Int32 → Int32 → Int32) (lv : JL) (st : List Value) (S : JS) : JO := match st with
  | .int y :: .int x :: r => ([], lv, .int (f x y) :: r, S)
  | _ => jbad lv st S
def jLL (f : Int64 → Int64 → Int64) (lv : JL) (st : List Value) (S : JS) : JO := match st with
  | .long y :: .long x :: r => ([], lv, .long (f x y) :: r, S)
  | _ => jbad lv st S
def jIId (f : Int32 → Int32 → Int32) (lv : JL) (st : List Value) (S : JS) : JO := match st with
  | .int y :: .int x :: r => ([¬ y = 0], lv, .int (f x y) :: r, S)
  | _ => jbad lv st S
def jLLd (f : Int64 → Int64 → Int64) (lv : JL) (st : List Value) (S : JS) : JO := match st with
  | .long y :: .long x :: r => ([¬ y = 0], lv, .long (f x y) :: r, S)
  | _ => jbad lv st S
def jLI (f : Int64 → Int32 → Int64) (lv : JL) (st : List Value) (S : JS) : JO := match st with
  | .int y :: .long x :: r => ([], lv, .long (f x y) :: r, S)
  | _ => jbad lv st S
def jget (c k : Nat) (lv : JL) (st : List Value) (S : JS) : JO := match st with
  | .ref h :: r => match ftc c k with
    | 1 => ([jA S h c], lv, .long (jJ S h k) :: r, S)
    | 2 => ([jA S h c, ¬ jR S h k = none], lv, .ref (jr S h k) :: r, S)
    | _ => ([jA S h c], lv, .int (jI S h k) :: r, S)
  | _ => jbad lv st S
def jbit (x : Int32) : Prop := x = 0 ∨ x = 1
def jput (c k : Nat) (lv : JL) (st : List Value) (S : JS) : JO := match st with
  | .int x :: .ref h :: r => match ftc c k with
    | 0 => ([jA S h c], lv, r, uI S h k x)
    | 3 => ([jA S h c, jbit x], lv, r, uI S h k x)
    | _ => jbad lv st S
  | .long x :: .ref h :: r => match ftc c k with
    | 1 => ([jA S h c], lv, r, uJ S h k x)
    | _ => jbad lv st S
  | .ref x :: .ref h :: r => match ftc c k with
    | 2 => ([jA S h c], lv, r, uR S h k (some x))
    | _ => jbad lv st S
  | _ => jbad lv st S
/-- arrays, and the tables outside the heap: X is the script (its length, what it holds), TW the static table -/
def jTW (i : Nat) : Int64 := [0x5555555555555555, 0x3333333333333333, 0x0F0F0F0F0F0F0F0F, 0x00FF00FF00FF00FF, 0x0000FFFF0000FFFF, 0x00000000FFFFFFFF].getD i 0
def jaldI (lv : JL) (st : List Value) (S : JS) : JO := match st with
  | .int i :: .ref h :: r => ([jA S h 13, vp_in i (jZ S h)], lv, .int (jI S h i.toNatClampNeg) :: r, S)
  | _ => jbad lv st S
def jaldL (lv : JL) (st : List Value) (S : JS) : JO := match st with
  | .int i :: .ref h :: r => ([jA S h 14, vp_in i (jZ S h)], lv, .long (jJ S h i.toNatClampNeg) :: r, S)
  | _ => jbad lv st S
def jaldZ (lv : JL) (st : List Value) (S : JS) : JO := match st with
  | .int i :: .ref h :: r => ([jA S h 15, vp_in i (jZ S h)], lv, .int (jI S h i.toNatClampNeg) :: r, S)
  | _ => jbad lv st S
def jastI (lv : JL) (st : List Value) (S : JS) : JO := match st with
  | .int x :: .int i :: .ref h :: r => ([jA S h 13, vp_in i (jZ S h)], lv, r, uI S h i.toNatClampNeg x)
  | _ => jbad lv st S
def jastL (lv : JL) (st : List Value) (S : JS) : JO := match st with
  | .long x :: .int i :: .ref h :: r => ([jA S h 14, vp_in i (jZ S h)], lv, r, uJ S h i.toNatClampNeg x)
  | _ => jbad lv st S
def jastZ (lv : JL) (st : List Value) (S : JS) : JO := match st with
  | .int x :: .int i :: .ref h :: r => ([jA S h 15, vp_in i (jZ S h), jbit x], lv, r, uI S h i.toNatClampNeg x)
  | _ => jbad lv st S
def jastA (kd c : Nat) (lv : JL) (st : List Value) (S : JS) : JO := match st with
  | .ref x :: .int i :: .ref h :: r => ([jA S h kd, jA S x c, vp_in i (jZ S h)], lv, r, uR S h i.toNatClampNeg (some x))
  | .null :: .int i :: .ref h :: r => ([jA S h kd, vp_in i (jZ S h)], lv, r, uR S h i.toNatClampNeg none)
  | _ => jbad lv st S
def jalen (kd : Nat) (lv : JL) (st : List Value) (S : JS) : JO := match st with
  | .ref h :: r => ([jA S h kd], lv, .int (Int32.ofNat (jZ S h)) :: r, S)
  | _ => jbad lv st S
def jcopy (lv : JL) (st : List Value) (S : JS) : JO := match st with
  | .int n :: .int dp :: .ref h1 :: .int sp :: .ref h0 :: r => ([jA S h0 13, jA S h1 13, ¬ sp < 0, ¬ dp < 0, ¬ n < 0, sp.toNatClampNeg + n.toNatClampNeg ≤ jZ S h0, dp.toNatClampNeg + n.toNatClampNeg ≤ jZ S h1, (r.map fun v => v.category).sum ≤ 8], lv, r, uIf S h1 (va_cpy (jI S h0) (jI S h1) sp.toNatClampNeg dp.toNatClampNeg n.toNatClampNeg))
  | _ => jbad lv st S
def jmath (a : Nat) (lv : JL) (st : List Value) (S : JS) : JO := match st with
  | .int x :: r => if a = 9010 then ([(r.map fun v => v.category).sum ≤ 8], lv, .int (if 0 ≤ x then x else 0 - x) :: r, S) else (match r with
    | .int z :: q => if a = 9011 then ([(q.map fun v => v.category).sum ≤ 8], lv, .int (if z < x then x else z) :: q, S) else if a = 9012 then ([(q.map fun v => v.category).sum ≤ 8], lv, .int (if x < z then x else z) :: q, S) else jbad lv st S
    | _ => jbad lv st S)
  | .long x :: .long z :: q => if a = 9013 then ([(q.map fun v => v.category).sum ≤ 8], lv, .long (if x < z then z else x) :: q, S) else if a = 9014 then ([(q.map fun v => v.category).sum ≤ 8], lv, .long (if x < z then x else z) :: q, S) else jbad lv st S
  | _ => jbad lv st S
def jdup (lv : JL) (st : List Value) (S : JS) : JO := match st with
  | x :: r => ([x.category = 1], lv, x :: x :: r, S)
  | _ => jbad lv st S
def jpop (lv : JL) (st : List Value) (S : JS) : JO := match st with
  | x :: r => ([x.category = 1], lv, r, S)
  | _ => jbad lv st S
def jdup2 (lv : JL) (st : List Value) (S : JS) : JO := match st with
  | .int y :: .int x :: r => ([], lv, .int y :: .int x :: .int y :: .int x :: r, S)
  | .int y :: .ref x :: r => ([], lv, .int y :: .ref x :: .int y :: .ref x :: r, S)
  | _ => jbad lv st S
def jconv (lv : JL) (st : List Value) (S : JS) (b : Bool) : JO := match b, st with
  | true, .int x :: r => ([], lv, .long x.toInt64 :: r, S)
  | false, .long x :: r => ([], lv, .int x.toInt32 :: r, S)
  | _, _ => jbad lv st S
def jcmpL (lv : JL) (st : List Value) (S : JS) : JO := match st with
  | .long y :: .long x :: r => ([], lv, .int (lg_cmp x y) :: r, S)
  | _ => jbad lv st S
def jneg (lv : JL) (st : List Value) (S : JS) : JO := match st with
  | .int x :: r => ([], lv, .int (-x) :: r, S)
  | _ => jbad lv st S
def jinc (i : Nat) (v : Int32) (lv : JL) (st : List Value) (S : JS) : JO := match lv.getD i none with
  | some (.int x) => ([], jst1 lv i (.int (x + v)), st, S)
  | _ => jbad lv st S
def jushr (x y : Int32) : Int32 := (x.toUInt32 >>> (y.toUInt32 &&& Int32.toUInt32 31)).toInt32
def jlushr (x : Int64) (y : Int32) : Int64 := (x.toUInt64 >>> (y.toInt64.toUInt64 &&& Int64.toUInt64 63)).toInt64
/-- one straight instruction -/
def jx1 (t : JIt) (lv : JL) (st : List Value) (S : JS) : JO := match t.ins with
  | .iconst _ => ([], lv, .int t.v :: st, S)
  | .bipush _ => ([], lv, .int t.v :: st, S)
  | .sipush _ => ([], lv, .int t.v :: st, S)
  | .ldc _ => if t.b = 1 then ([], lv, .ref (jX + 10 + t.a) :: st, S) else ([], lv, .int t.v :: st, S)
  | .ldc_w _ => ([], lv, .int t.v :: st, S)
  | .lconst _ => ([], lv, .long t.w :: st, S)
  | .ldc2_w _ => ([], lv, .long t.w :: st, S)
  | .aconst_null => ([], lv, .null :: st, S)
  | .iload_n _ => jldI lv st S t.a
  | .iload _ => jldI lv st S t.a
  | .lload_n _ => jldL lv st S t.a
  | .lload _ => jldL lv st S t.a
  | .aload_n _ => jldA lv st S t.a
  | .aload _ => jldA lv st S t.a
  | .istore_n _ => jstI lv st S t.a
  | .istore _ => jstI lv st S t.a
  | .lstore_n _ => jstL lv st S t.a
  | .lstore _ => jstL lv st S t.a
  | .astore_n _ => jstA lv st S t.a
  | .astore _ => jstA lv st S t.a
  | .iinc _ _ => jinc t.a t.v lv st S
  | .iadd => jII (fun x y => x + y) lv st S
  | .isub => jII (fun x y => x - y) lv st S
  | .imul => jII (fun x y => x * y) lv st S
  | .iand => jII (fun x y => x &&& y) lv st S
  | .ior => jII (fun x y => x ||| y) lv st S
  | .ixor => jII (fun x y => x ^^^ y) lv st S
  | .ishl => jII (fun x y => x <<< (y &&& 31)) lv st S
  | .ishr => jII (fun x y => x >>> (y &&& 31)) lv st S
  | .iushr => jII jushr lv st S
  | .idiv => jIId (fun x y => x / y) lv st S
  | .irem => jIId (fun x y => x - x / y * y) lv st S
  | .ineg => jneg lv st S
  | .ladd => jLL (fun x y => x + y) lv st S
  | .lsub => jLL (fun x y => x - y) lv st S
  | .lmul => jLL (fun x y => x * y) lv st S
  | .land => jLL (fun x y => x &&& y) lv st S
  | .lor => jLL (fun x y => x ||| y) lv st S
  | .lxor => jLL (fun x y => x ^^^ y) lv st S
  | .ldiv => jLLd (fun x y => x / y) lv st S
  | .lrem => jLLd (fun x y => x - x / y * y) lv st S
  | .lshl => jLI (fun x y => x <<< (y.toInt64 &&& 63)) lv st S
  | .lshr => jLI (fun x y => x >>> (y.toInt64 &&& 63)) lv st S
  | .lushr => jLI jlushr lv st S
  | .i2l => jconv lv st S true
  | .l2i => jconv lv st S false
  | .lcmp => jcmpL lv st S
  | .dup => jdup lv st S
  | .dup2 => jdup2 lv st S
  | .pop => jpop lv st S
  | .getfield _ => jget t.a t.b lv st S
  | .putfield _ => jput t.a t.b lv st S
  | .iaload => jaldI lv st S
  | .laload => jaldL lv st S
  | .baload => jaldZ lv st S
  | .iastore => jastI lv st S
  | .lastore => jastL lv st S
  | .bastore => jastZ lv st S
  | .aastore => jastA t.a t.b lv st S
  | .arraylength => jalen t.a lv st S
  | .checkcast _ => (match st with
      | .ref h :: r => ([jA S h 13], lv, .ref h :: r, S)
      | _ => jbad lv st S)
  | .invokestatic _ => if t.a = 9000 then jcopy lv st S else jmath t.a lv st S
  | .invokespecial _ => if t.a = 9001 then (match st with
      | .ref _ :: r => ([(r.map fun v => v.category).sum ≤ 8], lv, r, S)
      | _ => jbad lv st S) else jbad lv st S
  | _ => jbad lv st S
/-- a fork -/
def jbr (t : JIt) (st : List Value) : Option (Prop × List Value) := match t.ins, st with
  | .ifCond .eq _, .int x :: r => some (x = 0, r)
  | .ifCond .ne _, .int x :: r => some (¬ x = 0, r)
  | .ifCond .lt _, .int x :: r => some (x < 0, r)
  | .ifCond .ge _, .int x :: r => some (0 ≤ x, r)
  | .ifCond .gt _, .int x :: r => some (0 < x, r)
  | .ifCond .le _, .int x :: r => some (x ≤ 0, r)
  | .if_icmp .eq _, .int y :: .int x :: r => some (x = y, r)
  | .if_icmp .ne _, .int y :: .int x :: r => some (¬ x = y, r)
  | .if_icmp .lt _, .int y :: .int x :: r => some (x < y, r)
  | .if_icmp .ge _, .int y :: .int x :: r => some (y ≤ x, r)
  | .if_icmp .gt _, .int y :: .int x :: r => some (y < x, r)
  | .if_icmp .le _, .int y :: .int x :: r => some (x ≤ y, r)
  | _, _ => none
/-- a jump: the next item, what is left on the stack -/
def jgo (t : JIt) (i : Nat) (st : List Value) : Option (Nat × List Value) := match t.ins, st with
  | .goto _, st => some (t.a, st)
  | .ifnull _, .null :: r => some (t.a, r)
  | .ifnull _, .ref _ :: r => some (i + 1, r)
  | .ifnonnull _, .null :: r => some (i + 1, r)
  | .ifnonnull _, .ref _ :: r => some (t.a, r)
  | _, _ => none
abbrev JC : Type := Nat × JL × List Value × JS × Nat × Nat
/-- a method: its class's name, its name, its bytes, locals, what it returns, items, the kind of its receiver (99: static), the number of its class -/
abbrev JM : Type := String × MethodName × ByteArray × Nat × Option FieldType × List JIt × Nat × Nat
abbrev JM.own (m : JM) : String := m.1
abbrev JM.y (m : JM) : MethodName := m.2.1
abbrev JM.cc (m : JM) : ByteArray := m.2.2.1
abbrev JM.nL (m : JM) : Nat := m.2.2.2.1
abbrev JM.ret (m : JM) : Option FieldType := m.2.2.2.2.1
abbrev JM.its (m : JM) : List JIt := m.2.2.2.2.2.1
abbrev JM.rk (m : JM) : Nat := m.2.2.2.2.2.2.1
abbrev JM.oi (m : JM) : Nat := m.2.2.2.2.2.2.2
def jrt (ret : Option FieldType) (v : Option Value) : Prop := match ret, v with
  | none, none => True
  | some .int, some (.int _) => True
  | some .boolean, some (.int x) => jbit x
  | some .long, some (.long _) => True
  | some (.object _), some (.ref _) => True
  | some (.object _), some .null => True
  | some (.array _), some (.ref _) => True
  | _, _ => False
def jstr (t : JIt) : Bool := match t.ins with
  | .ifCond _ _ | .if_icmp _ _ | .goto _ | .ifnull _ | .ifnonnull _ | .tableswitch _ _ _ _ | .lookupswitch _ _ | .ireturn | .lreturn | .areturn | .return_ | .new _ | .newarray _ | .anewarray _ | .aaload | .getstatic _ | .invokevirtual _ => false
  | .invokestatic _ => decide (9000 ≤ t.a)
  | .invokespecial _ => t.a == 9001
  | .iaload | .laload | .arraylength => !(t.a == 7)
  | _ => true
def jall : List Prop → Prop
  | [] => True
  | [p] => p
  | p :: q :: l => p ∧ jall (q :: l)
/-- the strings' lengths and chars -/
def jSL : List (List Nat) := [[100,97,110,103,101,114],[119,105,108,108],[98,97,114,115],[105,102],[111,114],[97,110,100],[110,111,116],[114,111,99,107],[116,111],[110,105,103,104,116],[115,116,111,114,109],[109,111,111,100],[102,97,114]]
/-- what one item does: what it asks; where it may go, and when; what it returns; which call it makes (method, arguments, the stack behind it, what room is left) -/
abbrev JB : Type := List Prop × List (Prop × JC) × Option (Option Value) × Option (Nat × List Value × List Value × Nat × Nat)
def jB0 : JB := ([False], [], none, none)
def jB1 (c : JC) : JB := ([], [(True, c)], none, none)
def jBx (o : JO) (i rc rs : Nat) : JB := (o.1, [(True, (i + 1, o.2.1, o.2.2.1, o.2.2.2, rc, rs))], none, none)
def jBr (o : Option (Prop × List Value)) (i j : Nat) (lv : JL) (S : JS) (rc rs : Nat) : JB := match o with
  | some (c, r) => ([], [(c, (j, lv, r, S, rc, rs)), (¬ c, (i + 1, lv, r, S, rc, rs))], none, none)
  | none => jB0
def jBg (o : Option (Nat × List Value)) (lv : JL) (S : JS) (rc rs : Nat) : JB := match o with
  | some (j, r) => jB1 (j, lv, r, S, rc, rs)
  | none => jB0
def jBs (t : JIt) (lv : JL) (st : List Value) (S : JS) (rc rs : Nat) : JB := match st with
  | .int x :: r => ([], t.tl.map (fun q => (x = q.1, (q.2, lv, r, S, rc, rs))) ++ [(∀ q ∈ t.tl, ¬ x = q.1, (t.a, lv, r, S, rc, rs))], none, none)
  | _ => jB0
def jBt (ret : Option FieldType) (st : List Value) : JB := match st with
  | [v] => ([jrt ret (some v)], [], some (some v), none)
  | _ => jB0
def jBt0 (ret : Option FieldType) (st : List Value) : JB := match st with
  | [] => ([jrt ret none], [], some none, none)
  | _ => jB0
def jBn (kd len i : Nat) (lv : JL) (r : List Value) (S : JS) (rc rs : Nat) : JB := ([1 ≤ rc, len ≤ rs, jN S < 1000000], [(True, (i + 1, lv, .ref (jN S) :: r, uNew S kd len, rc - 1, rs - len))], none, none)
def jBa (kd i : Nat) (lv : JL) (st : List Value) (S : JS) (rc rs : Nat) : JB := match st with
  | .int n :: r => ([¬ n < 0, n.toNatClampNeg ≤ 1000000, 1 ≤ rc, n.toNatClampNeg ≤ rs, jN S < 1000000], [(True, (i + 1, lv, .ref (jN S) :: r, uNew S kd n.toNatClampNeg, rc - 1, rs - n.toNatClampNeg))], none, none)
  | _ => jB0
def jBl (kd i : Nat) (lv : JL) (st : List Value) (S : JS) (rc rs : Nat) : JB := match st with
  | .int k :: .ref h :: r => ([jA S h kd, vp_in k (jZ S h)], [(jR S h k.toNatClampNeg = none, (i + 1, lv, .null :: r, S, rc, rs)), (¬ jR S h k.toNatClampNeg = none, (i + 1, lv, .ref (jr S h k.toNatClampNeg) :: r, S, rc, rs))], none, none)
  | _ => jB0
def jBw (i : Nat) (lv : JL) (st : List Value) (S : JS) (rc rs : Nat) : JB := match st with
  | .int k :: .ref h :: r => ([h = jX + 1, vp_in k 6], [(True, (i + 1, lv, .long (jTW k.toNatClampNeg) :: r, S, rc, rs))], none, none)
  | _ => jB0
def jBc (X : Option (Nat × (Nat → Int32))) (i : Nat) (lv : JL) (st : List Value) (S : JS) (rc rs : Nat) : JB := match X, st with
  | some (L, xs), .int k :: .ref h :: r => ([h = jX, vp_in k L], [(True, (i + 1, lv, .int (xs k.toNatClampNeg) :: r, S, rc, rs))], none, none)
  | _, _ => jB0
def jBcl (X : Option (Nat × (Nat → Int32))) (i : Nat) (lv : JL) (st : List Value) (S : JS) (rc rs : Nat) : JB := match X, st with
  | some (L, _), .ref h :: r => ([h = jX], [(True, (i + 1, lv, .int (Int32.ofNat L) :: r, S, rc, rs))], none, none)
  | _, _ => jB0
def jBsl (i : Nat) (lv : JL) (st : List Value) (S : JS) (rc rs : Nat) : JB := match st with
  | .ref h :: r => ([jX + 10 ≤ h, h < jX + 23, (r.map fun v => v.category).sum ≤ 8], [(True, (i + 1, lv, .int (Int32.ofNat (jSL.getD (h - (jX + 10)) []).length) :: r, S, rc, rs))], none, none)
  | _ => jB0
def jBsc (i : Nat) (lv : JL) (st : List Value) (S : JS) (rc rs : Nat) : JB := match st with
  | .int k :: .ref h :: r => ([jX + 10 ≤ h, h < jX + 23, vp_in k (jSL.getD (h - (jX + 10)) []).length, (r.map fun v => v.category).sum ≤ 8], [(True, (i + 1, lv, .int (Int32.ofNat ((jSL.getD (h - (jX + 10)) []).getD k.toNatClampNeg 0)) :: r, S, rc, rs))], none, none)
  | _ => jB0
def jBk (i : Nat) (lv : JL) (st : List Value) (S : JS) (rc rs : Nat) : JB := match st with
  | .ref h :: r => ([jA S h 13, 1 ≤ rc, jZ S h ≤ rs, jN S < 1000000, (r.map fun v => v.category).sum ≤ 8], [(True, (i + 1, lv, .ref (jN S) :: r, uIf (uNew S 13 (jZ S h)) (jN S) (jI S h), rc - 1, rs - jZ S h))], none, none)
  | _ => jB0
def jBv (bud : Nat → Nat × Nat) (rk : Nat → Nat) (k b : Nat) (st : List Value) (S : JS) (rc rs : Nat) : JB := match st.drop (b - 1) with
  | .ref h :: r => ([jA S h (rk k), (r.map fun v => v.category).sum ≤ 8, (bud k).1 ≤ rc, (bud k).2 ≤ rs], [], none, some (k, .ref h :: (st.take (b - 1)).reverse, r, rc - (bud k).1, rs - (bud k).2))
  | _ => jB0
def jBz (bud : Nat → Nat × Nat) (k b : Nat) (st : List Value) (rc rs : Nat) : JB :=
  ([b ≤ st.length, ((st.drop b).map fun v => v.category).sum ≤ 8, (bud k).1 ≤ rc, (bud k).2 ≤ rs], [], none, some (k, (st.take b).reverse, st.drop b, rc - (bud k).1, rs - (bud k).2))
def jOut (bud : Nat → Nat × Nat) (rk : Nat → Nat) (X : Option (Nat × (Nat → Int32))) (ret : Option FieldType) (t : JIt) (i : Nat) (lv : JL) (st : List Value) (S : JS) (rc rs : Nat) : JB :=
  match t.ins with
  | .ifCond _ _ => jBr (jbr t st) i t.a lv S rc rs
  | .if_icmp _ _ => jBr (jbr t st) i t.a lv S rc rs
  | .goto _ => jBg (jgo t i st) lv S rc rs
  | .ifnull _ => jBg (jgo t i st) lv S rc rs
  | .ifnonnull _ => jBg (jgo t i st) lv S rc rs
  | .tableswitch _ _ _ _ => jBs t lv st S rc rs
  | .lookupswitch _ _ => jBs t lv st S rc rs
  | .ireturn => jBt ret st
  | .lreturn => jBt ret st
  | .areturn => jBt ret st
  | .return_ => jBt0 ret st
  | .new _ => jBn t.a (fnum t.a) i lv st S rc rs
  | .newarray _ => jBa t.a i lv st S rc rs
  | .anewarray _ => jBa t.a i lv st S rc rs
  | .aaload => jBl t.a i lv st S rc rs
  | .getstatic _ => jB1 (i + 1, lv, .ref (jX + 1) :: st, S, rc, rs)
  | .laload => if t.a = 7 then jBw i lv st S rc rs else jBx (jx1 t lv st S) i rc rs
  | .iaload => if t.a = 7 then jBc X i lv st S rc rs else jBx (jx1 t lv st S) i rc rs
  | .arraylength => if t.a = 7 then jBcl X i lv st S rc rs else jBx (jx1 t lv st S) i rc rs
  | .invokevirtual _ => if t.a = 9002 then jBsl i lv st S rc rs else if t.a = 9003 then jBsc i lv st S rc rs else if t.a = 9004 then jBk i lv st S rc rs else jBv bud rk t.a t.b st S rc rs
  | .invokespecial _ => if t.a = 9001 then jBx (jx1 t lv st S) i rc rs else jBv bud rk t.a t.b st S rc rs
  | .invokestatic _ => if 9000 ≤ t.a then jBx (jx1 t lv st S) i rc rs else jBz bud t.a t.b st rc rs
  | _ => jBx (jx1 t lv st S) i rc rs
def jgd (gs : List Prop) : Prop := ∀ g ∈ gs, g
def jalt (as : List (Prop × JC)) (P : JC → Prop) : Prop := ∀ a ∈ as, a.1 → P a.2
def jStep (call : Nat → List Value → JS → (Option Value → JS → Prop) → Prop) (bud : Nat → Nat × Nat) (rk : Nat → Nat) (X : Option (Nat × (Nat → Int32))) (M : JM) (Q : Option Value → JS → Prop) (P : JC → Prop) (i : Nat) (lv : JL) (st : List Value) (S : JS) (rc rs : Nat) : Prop :=
  ∃ t, M.its[i]? = some t ∧ jgd (jOut bud rk X M.ret t i lv st S rc rs).1 ∧ jalt (jOut bud rk X M.ret t i lv st S rc rs).2.1 P
    ∧ (∀ v, (jOut bud rk X M.ret t i lv st S rc rs).2.2.1 = some v → Q v S)
    ∧ (∀ k args r a b, (jOut bud rk X M.ret t i lv st S rc rs).2.2.2 = some (k, args, r, a, b) → call k args S (fun v S' => P (i + 1, lv, v.toList ++ r, S', a, b)))
/-- fewer locals are known -/
def jle (a b : JL) : Prop := ∀ (i : Nat) (v : Value), a[i]? = some (some v) → b[i]? = some (some v)
/-- the machine comes to Q: the least such predicate -/
def jLf (call : Nat → List Value → JS → (Option Value → JS → Prop) → Prop) (bud : Nat → Nat × Nat) (rk : Nat → Nat) (X : Option (Nat × (Nat → Int32))) (M : JM) (Q : Option Value → JS → Prop) (c : JC) : Prop :=
  ∀ P : JC → Prop, (∀ i lv st S rc rs, jStep call bud rk X M Q P i lv st S rc rs → P (i, lv, st, S, rc, rs)) → (∀ i lv lv' st S rc rs, jle lv' lv → P (i, lv', st, S, rc, rs) → P (i, lv, st, S, rc, rs)) → P c
def jargs (n : Nat) (vs : List Value) : JL := let l := vs.flatMap fun v => if v.category = 2 then [some v, none] else [some v]
  l ++ List.replicate (n - l.length) none
/-- a call, d deep -/
def jCall (mt : Nat → JM) (bud : Nat → Nat × Nat) : Nat → Nat → List Value → JS → (Option Value → JS → Prop) → Prop
  | 0 => fun _ _ _ _ => False
  | d + 1 => fun k args S Q => (args.map fun v => v.category).sum ≤ (mt k).nL ∧ jLf (jCall mt bud d) bud (fun j => (mt j).rk) none (mt k) Q (0, jargs (mt k).nL args, [], S, (bud k).1, (bud k).2)
