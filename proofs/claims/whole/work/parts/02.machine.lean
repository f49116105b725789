/-! ===== an abstract machine over this program: cells by the order in which they are made, whole numbers, longs and references apart ===== -/
abbrev Sx : Type := Nat × (Nat → Nat → Int32) × (Nat → Nat → Int64) × (Nat → Nat → Option Nat) × Nat
abbrev Lx : Type := List (Option Value)
abbrev Ex : Type := Nat × Instr × Nat × Nat × Int32 × Int64 × List Nat
abbrev Mx : Type := MethodName × ByteArray × Nat × Option FieldType × List Ex
abbrev Ox : Type := Option (Option Value × Sx)
/-- the cells that the law ever makes, in their order: (0, class) an object, (1, n) ints, (2, n) booleans, (3 .. 5, n) rows of Row, Kind, Country -/
def sh_C (b : Nat) : List (Nat × Nat) := [(0, b), (1, 6), (1, 6), (1, 6), (1, 6), (1, 6), (1, 6), (1, 40)]
def sh_L : List (Nat × Nat) :=
  [(0, 11), (3, 6), (3, 4), (4, 6), (0, 6), (0, 5), (0, 0), (0, 1), (0, 9), (0, 2)] ++ sh_C 4 ++ sh_C 4 ++
  [(5, 3), (0, 7), (0, 10), (1, 31), (1, 31), (0, 3), (1, 7), (1, 49), (1, 49), (1, 7), (1, 6)] ++
  [(0, 8), (1, 40), (0, 8), (1, 40), (0, 8), (1, 40), (0, 8), (1, 40), (0, 8), (1, 40), (0, 8), (1, 40)] ++
  [(0, 8), (1, 60), (0, 8), (1, 60), (0, 8), (1, 60), (0, 8), (1, 60)] ++ sh_C 4 ++ sh_C 4 ++ sh_C 4 ++
  [(0, 12), (1, 6), (1, 240), (1, 4), (1, 240), (1, 6), (1, 6), (1, 16), (1, 640), (1, 1971), (2, 3), (1, 6), (1, 24), (1, 34), (1, 34), (1, 49), (1, 49)]
def shp (k : Nat) : Nat × Nat := sh_L.getD k (99, 0)
def inb (i : Int32) (n : Nat) : Bool := !(decide (i < 0) || decide (n ≤ i.toNatClampNeg))
def oc (S : Sx) (k ci : Nat) : Bool := Nat.blt k S.1 && (Nat.beq (shp k).1 0 && Nat.beq (shp k).2 ci)
def iob (S : Sx) (k : Nat) : Bool := Nat.blt k S.1 && Nat.beq (shp k).1 0
def isa (S : Sx) (t k : Nat) : Bool := Nat.blt k S.1 && Nat.beq (shp k).1 t
def aw (S : Sx) (t k : Nat) : Nat := bif isa S t k then (shp k).2 else 0
def al (S : Sx) (k : Nat) : Nat := bif Nat.beq k 1000 then S.2.2.2.2 else bif Nat.beq k 1001 then 6 else aw S 1 k
def nb (S : Sx) (t n : Nat) : Bool := Nat.blt S.1 98 && (Nat.beq (shp S.1).1 t && Nat.beq (shp S.1).2 n)
def sI (S : Sx) (k j : Nat) (v : Int32) : Sx := (S.1, va_up S.2.1 k (upd (S.2.1 k) j v), S.2.2)
def sL (S : Sx) (k j : Nat) (v : Int64) : Sx := (S.1, S.2.1, va_up S.2.2.1 k (va_up (S.2.2.1 k) j v), S.2.2.2)
def sR (S : Sx) (k j : Nat) (v : Option Nat) : Sx := (S.1, S.2.1, S.2.2.1, va_up S.2.2.2.1 k (va_up (S.2.2.2.1 k) j v), S.2.2.2.2)
def nwS (S : Sx) : Sx := (S.1 + 1, va_up S.2.1 S.1 (fun _ => 0), va_up S.2.2.1 S.1 (fun _ => 0), va_up S.2.2.2.1 S.1 (fun _ => none), S.2.2.2.2)
def cpS (S : Sx) (k sp q dp n : Nat) : Sx := (S.1, va_up S.2.1 q (va_cpy (S.2.1 k) (S.2.1 q) sp dp n), S.2.2)
def cpk (S : Sx) (k q : Nat) (sp dp n : Int32) : Bool := !(decide (sp < 0)) && (!(decide (dp < 0)) && (!(decide (n < 0)) && (Nat.ble (sp.toNatClampNeg + n.toNatClampNeg) (aw S 1 k) && (Nat.ble (dp.toNatClampNeg + n.toNatClampNeg) (aw S 1 q) && (isa S 1 k && isa S 1 q)))))
def iot (k : Nat) (x : List Nat) : Int32 := bif x.elem (shp k).2 then 1 else 0
def lg : Lx → Nat → Option Value
  | [], _ => none
  | v :: _, 0 => v
  | _ :: t, i + 1 => lg t i
def oks (ls : Lx) (i : Nat) : Bool := match i with
  | 0 => true
  | j + 1 => match lg ls j with
    | some (.long _) => false
    | some (.double _) => false
    | _ => true
def rwd : List Value → Nat
  | [] => 0
  | v :: t => v.category + rwd t
def ini : Nat → List Value → Lx
  | n, [] => List.replicate n none
  | n, v :: vs => match v with
    | .long w => some (.long w) :: none :: ini (n - 2) vs
    | .double w => some (.double w) :: none :: ini (n - 2) vs
    | w => some w :: ini (n - 1) vs
def pop : Nat → List Value → List Value → Option (List Value × List Value)
  | 0, acc, st => some (acc, st)
  | n + 1, acc, v :: st => pop n (v :: acc) st
  | _ + 1, _, [] => none
def fnd : List Ex → Nat → Option Ex
  | [], _ => none
  | e :: t, p => bif Nat.beq e.1 p then some e else fnd t p
def dm : Mx := (⟨"", "", ""⟩, ⟨#[]⟩, 0, none, [])
def swt (v : Int32) (k : Nat) : List Nat → (Nat → Ox) → Ox → Ox
  | [], _, z => z
  | t :: ts, f, z => if v = Int32.ofNat k then f t else swt v (k + 1) ts f z
abbrev Rx : Type := Nat → Nat → Nat → Lx → List Value → Sx → Ox
def cal (P : List Mx) (R : Rx) (d mid nx : Nat) (ls : Lx) (rest : List Value) (S : Sx) (m : Nat) (as : List Value) : Ox := match d with
  | 0 => none
  | d' + 1 => bif Nat.ble (rwd rest) 8 && Nat.ble (rwd as) (P.getD m dm).2.2.1 then (R d' m 0 (ini (P.getD m dm).2.2.1 as) [] S).bind (fun q => R (d' + 1) mid nx ls (q.1.toList ++ rest) q.2) else none
def vcl (P : List Mx) (R : Rx) (d mid nx : Nat) (ls : Lx) (rest : List Value) (S : Sx) (k : Nat) (as : List Value) : List Nat → Ox
  | ci :: m :: t => if oc S k ci = true then cal P R d mid nx ls rest S m (.ref k :: as) else vcl P R d mid nx ls rest S k as t
  | _ => none
def stp (P : List Mx) (R : Rx) (d mid : Nat) (e : Ex) (ls : Lx) (st : List Value) (S : Sx) : Ox := match e with
  | (_, ins, nx, a, c, w, x) => match ins with
    | .iconst _ => R d mid nx ls (.int c :: st) S
    | .bipush _ => R d mid nx ls (.int c :: st) S
    | .sipush _ => R d mid nx ls (.int c :: st) S
    | .ldc _ => R d mid nx ls (.int c :: st) S
    | .ldc_w _ => R d mid nx ls (.int c :: st) S
    | .lconst _ => R d mid nx ls (.long w :: st) S
    | .ldc2_w _ => R d mid nx ls (.long w :: st) S
    | .iload _ => match lg ls a with
      | some (.int v) => R d mid nx ls (.int v :: st) S
      | _ => none
    | .iload_n _ => match lg ls a with
      | some (.int v) => R d mid nx ls (.int v :: st) S
      | _ => none
    | .lload _ => match lg ls a with
      | some (.long v) => R d mid nx ls (.long v :: st) S
      | _ => none
    | .lload_n _ => match lg ls a with
      | some (.long v) => R d mid nx ls (.long v :: st) S
      | _ => none
    | .aload _ => match lg ls a with
      | some (.ref v) => R d mid nx ls (.ref v :: st) S
      | _ => none
    | .aload_n _ => match lg ls a with
      | some (.ref v) => R d mid nx ls (.ref v :: st) S
      | _ => none
    | .istore _ => match st with
      | .int v :: r => bif oks ls a && Nat.blt a ls.length then R d mid nx (ls.set a (some (.int v))) r S else none
      | _ => none
    | .istore_n _ => match st with
      | .int v :: r => bif oks ls a && Nat.blt a ls.length then R d mid nx (ls.set a (some (.int v))) r S else none
      | _ => none
    | .lstore _ => match st with
      | .long v :: r => bif oks ls a && Nat.blt (a + 1) ls.length then R d mid nx ((ls.set a (some (.long v))).set (a + 1) none) r S else none
      | _ => none
    | .lstore_n _ => match st with
      | .long v :: r => bif oks ls a && Nat.blt (a + 1) ls.length then R d mid nx ((ls.set a (some (.long v))).set (a + 1) none) r S else none
      | _ => none
    | .astore _ => match st with
      | .ref v :: r => bif oks ls a && Nat.blt a ls.length then R d mid nx (ls.set a (some (.ref v))) r S else none
      | _ => none
    | .astore_n _ => match st with
      | .ref v :: r => bif oks ls a && Nat.blt a ls.length then R d mid nx (ls.set a (some (.ref v))) r S else none
      | _ => none
    | .iinc _ _ => match lg ls a with
      | some (.int v) => bif oks ls a && Nat.blt a ls.length then R d mid nx (ls.set a (some (.int (v + c)))) st S else none
      | _ => none
    | .iadd => match st with
      | .int y :: .int z :: r => R d mid nx ls (.int (z + y) :: r) S
      | _ => none
    | .isub => match st with
      | .int y :: .int z :: r => R d mid nx ls (.int (z - y) :: r) S
      | _ => none
    | .imul => match st with
      | .int y :: .int z :: r => R d mid nx ls (.int (z * y) :: r) S
      | _ => none
    | .idiv => match st with
      | .int y :: .int z :: r => if y = 0 then none else R d mid nx ls (.int (z / y) :: r) S
      | _ => none
    | .irem => match st with
      | .int y :: .int z :: r => if y = 0 then none else R d mid nx ls (.int (z - z / y * y) :: r) S
      | _ => none
    | .ineg => match st with
      | .int z :: r => R d mid nx ls (.int (-z) :: r) S
      | _ => none
    | .iand => match st with
      | .int y :: .int z :: r => R d mid nx ls (.int (z &&& y) :: r) S
      | _ => none
    | .ior => match st with
      | .int y :: .int z :: r => R d mid nx ls (.int (z ||| y) :: r) S
      | _ => none
    | .ixor => match st with
      | .int y :: .int z :: r => R d mid nx ls (.int (z ^^^ y) :: r) S
      | _ => none
    | .ishl => match st with
      | .int y :: .int z :: r => R d mid nx ls (.int (z <<< (y &&& 31)) :: r) S
      | _ => none
    | .ishr => match st with
      | .int y :: .int z :: r => R d mid nx ls (.int (z >>> (y &&& 31)) :: r) S
      | _ => none
    | .iushr => match st with
      | .int y :: .int z :: r => R d mid nx ls (.int (z.toUInt32 >>> (y.toUInt32 &&& Int32.toUInt32 31)).toInt32 :: r) S
      | _ => none
    | .i2l => match st with
      | .int z :: r => R d mid nx ls (.long z.toInt64 :: r) S
      | _ => none
    | .l2i => match st with
      | .long z :: r => R d mid nx ls (.int z.toInt32 :: r) S
      | _ => none
    | .i2b => match st with
      | .int z :: r => R d mid nx ls (.int z.toInt8.toInt32 :: r) S
      | _ => none
    | .ladd => match st with
      | .long y :: .long z :: r => R d mid nx ls (.long (z + y) :: r) S
      | _ => none
    | .lmul => match st with
      | .long y :: .long z :: r => R d mid nx ls (.long (z * y) :: r) S
      | _ => none
    | .ldiv => match st with
      | .long y :: .long z :: r => if y = 0 then none else R d mid nx ls (.long (z / y) :: r) S
      | _ => none
    | .lrem => match st with
      | .long y :: .long z :: r => if y = 0 then none else R d mid nx ls (.long (z - z / y * y) :: r) S
      | _ => none
    | .lcmp => match st with
      | .long y :: .long z :: r => R d mid nx ls (.int (lg_cmp z y) :: r) S
      | _ => none
    | .dup => match st with
      | .int v :: r => R d mid nx ls (.int v :: .int v :: r) S
      | .ref v :: r => R d mid nx ls (.ref v :: .ref v :: r) S
      | _ => none
    | .dup2 => match st with
      | .int v :: .ref k :: r => R d mid nx ls (.int v :: .ref k :: .int v :: .ref k :: r) S
      | _ => none
    | .goto _ => R d mid a ls st S
    | .ifCond q _ => match st with
      | .int v :: r => match q with
        | .eq => if v = 0 then R d mid a ls r S else R d mid nx ls r S
        | .ne => if v = 0 then R d mid nx ls r S else R d mid a ls r S
        | .lt => if v < 0 then R d mid a ls r S else R d mid nx ls r S
        | .ge => if 0 ≤ v then R d mid a ls r S else R d mid nx ls r S
        | .gt => if 0 < v then R d mid a ls r S else R d mid nx ls r S
        | .le => if v ≤ 0 then R d mid a ls r S else R d mid nx ls r S
      | _ => none
    | .if_icmp q _ => match st with
      | .int y :: .int z :: r => match q with
        | .eq => if z = y then R d mid a ls r S else R d mid nx ls r S
        | .ne => if z = y then R d mid nx ls r S else R d mid a ls r S
        | .lt => if z < y then R d mid a ls r S else R d mid nx ls r S
        | .ge => if y ≤ z then R d mid a ls r S else R d mid nx ls r S
        | .gt => if y < z then R d mid a ls r S else R d mid nx ls r S
        | .le => if z ≤ y then R d mid a ls r S else R d mid nx ls r S
      | _ => none
    | .tableswitch _ lo _ _ => match st with
      | .int v :: r => swt v lo.toNat x (fun t => R d mid t ls r S) (R d mid a ls r S)
      | _ => none
    | .getfield _ => match st with
      | .ref k :: r => if oc S k a = true then (match x with
          | [j, 0] => R d mid nx ls (.int (S.2.1 k j) :: r) S
          | [j, 1] => R d mid nx ls (.long (S.2.2.1 k j) :: r) S
          | [j, 2] => R d mid nx ls (va_rf (S.2.2.2.1 k j) :: r) S
          | _ => none) else none
      | _ => none
    | .putfield _ => match x with
      | [j, 0] => match st with
        | .int v :: .ref k :: r => if oc S k a = true then R d mid nx ls r (sI S k j v) else none
        | _ => none
      | [j, 1] => match st with
        | .long v :: .ref k :: r => if oc S k a = true then R d mid nx ls r (sL S k j v) else none
        | _ => none
      | [j, 2] => match st with
        | .ref v :: .ref k :: r => if oc S k a = true then R d mid nx ls r (sR S k j (some v)) else none
        | _ => none
      | _ => none
    | .iaload => match st with
      | .int i :: .ref k :: r => if inb i (al S k) = true then R d mid nx ls (.int (S.2.1 k i.toNatClampNeg) :: r) S else none
      | _ => none
    | .iastore => match st with
      | .int v :: .int i :: .ref k :: r => if inb i (aw S 1 k) = true then R d mid nx ls r (sI S k i.toNatClampNeg v) else none
      | _ => none
    | .baload => match st with
      | .int i :: .ref k :: r => if inb i (aw S 2 k) = true then R d mid nx ls (.int (S.2.1 k i.toNatClampNeg) :: r) S else none
      | _ => none
    | .bastore => match st with
      | .int v :: .int i :: .ref k :: r => if inb i (aw S 2 k) = true then R d mid nx ls r (sI S k i.toNatClampNeg (v &&& 1)) else none
      | _ => none
    | .aaload => match st with
      | .int i :: .ref k :: r => if inb i (aw S a k) = true then R d mid nx ls (va_rf (S.2.2.2.1 k i.toNatClampNeg) :: r) S else none
      | _ => none
    | .aastore => match st with
      | .ref v :: .int i :: .ref k :: r => if (inb i (aw S a k) && (iob S v && x.elem (shp v).2)) = true then R d mid nx ls r (sR S k i.toNatClampNeg (some v)) else none
      | _ => none
    | .arraylength => match st with
      | .ref k :: r => match a with
        | 1 => if (Nat.beq k 1000 || isa S 1 k) = true then R d mid nx ls (.int (Int32.ofNat (al S k)) :: r) S else none
        | t => if isa S t k = true then R d mid nx ls (.int (Int32.ofNat (aw S t k)) :: r) S else none
      | _ => none
    | .new _ => if nb S 0 a = true then R d mid nx ls (.ref S.1 :: st) (nwS S) else none
    | .newarray _ => match st with
      | .int v :: r => if (!(decide (v < 0)) && nb S a v.toNatClampNeg) = true then R d mid nx ls (.ref S.1 :: r) (nwS S) else none
      | _ => none
    | .anewarray _ => match st with
      | .int v :: r => if (!(decide (v < 0)) && nb S a v.toNatClampNeg) = true then R d mid nx ls (.ref S.1 :: r) (nwS S) else none
      | _ => none
    | .instanceof _ => match st with
      | .ref k :: r => if (iob S k && x.elem (shp k).2) = true then R d mid nx ls (.int (iot k (x.take a)) :: r) S else none
      | _ => none
    | .getstatic _ => R d mid nx ls (.ref 1001 :: st) S
    | .invokestatic _ => match x with
      | [5] => match st with
        | .int n :: .int dp :: .ref q :: .int sp :: .ref k :: r => match d with
          | 0 => none
          | _ + 1 => bif Nat.ble (rwd r) 8 then (if cpk S k q sp dp n = true then R d mid nx ls r (cpS S k sp.toNatClampNeg q dp.toNatClampNeg n.toNatClampNeg) else none) else none
        | _ => none
      | [0, n] => match pop n [] st with
        | some (as, r) => cal P R d mid nx ls r S a as
        | none => none
      | _ => none
    | .invokevirtual _ => match x with
      | n :: tab => match pop n [] st with
        | some (as, .ref k :: r) => vcl P R d mid nx ls r S k as tab
        | _ => none
      | _ => none
    | .invokespecial _ => match x with
      | [3] => match st with
        | .ref _ :: r => match d with
          | 0 => none
          | _ + 1 => bif Nat.ble (rwd r) 8 then R d mid nx ls r S else none
        | _ => none
      | [_, n] => match pop n [] st with
        | some (as, .ref k :: r) => cal P R d mid nx ls r S a (.ref k :: as)
        | _ => none
      | [_, n, ci] => match pop n [] st with
        | some (as, .ref k :: r) => if oc S k ci = true then cal P R d mid nx ls r S a (.ref k :: as) else none
        | _ => none
      | _ => none
    | .ireturn => match st with
      | [.int v] => match a with
        | 0 => some (some (.int v), S)
        | _ => some (some (.int (v &&& 1)), S)
      | _ => none
    | .lreturn => match st with
      | [.long v] => some (some (.long v), S)
      | _ => none
    | .areturn => match st with
      | [.ref v] => some (some (.ref v), S)
      | _ => none
    | .return_ => match st with
      | [] => some (none, S)
      | _ => none
    | _ => none
def rn (P : List Mx) : Nat → Rx
  | 0 => fun _ _ _ _ _ _ => none
  | f + 1 => fun d mid pc ls st S => match fnd (P.getD mid dm).2.2.2.2 pc with
    | none => none
    | some e => stp P (rn P f) d mid e ls st S
