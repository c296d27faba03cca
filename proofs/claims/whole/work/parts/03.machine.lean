/-! AN ABSTRACT MACHINE over the kit's cells: the instructions of the tables (part 04), on a memory of numbered places; its runs are the machine's (part 05) -/
/-- the place that stands for the one String constant -/
def am_S : Nat := 1000000
def am_cv (b sa : Nat) : Value → Value
  | .ref k => .ref (if k = am_S then sa else b + k)
  | v => v
/-- how many cells, how many slots in all, what each place holds -/
abbrev am_M : Type := Nat × Nat × (Nat → va_E)
abbrev am_L : Type := List (Option Value)
def am_g (m : am_M) (k : Nat) : Option va_E := if k < m.1 then some (m.2.2 k) else none
def am_p (m : am_M) (k : Nat) (c : va_E) : am_M := (m.1, m.2.1, fun j => if j = k then c else m.2.2 j)
def am_new (m : am_M) (c : va_E) (n : Nat) : am_M := (m.1 + 1, m.2.1 + n, fun j => if j = m.1 then c else m.2.2 j)
/-- a method: name, bytes, locals, answer's type, (its class's number, parameters, static), its instructions with resolved operands -/
abbrev am_Rec : Type := MethodName × ByteArray × Nat × Option FieldType × (Nat × Nat × Bool) × List (Nat × Instr × Nat)
def am_kill (ls : am_L) (i : Nat) : am_L := match i with
  | 0 => ls
  | k + 1 => match ls[k]? with
    | some (some (.long _)) => ls.set k none
    | some (some (.double _)) => ls.set k none
    | _ => ls
def am_st1 (ls : am_L) (i : Nat) (v : Value) : am_L := (am_kill ls i).set i (some v)
def am_st2 (ls : am_L) (i : Nat) (v : Value) : am_L := ((am_kill ls i).set i (some v)).set (i + 1) none
def am_in (i : Int32) (n : Nat) : Bool := decide (0 ≤ i.toInt ∧ i.toInt < (n : Int))
def am_jmp (pc : Nat) (off : Int) : Nat := ((pc : Int) + off).toNat
def am_jok (pc : Nat) (off : Int) : Bool := decide (0 ≤ (pc : Int) + off)
abbrev am_C : Type := Nat × am_L × List Value × am_M
def am_ld (ls : am_L) (i : Nat) : Option Value := match ls[i]? with
  | some (some v) => some v
  | _ => none
def am_ldI (pc len : Nat) (ls : am_L) (st : List Value) (m : am_M) (i : Nat) : Option am_C := match am_ld ls i with
  | some (.int x) => some (pc + len, ls, .int x :: st, m)
  | _ => none
def am_ldL (pc len : Nat) (ls : am_L) (st : List Value) (m : am_M) (i : Nat) : Option am_C := match am_ld ls i with
  | some (.long x) => some (pc + len, ls, .long x :: st, m)
  | _ => none
def am_ldA (pc len : Nat) (ls : am_L) (st : List Value) (m : am_M) (i : Nat) : Option am_C := match am_ld ls i with
  | some (.ref x) => some (pc + len, ls, .ref x :: st, m)
  | _ => none
def am_stI (pc len : Nat) (ls : am_L) (st : List Value) (m : am_M) (i : Nat) : Option am_C := match st with
  | .int x :: st => if i < ls.length then some (pc + len, am_st1 ls i (.int x), st, m) else none
  | _ => none
def am_stL (pc len : Nat) (ls : am_L) (st : List Value) (m : am_M) (i : Nat) : Option am_C := match st with
  | .long x :: st => if i + 1 < ls.length then some (pc + len, am_st2 ls i (.long x), st, m) else none
  | _ => none
def am_stA (pc len : Nat) (ls : am_L) (st : List Value) (m : am_M) (i : Nat) : Option am_C := match st with
  | .ref x :: st => if i < ls.length then some (pc + len, am_st1 ls i (.ref x), st, m) else none
  | _ => none
/-- constants, locals, the stack, jumps that ask nothing -/
def am_s1 (ins : Instr) (pc : Nat) (ls : am_L) (st : List Value) (m : am_M) : Option am_C := match ins with
  | .iconst n => some (pc + 1, ls, .int (Int32.ofInt n) :: st, m)
  | .bipush n => some (pc + 2, ls, .int (Int8.ofInt n).toInt32 :: st, m)
  | .sipush n => some (pc + 3, ls, .int (Int16.ofInt n).toInt32 :: st, m)
  | .lconst n => some (pc + 1, ls, .long (Int64.ofNat (n : Nat)) :: st, m)
  | .ldc n => some (pc + 2, ls, .int (Int32.ofNat n) :: st, m)
  | .ldc_w n => some (pc + 3, ls, .int (Int32.ofNat n) :: st, m)
  | .ldc2_w n => some (pc + 3, ls, .long (Int64.ofNat n) :: st, m)
  | .getstatic _ => some (pc + 2, ls, .ref am_S :: st, m)
  | .iload_n k => am_ldI pc 1 ls st m k
  | .iload k => am_ldI pc 2 ls st m k
  | .lload_n k => am_ldL pc 1 ls st m k
  | .lload k => am_ldL pc 2 ls st m k
  | .aload_n k => am_ldA pc 1 ls st m k
  | .aload k => am_ldA pc 2 ls st m k
  | .istore_n k => am_stI pc 1 ls st m k
  | .istore k => am_stI pc 2 ls st m k
  | .lstore_n k => am_stL pc 1 ls st m k
  | .lstore k => am_stL pc 2 ls st m k
  | .astore_n k => am_stA pc 1 ls st m k
  | .astore k => am_stA pc 2 ls st m k
  | .iinc i n => match am_ld ls i with
    | some (.int x) => if i < ls.length then some (pc + 3, am_st1 ls i (.int (x + Int32.ofInt n)), st, m) else none
    | _ => none
  | .dup => match st with
    | v :: t => if v.category = 1 then some (pc + 1, ls, v :: v :: t, m) else none
    | _ => none
  | .dup2 => match st with
    | va :: vb :: t => if va.category = 1 ∧ vb.category = 1 then some (pc + 1, ls, va :: vb :: va :: vb :: t, m) else none
    | _ => none
  | .pop => match st with
    | v :: t => if v.category = 1 then some (pc + 1, ls, t, m) else none
    | _ => none
  | .goto off => if am_jok pc off then some (am_jmp pc off, ls, st, m) else none
  | _ => none
/-- arithmetic -/
def am_s2 (ins : Instr) (pc : Nat) (ls : am_L) (st : List Value) (m : am_M) : Option am_C := match ins with
  | .iadd => match st with
    | .int y :: .int x :: t => some (pc + 1, ls, .int (x + y) :: t, m)
    | _ => none
  | .isub => match st with
    | .int y :: .int x :: t => some (pc + 1, ls, .int (x - y) :: t, m)
    | _ => none
  | .imul => match st with
    | .int y :: .int x :: t => some (pc + 1, ls, .int (x * y) :: t, m)
    | _ => none
  | .idiv => match st with
    | .int y :: .int x :: t => if y = 0 then none else some (pc + 1, ls, .int (x / y) :: t, m)
    | _ => none
  | .irem => match st with
    | .int y :: .int x :: t => if y = 0 then none else some (pc + 1, ls, .int (x - x / y * y) :: t, m)
    | _ => none
  | .ineg => match st with
    | .int x :: t => some (pc + 1, ls, .int (-x) :: t, m)
    | _ => none
  | .iand => match st with
    | .int y :: .int x :: t => some (pc + 1, ls, .int (x &&& y) :: t, m)
    | _ => none
  | .ior => match st with
    | .int y :: .int x :: t => some (pc + 1, ls, .int (x ||| y) :: t, m)
    | _ => none
  | .ixor => match st with
    | .int y :: .int x :: t => some (pc + 1, ls, .int (x ^^^ y) :: t, m)
    | _ => none
  | .ishl => match st with
    | .int y :: .int x :: t => some (pc + 1, ls, .int (x <<< (y &&& 31)) :: t, m)
    | _ => none
  | .ishr => match st with
    | .int y :: .int x :: t => some (pc + 1, ls, .int (x >>> (y &&& 31)) :: t, m)
    | _ => none
  | .iushr => match st with
    | .int y :: .int x :: t => some (pc + 1, ls, .int (x.toUInt32 >>> (y.toUInt32 &&& Int32.toUInt32 31)).toInt32 :: t, m)
    | _ => none
  | .ladd => match st with
    | .long y :: .long x :: t => some (pc + 1, ls, .long (x + y) :: t, m)
    | _ => none
  | .lsub => match st with
    | .long y :: .long x :: t => some (pc + 1, ls, .long (x - y) :: t, m)
    | _ => none
  | .lmul => match st with
    | .long y :: .long x :: t => some (pc + 1, ls, .long (x * y) :: t, m)
    | _ => none
  | .ldiv => match st with
    | .long y :: .long x :: t => if y = 0 then none else some (pc + 1, ls, .long (x / y) :: t, m)
    | _ => none
  | .lrem => match st with
    | .long y :: .long x :: t => if y = 0 then none else some (pc + 1, ls, .long (x - x / y * y) :: t, m)
    | _ => none
  | .land => match st with
    | .long y :: .long x :: t => some (pc + 1, ls, .long (x &&& y) :: t, m)
    | _ => none
  | .lor => match st with
    | .long y :: .long x :: t => some (pc + 1, ls, .long (x ||| y) :: t, m)
    | _ => none
  | .lshl => match st with
    | .int y :: .long x :: t => some (pc + 1, ls, .long (x <<< (y.toInt64 &&& 63)) :: t, m)
    | _ => none
  | .lushr => match st with
    | .int y :: .long x :: t => some (pc + 1, ls, .long (x.toUInt64 >>> (y.toInt64.toUInt64 &&& Int64.toUInt64 63)).toInt64 :: t, m)
    | _ => none
  | .lcmp => match st with
    | .long y :: .long x :: t => some (pc + 1, ls, .int (lg_cmp x y) :: t, m)
    | _ => none
  | .i2l => match st with
    | .int x :: t => some (pc + 1, ls, .long x.toInt64 :: t, m)
    | _ => none
  | .l2i => match st with
    | .long x :: t => some (pc + 1, ls, .int x.toInt32 :: t, m)
    | _ => none
  | .i2c => match st with
    | .int x :: t => some (pc + 1, ls, .int (x.toUInt32 % 65536).toInt32 :: t, m)
    | _ => none
  | _ => none
def am_br (pc len : Nat) (off : Int) (c : Bool) (ls : am_L) (t : List Value) (m : am_M) : Option am_C :=
  if am_jok pc off then (if c then some (am_jmp pc off, ls, t, m) else some (pc + len, ls, t, m)) else none
/-- branches -/
def am_s3 (ins : Instr) (pc : Nat) (ls : am_L) (st : List Value) (m : am_M) : Option am_C := match ins with
  | .ifCond cond off => match st with
    | .int x :: t => match cond with
      | .eq => am_br pc 3 off (decide (x = 0)) ls t m
      | .ne => am_br pc 3 off (decide (¬ x = 0)) ls t m
      | .lt => am_br pc 3 off (decide (x < 0)) ls t m
      | .ge => am_br pc 3 off (decide (0 ≤ x)) ls t m
      | .gt => am_br pc 3 off (decide (0 < x)) ls t m
      | .le => am_br pc 3 off (decide (x ≤ 0)) ls t m
    | _ => none
  | .if_icmp cond off => match st with
    | .int y :: .int x :: t => match cond with
      | .eq => am_br pc 3 off (decide (x = y)) ls t m
      | .ne => am_br pc 3 off (decide (¬ x = y)) ls t m
      | .lt => am_br pc 3 off (decide (x < y)) ls t m
      | .ge => am_br pc 3 off (decide (y ≤ x)) ls t m
      | .gt => am_br pc 3 off (decide (y < x)) ls t m
      | .le => am_br pc 3 off (decide (x ≤ y)) ls t m
    | _ => none
  | .tableswitch d lo hi offs => match st with
    | .int x :: t => if x.toInt < lo ∨ hi < x.toInt then (if am_jok pc d then some (am_jmp pc d, ls, t, m) else none) else
      match offs.toList[(x.toInt - lo).toNat]? with
      | some off => if am_jok pc off then some (am_jmp pc off, ls, t, m) else none
      | none => none
    | _ => none
  | .lookupswitch d ps => match st with
    | .int x :: t => if (ps.toList.zip (ps.toList.drop 1)).all (fun (a, next) => a.1 < next.1) then
        (if am_jok pc (Op.lookupswitch.offset ps.toList d x.toInt) then some (am_jmp pc (Op.lookupswitch.offset ps.toList d x.toInt), ls, t, m) else none) else none
    | _ => none
  | _ => none
/-- the kind of a field: 0 int, 1 long, 2 boolean, 3 a reference -/
def am_fk (ty : FieldType) : Nat := match ty with
  | .int => 0
  | .long => 1
  | .boolean => 2
  | .object _ => 3
  | .array _ => 3
  | _ => 9
def am_fits (k : Nat) (v : Value) : Bool := match k, v with
  | 0, .int _ => true
  | 1, .long _ => true
  | 2, .int x => decide (x = 0 ∨ x = 1)
  | 3, .ref _ => true
  | _, _ => false
/-- reads and writes; fk: the kinds of the fields by number of the class and place -/
def am_s4 (fk : Nat → Nat → Nat × Bool) (init : Bool) (ins : Instr) (pc : Nat) (ls : am_L) (st : List Value) (m : am_M) : Option am_C := match ins with
  | .getfield f => match st with
    | .ref a :: t => match am_g m a with
      | some (.inr (ci, fs)) => if ci = f / 100 then (match fs[f % 100]? with
        | some v => some (pc + 3, ls, v :: t, m)
        | none => none) else none
      | _ => none
    | _ => none
  | .putfield f => match st with
    | v :: .ref a :: t => match am_g m a with
      | some (.inr (ci, fs)) => if ci = f / 100 ∧ f % 100 < fs.length ∧ am_fits (fk ci (f % 100)).1 v = true ∧ ((fk ci (f % 100)).2 = true → init = true) then
          some (pc + 3, ls, t, am_p m a (.inr (ci, fs.set (f % 100) v))) else none
      | _ => none
    | _ => none
  | .arraylength => match st with
    | .ref a :: t => match am_g m a with
      | some (.inl (ty, n, x)) => if ty < 6 then some (pc + 1, ls, .int (Int32.ofNat n) :: t, m) else none
      | _ => none
    | _ => none
  | .iaload => match st with
    | .int i :: .ref a :: t => match am_g m a with
      | some (.inl (0, n, .inl f)) => if am_in i n then some (pc + 1, ls, .int (f i.toNatClampNeg) :: t, m) else none
      | _ => none
    | _ => none
  | .laload => match st with
    | .int i :: .ref a :: t => match am_g m a with
      | some (.inl (1, n, .inr (.inl f))) => if am_in i n then some (pc + 1, ls, .long (f i.toNatClampNeg) :: t, m) else none
      | _ => none
    | _ => none
  | .caload => match st with
    | .int i :: .ref a :: t => match am_g m a with
      | some (.inl (2, n, .inl f)) => if am_in i n then some (pc + 1, ls, .int (f i.toNatClampNeg) :: t, m) else none
      | _ => none
    | _ => none
  | .baload => match st with
    | .int i :: .ref a :: t => match am_g m a with
      | some (.inl (3, n, .inl f)) => if am_in i n then some (pc + 1, ls, .int (f i.toNatClampNeg) :: t, m) else none
      | _ => none
    | _ => none
  | .aaload => match st with
    | .int i :: .ref a :: t => match am_g m a with
      | some (.inl (ty, n, .inr (.inr (.inr (.inr f))))) => if am_in i n ∧ (ty = 4 ∨ ty = 5) then (match f i.toNatClampNeg with
        | some q => if q = am_S then none else some (pc + 1, ls, .ref q :: t, m)
        | none => none) else none
      | _ => none
    | _ => none
  | .iastore => match st with
    | .int x :: .int i :: .ref a :: t => match am_g m a with
      | some (.inl (0, n, .inl f)) => if am_in i n then some (pc + 1, ls, t, am_p m a (.inl (0, n, .inl (upd f i.toNatClampNeg x)))) else none
      | _ => none
    | _ => none
  | .lastore => match st with
    | .long x :: .int i :: .ref a :: t => match am_g m a with
      | some (.inl (1, n, .inr (.inl f))) => if am_in i n then some (pc + 1, ls, t, am_p m a (.inl (1, n, .inr (.inl (vp_updL f i.toNatClampNeg x))))) else none
      | _ => none
    | _ => none
  | .castore => match st with
    | .int x :: .int i :: .ref a :: t => match am_g m a with
      | some (.inl (2, n, .inl f)) => if am_in i n then some (pc + 1, ls, t, am_p m a (.inl (2, n, .inl (upd f i.toNatClampNeg (vp_nar .char x))))) else none
      | _ => none
    | _ => none
  | .bastore => match st with
    | .int x :: .int i :: .ref a :: t => match am_g m a with
      | some (.inl (3, n, .inl f)) => if am_in i n then some (pc + 1, ls, t, am_p m a (.inl (3, n, .inl (upd f i.toNatClampNeg (vp_nar .boolean x))))) else none
      | _ => none
    | _ => none
  | .aastore => match st with
    | .ref q :: .int i :: .ref a :: t => match am_g m a with
      | some (.inl (ty, n, .inr (.inr (.inr (.inr f))))) => if am_in i n ∧ ¬ q = am_S then (match am_g m q with
        | some (.inr (ci, _)) => if (ty = 4 ∧ ci = 4) ∨ (ty = 5 ∧ ci = 9) then some (pc + 1, ls, t, am_p m a (.inl (ty, n, .inr (.inr (.inr (.inr (va_up f i.toNatClampNeg (some q)))))))) else none
        | _ => none) else none
      | _ => none
    | _ => none
  | _ => none
/-- what comes new: dv gives a class's blank fields -/
def am_s5 (al : Bool) (dv : Nat → Option (List Value)) (ins : Instr) (pc : Nat) (ls : am_L) (st : List Value) (m : am_M) : Option am_C := if al = true ∧ m.1 < am_S then (match ins with
  | .new ci => match dv ci with
    | some fs => some (pc + 3, ls, .ref m.1 :: st, am_new m (.inr (ci, fs)) fs.length)
    | none => none
  | .newarray ty => match st with
    | .int n :: t => if 0 ≤ n.toInt ∧ n.toInt ≤ 1000000 then (match ty with
      | .int => some (pc + 2, ls, .ref m.1 :: t, am_new m (.inl (0, n.toNatClampNeg, .inl (fun _ => 0))) n.toNatClampNeg)
      | .long => some (pc + 2, ls, .ref m.1 :: t, am_new m (.inl (1, n.toNatClampNeg, .inr (.inl (fun _ => 0)))) n.toNatClampNeg)
      | .char => some (pc + 2, ls, .ref m.1 :: t, am_new m (.inl (2, n.toNatClampNeg, .inl (fun _ => 0))) n.toNatClampNeg)
      | .boolean => some (pc + 2, ls, .ref m.1 :: t, am_new m (.inl (3, n.toNatClampNeg, .inl (fun _ => 0))) n.toNatClampNeg)
      | _ => none) else none
    | _ => none
  | .anewarray ty => match st with
    | .int n :: t => if 0 ≤ n.toInt ∧ n.toInt ≤ 1000000 ∧ (ty = 4 ∨ ty = 5) then some (pc + 3, ls, .ref m.1 :: t, am_new m (.inl (ty, n.toNatClampNeg, .inr (.inr (.inr (.inr (fun _ => none)))))) n.toNatClampNeg) else none
    | _ => none
  | _ => none) else none
/-- System.arraycopy of int rows -/
def am_copy (pc : Nat) (ls : am_L) (st : List Value) (m : am_M) : Option am_C := match st with
  | .int n :: .int dp :: .ref a :: .int sp :: .ref a0 :: t => match am_g m a0, am_g m a with
    | some (.inl (0, n0, .inl f)), some (.inl (0, n1, .inl g)) =>
      if 0 ≤ sp.toInt ∧ 0 ≤ dp.toInt ∧ 0 ≤ n.toInt ∧ sp.toInt + n.toInt ≤ (n0 : Int) ∧ dp.toInt + n.toInt ≤ (n1 : Int) ∧ (t.map fun v => v.category).sum ≤ 8 then
        some (pc + 3, ls, t, am_p m a (.inl (0, n1, .inl (va_cpy f g sp.toNatClampNeg dp.toNatClampNeg n.toNatClampNeg)))) else none
    | _, _ => none
  | _ => none
def am_entry : List Value → am_L
  | [] => []
  | v :: vs => if v.category = 2 then some v :: none :: am_entry vs else some v :: am_entry vs
def am_pad (n : Nat) (l : am_L) : am_L := l ++ List.replicate (n - l.length) none
/-- a method's answer at a return instruction -/
def am_ret (rt : Option FieldType) (ins : Instr) (st : List Value) : Option (Option Value) := match ins with
  | .ireturn => match st with
    | [.int v] => match rt with
      | some .int => some (some (.int v))
      | some .boolean => if v = 0 ∨ v = 1 then some (some (.int v)) else none
      | _ => none
    | _ => none
  | .lreturn => match st with
    | [.long v] => match rt with
      | some .long => some (some (.long v))
      | _ => none
    | _ => none
  | .return_ => match st with
    | [] => match rt with
      | none => some none
      | _ => none
    | _ => none
  | _ => none
