/-! A small machine of my own: heaps are functions of numbers, a reference is a number, what a method does is computed. Its steps are the JVM's (part 05). -/
abbrev ZE : Type := (Nat × vp_A) ⊕ (Nat × List Value)
abbrev ZH : Type := Nat → ZE
/-- heap, next number, cells made, slots made -/
abbrev ZS : Type := ZH × (Nat × Nat × Nat)
/-- returned, or threw a class by its number -/
abbrev ZO : Type := Option Value ⊕ Nat
abbrev ZR : Type := ZO × ZS
/-- instruction, length, kind, two operands that are looked up -/
abbrev ZI : Type := Instr × Nat × Nat × Nat × Nat
def zJ : Value := .retAddr 1000
def zmark : Value → Bool
  | .retAddr k => decide (1000 ≤ k)
  | _ => false
def zNo : ZE := .inr (1000, [])
def zset (h : ZH) (i : Nat) (e : ZE) : ZH := fun j => if j = i then e else h j
-- heap reads
def zgetF (h : ZH) (i ci k : Nat) : Option Value := match h i with
  | .inr o => if o.1 = ci then o.2[k]? else none
  | .inl _ => none
def zalen (h : ZH) (i : Nat) : Option Int32 := match h i with
  | .inl a => if a.1 < 6 then some (Int32.ofNat a.2.1) else none
  | .inr _ => none
def zild (h : ZH) (i : Nat) (j : Int32) : Option Int32 := match h i with
  | .inl (0, n, .inl f) => if j < 0 ∨ n ≤ j.toNatClampNeg then none else some (f j.toNatClampNeg)
  | _ => none
def zlld (h : ZH) (i : Nat) (j : Int32) : Option Int64 := match h i with
  | .inl (1, n, .inr (.inl f)) => if j < 0 ∨ n ≤ j.toNatClampNeg then none else some (f j.toNatClampNeg)
  | _ => none
def zfld (h : ZH) (i : Nat) (j : Int32) : Option UInt32 := match h i with
  | .inl (2, n, .inr (.inr (.inl f))) => if j < 0 ∨ n ≤ j.toNatClampNeg then none else some (f j.toNatClampNeg)
  | _ => none
def zdld (h : ZH) (i : Nat) (j : Int32) : Option UInt64 := match h i with
  | .inl (3, n, .inr (.inr (.inr (.inl f)))) => if j < 0 ∨ n ≤ j.toNatClampNeg then none else some (f j.toNatClampNeg)
  | _ => none
def zbld (h : ZH) (i : Nat) (j : Int32) : Option Int32 := match h i with
  | .inl (4, n, .inl f) => if j < 0 ∨ n ≤ j.toNatClampNeg then none else some (f j.toNatClampNeg)
  | _ => none
def zald (h : ZH) (i : Nat) (j : Int32) : Option Nat := match h i with
  | .inl (5, n, .inr (.inr (.inr (.inr f)))) => if j < 0 ∨ n ≤ j.toNatClampNeg then none else f j.toNatClampNeg
  | _ => none
-- heap writes
def zputF (h : ZH) (i ci k : Nat) (v : Value) : Option ZH := match h i with
  | .inr o => if o.1 = ci ∧ k < o.2.length then some (zset h i (.inr (o.1, o.2.set k v))) else none
  | .inl _ => none
def zist (h : ZH) (i : Nat) (j x : Int32) : Option ZH := match h i with
  | .inl (0, n, .inl f) => if j < 0 ∨ n ≤ j.toNatClampNeg then none else some (zset h i (.inl (0, n, .inl (upd f j.toNatClampNeg x))))
  | _ => none
def zlst (h : ZH) (i : Nat) (j : Int32) (x : Int64) : Option ZH := match h i with
  | .inl (1, n, .inr (.inl f)) => if j < 0 ∨ n ≤ j.toNatClampNeg then none else some (zset h i (.inl (1, n, .inr (.inl (vp_updL f j.toNatClampNeg x)))))
  | _ => none
def zfst (h : ZH) (i : Nat) (j : Int32) (x : UInt32) : Option ZH := match h i with
  | .inl (2, n, .inr (.inr (.inl f))) => if j < 0 ∨ n ≤ j.toNatClampNeg then none else some (zset h i (.inl (2, n, .inr (.inr (.inl (vf_upd f j.toNatClampNeg x))))))
  | _ => none
def zdst (h : ZH) (i : Nat) (j : Int32) (x : UInt64) : Option ZH := match h i with
  | .inl (3, n, .inr (.inr (.inr (.inl f)))) => if j < 0 ∨ n ≤ j.toNatClampNeg then none else some (zset h i (.inl (3, n, .inr (.inr (.inr (.inl (vf_upd f j.toNatClampNeg x)))))))
  | _ => none
def zbst (h : ZH) (i : Nat) (j x : Int32) : Option ZH := match h i with
  | .inl (4, n, .inl f) => if j < 0 ∨ n ≤ j.toNatClampNeg then none else some (zset h i (.inl (4, n, .inl (upd f j.toNatClampNeg (vp_nar .boolean x)))))
  | _ => none
def zast (h : ZH) (i : Nat) (j : Int32) (b ci : Nat) : Option ZH := match h i, h b with
  | .inl (5, n, .inr (.inr (.inr (.inr f)))), .inr o => if j < 0 ∨ n ≤ j.toNatClampNeg ∨ o.1 ≠ ci then none else some (zset h i (.inl (5, n, .inr (.inr (.inr (.inr (va_up f j.toNatClampNeg (some b))))))))
  | _, _ => none
def zcpy (h : ZH) (a b : Nat) (sp dp n : Int32) : Option ZH := match h a, h b with
  | .inl (0, n0, .inl f), .inl (0, n1, .inl g) => if sp < 0 ∨ dp < 0 ∨ n < 0 ∨ n0 < sp.toNatClampNeg + n.toNatClampNeg ∨ n1 < dp.toNatClampNeg + n.toNatClampNeg then none else some (zset h b (.inl (0, n1, .inl (va_cpy f g sp.toNatClampNeg dp.toNatClampNeg n.toNatClampNeg))))
  | _, _ => none
-- locals
def zprev (L : List Value) : Nat → Bool
  | 0 => true
  | j + 1 => match L[j]? with
    | some w => w.category == 1
    | none => true
def zst1 (L : List Value) (i : Nat) (v : Value) : Option (List Value) := if i < L.length ∧ zprev L i = true then some (L.set i v) else none
def zst2 (L : List Value) (i : Nat) (v : Value) : Option (List Value) := if i + 1 < L.length ∧ zprev L i = true then some ((L.set i v).set (i + 1) zJ) else none
def zldi (L : List Value) (i : Nat) : Option Int32 := match L[i]? with
  | some (.int x) => some x
  | _ => none
def zldl (L : List Value) (i : Nat) : Option Int64 := match L[i]? with
  | some (.long x) => some x
  | _ => none
def zldf (L : List Value) (i : Nat) : Option UInt32 := match L[i]? with
  | some (.float x) => some x
  | _ => none
def zldd (L : List Value) (i : Nat) : Option UInt64 := match L[i]? with
  | some (.double x) => some x
  | _ => none
/-- a reference, or a text -/
def zisr : Value → Bool
  | .ref _ => true
  | .retAddr k => decide (k < 1000)
  | _ => false
def zlda (L : List Value) (i : Nat) : Option Value := match L[i]? with
  | some v => if zisr v = true then some v else none
  | none => none
def zbind {α β : Type} (x : Option α) (f : α → Option β) : Option β := match x with
  | none => none
  | some a => f a
theorem zbind_some {α β : Type} (a : α) (f : α → Option β) : zbind (some a) f = f a := rfl
theorem zbind_none {α β : Type} (f : α → Option β) : zbind none f = none := rfl
/-- what touches locals and stack alone -/
def zpure (ins : Instr) (x : Nat) (L st : List Value) : Option (List Value × List Value) := match ins, st with
  | .iconst n, st => some (L, .int (Int32.ofInt n) :: st)
  | .bipush n, st => some (L, .int (Int8.ofInt n).toInt32 :: st)
  | .sipush n, st => some (L, .int (Int16.ofInt n).toInt32 :: st)
  | .lconst n, st => some (L, .long (Int64.ofNat (n : Nat)) :: st)
  | .fconst 0, st => some (L, .float FP.fconst0 :: st)
  | .dconst 0, st => some (L, .double FP.dconst0 :: st)
  | .iload_n k, st => zbind (zldi L k) fun v => some (L, .int v :: st)
  | .iload i, st => zbind (zldi L i) fun v => some (L, .int v :: st)
  | .lload_n k, st => zbind (zldl L k) fun v => some (L, .long v :: st)
  | .lload i, st => zbind (zldl L i) fun v => some (L, .long v :: st)
  | .fload_n k, st => zbind (zldf L k) fun v => some (L, .float v :: st)
  | .fload i, st => zbind (zldf L i) fun v => some (L, .float v :: st)
  | .dload_n k, st => zbind (zldd L k) fun v => some (L, .double v :: st)
  | .dload i, st => zbind (zldd L i) fun v => some (L, .double v :: st)
  | .aload_n k, st => zbind (zlda L k) fun v => some (L, v :: st)
  | .aload i, st => zbind (zlda L i) fun v => some (L, v :: st)
  | .istore_n k, .int v :: st => zbind (zst1 L k (.int v)) fun L' => some (L', st)
  | .istore i, .int v :: st => zbind (zst1 L i (.int v)) fun L' => some (L', st)
  | .fstore_n k, .float v :: st => zbind (zst1 L k (.float v)) fun L' => some (L', st)
  | .fstore i, .float v :: st => zbind (zst1 L i (.float v)) fun L' => some (L', st)
  | .lstore_n k, .long v :: st => zbind (zst2 L k (.long v)) fun L' => some (L', st)
  | .lstore i, .long v :: st => zbind (zst2 L i (.long v)) fun L' => some (L', st)
  | .dstore_n k, .double v :: st => zbind (zst2 L k (.double v)) fun L' => some (L', st)
  | .dstore i, .double v :: st => zbind (zst2 L i (.double v)) fun L' => some (L', st)
  | .astore_n k, .ref v :: st => zbind (zst1 L k (.ref v)) fun L' => some (L', st)
  | .astore i, .ref v :: st => zbind (zst1 L i (.ref v)) fun L' => some (L', st)
  | .iinc i n, st => zbind (zldi L i) fun v => zbind (zst1 L i (.int (v + Int32.ofInt n))) fun L' => some (L', st)
  | .iadd, .int b :: .int a :: st => some (L, .int (a + b) :: st)
  | .isub, .int b :: .int a :: st => some (L, .int (a - b) :: st)
  | .imul, .int b :: .int a :: st => some (L, .int (a * b) :: st)
  | .iand, .int b :: .int a :: st => some (L, .int (a &&& b) :: st)
  | .ior, .int b :: .int a :: st => some (L, .int (a ||| b) :: st)
  | .ineg, .int a :: st => some (L, .int (-a) :: st)
  | .ishl, .int b :: .int a :: st => some (L, .int (a <<< (b &&& 31)) :: st)
  | .ishr, .int b :: .int a :: st => some (L, .int (a >>> (b &&& 31)) :: st)
  | .idiv, .int b :: .int a :: st => if b = 0 then none else some (L, .int (a / b) :: st)
  | .irem, .int b :: .int a :: st => if b = 0 then none else some (L, .int (a - a / b * b) :: st)
  | .ladd, .long b :: .long a :: st => some (L, .long (a + b) :: st)
  | .lsub, .long b :: .long a :: st => some (L, .long (a - b) :: st)
  | .land, .long b :: .long a :: st => some (L, .long (a &&& b) :: st)
  | .lor, .long b :: .long a :: st => some (L, .long (a ||| b) :: st)
  | .lshl, .int b :: .long a :: st => some (L, .long (a <<< (b.toInt64 &&& 63)) :: st)
  | .lushr, .int b :: .long a :: st => some (L, .long (a.toUInt64 >>> (b.toInt64.toUInt64 &&& Int64.toUInt64 63)).toInt64 :: st)
  | .lcmp, .long b :: .long a :: st => some (L, .int (lg_cmp a b) :: st)
  | .i2l, .int a :: st => some (L, .long a.toInt64 :: st)
  | .l2i, .long a :: st => some (L, .int a.toInt32 :: st)
  | .i2f, .int a :: st => some (L, .float (FP.i2f a) :: st)
  | .i2d, .int a :: st => some (L, .double (FP.i2d a) :: st)
  | .f2d, .float a :: st => if FP.f2d a &&& 0x7fffffffffffffff ≤ 0x7ff0000000000000 then some (L, .double (FP.f2d a) :: st) else none
  | .fdiv, .float b :: .float a :: st => if FP.fdiv a b &&& 0x7fffffff ≤ 0x7f800000 then some (L, .float (FP.fdiv a b) :: st) else none
  | .ddiv, .double b :: .double a :: st => if FP.ddiv a b &&& 0x7fffffffffffffff ≤ 0x7ff0000000000000 then some (L, .double (FP.ddiv a b) :: st) else none
  | .fcmp op, .float b :: .float a :: st => some (L, .int (Op.cmpValue (FP.fcmp a b) op) :: st)
  | .dcmp op, .double b :: .double a :: st => some (L, .int (Op.cmpValue (FP.dcmp a b) op) :: st)
  | .dup, v :: st => if v.category = 1 ∧ zmark v = false then some (L, v :: v :: st) else none
  | .dup2, v :: w :: st => if (v.category = 1 ∧ zmark v = false) ∧ (w.category = 1 ∧ zmark w = false) then some (L, v :: w :: v :: w :: st) else none
  | .pop, v :: st => if v.category = 1 then some (L, st) else none
  | .aconst_null, st => some (L, .null :: st)
  | .ldc _, st => if x < 1000 then some (L, .retAddr x :: st) else none
  | .ldc2_w _, st => some (L, .long (Int64.ofNat x) :: st)
  | _, _ => none
def ztgt (pc : Nat) (off : Int) : Nat := ((pc : Int) + off).toNat
def zzif (pc : Nat) (off : Int) (c : Bool) (st : List Value) : Option (Nat × List Value) := if 0 ≤ (pc : Int) + off then some (if c = true then ztgt pc off else pc + 3, st) else none
def zcnd : ClassFile.Cond → Int32 → Int32 → Bool
  | .eq, a, b => decide (a = b)
  | .ne, a, b => decide (a ≠ b)
  | .lt, a, b => decide (a < b)
  | .ge, a, b => decide (b ≤ a)
  | .gt, a, b => decide (b < a)
  | .le, a, b => decide (a ≤ b)
def zswi (pc : Nat) (dflt lo hi : Int) (offs : Array Int) (x : Int32) : Option Nat :=
  if x.toInt < lo ∨ hi < x.toInt then (if 0 ≤ (pc : Int) + dflt then some (ztgt pc dflt) else none)
  else match offs[(x.toInt - lo).toNat]? with
    | some off => if 0 ≤ (pc : Int) + off then some (ztgt pc off) else none
    | none => none
def zlook (pc : Nat) (dflt : Int) (ps : Array (Int × Int)) (x : Int32) : Option Nat :=
  if (ps.toList.zip (ps.toList.drop 1)).all (fun (a, next) => a.1 < next.1) = true ∧ 0 ≤ (pc : Int) + Op.lookupswitch.offset ps.toList dflt x.toInt then some (ztgt pc (Op.lookupswitch.offset ps.toList dflt x.toInt)) else none
def zjump (ins : Instr) (pc : Nat) (st : List Value) : Option (Nat × List Value) := match ins, st with
  | .goto off, st => if 0 ≤ (pc : Int) + off then some (ztgt pc off, st) else none
  | .ifCond cd off, .int a :: st => zzif pc off (zcnd cd a 0) st
  | .if_icmp cd off, .int b :: .int a :: st => zzif pc off (zcnd cd a b) st
  | .ifnull _, .ref _ :: st => some (pc + 3, st)
  | .ifnonnull off, .ref _ :: st => if 0 ≤ (pc : Int) + off then some (ztgt pc off, st) else none
  | .tableswitch dflt lo hi offs, .int a :: st => zbind (zswi pc dflt lo hi offs a) fun t => some (t, st)
  | .lookupswitch dflt ps, .int a :: st => zbind (zlook pc dflt ps a) fun t => some (t, st)
  | _, _ => none
def zret (ins : Instr) (ty : Option FieldType) (st : List Value) : Option (Option Value) := match ins, ty, st with
  | .return_, none, [] => some none
  | .ireturn, some t, [.int v] => if narrow t (.int v) = .int v ∧ (t = .int ∨ t = .boolean ∨ t = .char) then some (some (.int v)) else none
  | .lreturn, some .long, [.long v] => some (some (.long v))
  | .freturn, some .float, [.float v] => some (some (.float v))
  | .dreturn, some .double, [.double v] => some (some (.double v))
  | .areturn, some (.object _), [.ref a] => some (some (.ref a))
  | _, _, _ => none
def zargsL : List Value → List Value
  | [] => []
  | v :: vs => if v.category = 2 then v :: zJ :: zargsL vs else v :: zargsL vs
def zentry (n : Nat) (vs : List Value) : List Value := zargsL vs ++ List.replicate (n - (zargsL vs).length) zJ
