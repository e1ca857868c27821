/-! THE LOGICAL MACHINE: a small interpreter of the same bytecode over three tables (ints, longs, references) by address and place; its kinds of cells are fixed ahead (zK). -/
abbrev zI : Type := Nat → Nat → Int32
abbrev zJ : Type := Nat → Nat → Int64
abbrev zR : Type := Nat → Nat → Option Nat
abbrev zKd : Type := (FieldType × Nat) ⊕ Nat
abbrev zLv : Type := List (Option Value)
/-- next address, slots made so far, the three tables -/
abbrev zHp : Type := Nat × Nat × zI × zJ × zR
abbrev zOut : Type := Option Value ⊕ (Nat × Nat)
/-- goes on (pc, locals, stack, heap) | calls (method, arguments, rest of the stack, length of the instruction) | ends -/
abbrev zRes : Type := (Nat × zLv × List Value × zHp) ⊕ ((Nat × List Value × List Value × Nat) ⊕ (zOut × zHp))
def zu {α : Type} (I : Nat → Nat → α) (a k : Nat) (v : α) : Nat → Nat → α := fun b j => if b = a ∧ j = k then v else I b j
/-- a new cell's places -/
def zc {α : Type} (I : Nat → Nat → α) (a : Nat) (v : α) : Nat → Nat → α := fun b j => if b = a then v else I b j
def zn (pc : Nat) (lv : zLv) (st : List Value) (h : zHp) : Option zRes := some (.inl (pc, lv, st, h))
def zval (ty : FieldType) (h : zHp) (a k : Nat) : Value := match ty with
  | .long => .long (h.2.2.2.1 a k)
  | .object _ => va_rf (h.2.2.2.2 a k)
  | .array _ => va_rf (h.2.2.2.2 a k)
  | _ => .int (h.2.2.1 a k)
/-- what a store of v at place k of the cell a leaves, where v is of the type -/
def zput (ty : FieldType) (h : zHp) (a k : Nat) (v : Value) : Option zHp := match ty, v with
  | .long, .long x => some (h.1, h.2.1, h.2.2.1, zu h.2.2.2.1 a k x, h.2.2.2.2)
  | .object _, .ref x => some (h.1, h.2.1, h.2.2.1, h.2.2.2.1, zu h.2.2.2.2 a k (some x))
  | .object _, .null => some (h.1, h.2.1, h.2.2.1, h.2.2.2.1, zu h.2.2.2.2 a k none)
  | .array _, .ref x => some (h.1, h.2.1, h.2.2.1, h.2.2.2.1, zu h.2.2.2.2 a k (some x))
  | .array _, .null => some (h.1, h.2.1, h.2.2.1, h.2.2.2.1, zu h.2.2.2.2 a k none)
  | .int, .int x => some (h.1, h.2.1, zu h.2.2.1 a k x, h.2.2.2.1, h.2.2.2.2)
  | .boolean, .int x => if x = 0 ∨ x = 1 then some (h.1, h.2.1, zu h.2.2.1 a k x, h.2.2.2.1, h.2.2.2.2) else none
  | _, _ => none
def zcmp (c : ClassFile.Cond) (x y : Int32) : Bool := match c with
  | .eq => decide (x = y) | .ne => !decide (x = y) | .lt => decide (x < y) | .ge => decide (y ≤ x) | .gt => decide (y < x) | .le => decide (x ≤ y)
def ztake (n : Nat) (st : List Value) : Option (List Value × List Value) := if n ≤ st.length then some ((st.take n).reverse, st.drop n) else none
def zcat (vs : List Value) : Nat := (vs.map fun v => v.category).sum
/-- the kind of a cell that is there -/
def zk (L : Nat) (h : zHp) (a : Nat) : Option zKd := if a < h.1 then zK L a else none
def zjmp (pc : Nat) (off : Int) : Nat := ((pc : Int) + off).toNat
def zbin (i : Instr) (x y : Int32) : Option Int32 := match i with
  | .iadd => some (x + y) | .isub => some (x - y) | .imul => some (x * y) | .iand => some (x &&& y) | .ior => some (x ||| y) | .ixor => some (x ^^^ y)
  | .ishl => some (x <<< (y &&& 31)) | .ishr => some (x >>> (y &&& 31)) | .iushr => some ((x.toUInt32 >>> (y.toUInt32 &&& Int32.toUInt32 31)).toInt32)
  | .idiv => if y = 0 then none else some (x / y)
  | .irem => if y = 0 then none else some (x - x / y * y)
  | _ => none
/-- arrays: a load -/
def zald (L : Nat) (ty : FieldType → Bool) (h : zHp) (a : Nat) (j : Int32) : Option Value := match zk L h a with
  | some (.inl (t, n)) => if ty t = true ∧ 0 ≤ j ∧ j.toNatClampNeg < n then some (zval t h a j.toNatClampNeg) else none
  | _ => none
def zast (L : Nat) (ty : FieldType → Bool) (h : zHp) (a : Nat) (j : Int32) (v : Value) : Option zHp := match zk L h a with
  | some (.inl (t, n)) => if ty t = true ∧ 0 ≤ j ∧ j.toNatClampNeg < n ∧ zS ≤ a then zput t h a j.toNatClampNeg v else none
  | _ => none
def zisI (t : FieldType) : Bool := match t with | .int => true | _ => false
def zisZ (t : FieldType) : Bool := match t with | .boolean => true | _ => false
def zisL (t : FieldType) : Bool := match t with | .long => true | _ => false
def zisR (t : FieldType) : Bool := match t with | .object _ => true | .array _ => true | _ => false
def zo (h : Option zHp) (pc : Nat) (lv : zLv) (st : List Value) : Option zRes := match h with
  | some h => zn pc lv st h
  | none => none
/-- a new cell: its places are blank -/
def znew (h : zHp) (n : Nat) : zHp := (h.1 + 1, h.2.1 + n, zc h.2.2.1 h.1 0, zc h.2.2.2.1 h.1 0, zc h.2.2.2.2 h.1 none)
/-- n rows behind the cell a, which names them -/
def zrows (h : zHp) (n k : Nat) : zHp := (h.1 + 1 + n, h.2.1 + n + n * k, (fun b j => if h.1 ≤ b ∧ b ≤ h.1 + n then 0 else h.2.2.1 b j), (fun b j => if h.1 ≤ b ∧ b ≤ h.1 + n then 0 else h.2.2.2.1 b j),
  (fun b j => if b = h.1 then (if j < n then some (h.1 + 1 + j) else none) else if h.1 ≤ b ∧ b ≤ h.1 + n then none else h.2.2.2.2 b j))
/-- 0: an int, 1: a reference, 2: a long -/
def zld (v : Option (Option Value)) (i : Nat) : Option Value := match v, i with
  | some (some (.int x)), 0 => some (.int x)
  | some (some (.ref x)), 1 => some (.ref x)
  | some (some (.long x)), 2 => some (.long x)
  | _, _ => none
def zstv (i : Bool) (v : Value) : Bool := match v with
  | .int _ => i
  | .ref _ => !i
  | _ => false
def zpush (v : Option Value) (pc : Nat) (lv : zLv) (st : List Value) (h : zHp) : Option zRes := match v with
  | some v => zn pc lv (v :: st) h
  | none => none
/-- constants; loads; stores; array loads and stores: which kind, which place -/
def zcst (i : Instr) : Option Value := match i with
  | .iconst n => some (.int (Int32.ofInt n))
  | .bipush n => some (.int (Int8.ofInt n).toInt32)
  | .sipush n => some (.int (Int16.ofInt n).toInt32)
  | .lconst n => some (.long (Int64.ofNat (n : Nat)))
  | _ => none
def zldi (i : Instr) : Option (Nat × Nat) := match i with
  | .iload k => some (k, 0) | .iload_n k => some ((k : Nat), 0) | .aload k => some (k, 1) | .aload_n k => some ((k : Nat), 1) | .lload k => some (k, 2) | .lload_n k => some ((k : Nat), 2) | _ => none
def zsti (i : Instr) : Option (Nat × Bool) := match i with
  | .istore k => some (k, true) | .istore_n k => some ((k : Nat), true) | .astore k => some (k, false) | .astore_n k => some ((k : Nat), false) | _ => none
def zaldi (i : Instr) : Option (FieldType → Bool) := match i with
  | .iaload => some zisI | .baload => some zisZ | .laload => some zisL | .aaload => some zisR | _ => none
def zasti (i : Instr) : Option (FieldType → Bool) := match i with
  | .iastore => some zisI | .bastore => some zisZ | .lastore => some zisL | _ => none
def zstk (i : Instr) (st : List Value) : Option (List Value) := match i, st with
  | .ineg, .int x :: r => some (.int (-x) :: r)
  | .i2l, .int x :: r => some (.long x.toInt64 :: r)
  | .l2i, .long x :: r => some (.int x.toInt32 :: r)
  | .lshr, .int y :: .long x :: r => some (.long (x >>> (y.toInt64 &&& 63)) :: r)
  | .lcmp, .long y :: .long x :: r => some (.int (lg_cmp x y) :: r)
  | .dup, .int x :: r => some (.int x :: .int x :: r)
  | .dup, .ref x :: r => some (.ref x :: .ref x :: r)
  | .dup2, .int x :: .ref y :: r => some (.int x :: .ref y :: .int x :: .ref y :: r)
  | .dup_x1, .int x :: .ref y :: r => some (.int x :: .ref y :: .int x :: r)
  | .pop, .int _ :: r => some r
  | .pop, .ref _ :: r => some r
  | _, _ => none
def zlen (i : Instr) : Nat := match i with
  | .bipush _ | .ldc _ | .iload _ | .aload _ | .lload _ | .istore _ | .astore _ | .newarray _ => 2
  | .sipush _ | .ldc2_w _ | .iinc _ _ | .goto _ | .ifCond _ _ | .if_icmp _ _ | .getfield _ | .putfield _ | .getstatic _ | .new _ | .anewarray _ | .invokespecial _ | .invokevirtual _ | .invokestatic _ => 3
  | .multianewarray _ _ => 4
  | _ => 1
def zlok (i : Instr) (len : Nat) : Bool := match i with
  | .tableswitch _ _ _ _ => true
  | i => len == zlen i
/-- arrays that newarray makes here -/
def zna (t : ArrayType) : Bool := match t with
  | .int => true | .long => true | .boolean => true | _ => false
def zsw (lo hi d : Int) (offs : Array Int) (x : Int) : Int := if x < lo ∨ hi < x then d else (offs[(x - lo).toNat]?).getD d
/-- the locals at a method's entry -/
def zexp (as : List Value) : zLv := match as with
  | [] => []
  | v :: r => if v.category = 2 then some v :: none :: zexp r else some v :: zexp r
def zent (mj : Nat) (as : List Value) : zLv := zexp as ++ List.replicate (zmx mj - (zexp as).length) none
/-- a call: the arguments are taken off; what is left is light; the callee stands lower -/
def zcall (mi mj : Nat) (recv : Bool) (L : Nat) (h : zHp) (st : List Value) : Option zRes :=
  if (zrk mj < zrk mi ∧ 8 + (zmx mj + 11) + zlo mj ≤ zlo mi) ∧ (zat mj = !recv ∧ mj < zNm) then (match ztake (znp mj) st with
    | some (as, rest) =>
      if (zlg mj || as.all (fun v => v.category == 1)) = true ∧ (zexp as).length + 1 ≤ zmx mj + (if recv then 0 else 1) then (match recv with
        | true => (match rest with
          | .ref b :: r => if zk L h b = some (.inr (zoc mj)) ∧ zcat r ≤ 8 then some (.inr (.inl (mj, .ref b :: as, r, 3))) else none
          | _ => none)
        | false => if zcat rest ≤ 8 then some (.inr (.inl (mj, as, rest, 3))) else none)
      else none
    | none => none)
  else none
def zret (mi : Nat) (st : List Value) (h : zHp) : Option zRes := match st, zrt mi with
  | [.int v], some .int => some (.inr (.inr (.inl (some (.int v)), h)))
  | [.int v], some .boolean => if v = 0 ∨ v = 1 then some (.inr (.inr (.inl (some (.int v)), h))) else none
  | _, _ => none
def zaret (mi : Nat) (st : List Value) (h : zHp) : Option zRes := match st, zrt mi with
  | [.ref v], some (.object _) => some (.inr (.inr (.inl (some (.ref v)), h)))
  | [.ref v], some (.array _) => some (.inr (.inr (.inl (some (.ref v)), h)))
  | _, _ => none
def zvret (mi : Nat) (st : List Value) (h : zHp) : Option zRes := match st, zrt mi with
  | [], none => some (.inr (.inr (.inl none, h)))
  | _, _ => none
def zacopy (L mi pc : Nat) (lv : zLv) (st : List Value) (h : zHp) : Option zRes := match st with
  | .int n :: .int dp :: .ref d :: .int sp :: .ref s :: r => (match zk L h s, zk L h d with
    | some (.inl (.int, n0)), some (.inl (.int, n1)) =>
      if ((0 ≤ n ∧ 0 ≤ dp ∧ 0 ≤ sp) ∧ (sp.toNatClampNeg + n.toNatClampNeg ≤ n0 ∧ dp.toNatClampNeg + n.toNatClampNeg ≤ n1)) ∧ ((zS ≤ d ∧ zcat r ≤ 8) ∧ (1 ≤ zrk mi ∧ 26 ≤ zlo mi)) then
        zn (pc + 3) lv r (h.1, h.2.1, (fun b j => if b = d then va_cpy (h.2.2.1 s) (h.2.2.1 d) sp.toNatClampNeg dp.toNatClampNeg n.toNatClampNeg j else h.2.2.1 b j), h.2.2.2.1, h.2.2.2.2)
      else none
    | _, _ => none)
  | _ => none
/-- new E(a text), thrown at once: a cell comes that no table tells of -/
def zthrow (L mi pc : Nat) (x : Nat) (st : List Value) (h : zHp) : Option zRes :=
  match decode (zcd mi) (pc + 3), decode (zcd mi) (pc + 4), decode (zcd mi) (pc + 6), decode (zcd mi) (pc + 9) with
  | .ok (.dup, 1), .ok (.ldc is, 2), .ok (.invokespecial ic, 3), .ok (.athrow, 1) =>
    if ((zxl (zoc mi) ic = some x ∧ zK L h.1 = none) ∧ (zhd mi = [] ∧ zxs (zoc mi) is = true)) ∧ ((6 ≤ zrk mi ∧ 90 ≤ zlo mi) ∧ zcat st ≤ 8) then some (.inr (.inr (.inr (x, h.1), (h.1 + 1, h.2.1 + 6, h.2.2)))) else none
  | _, _, _, _ => none
def zins2 (L mi pc : Nat) (lv : zLv) (st : List Value) (h : zHp) (i : Instr) (len : Nat) : Option zRes := match i with
  | .ldc k => (match zkl (zoc mi) k with
    | some v => zn (pc + len) lv (.int v :: st) h
    | none => none)
  | .ldc2_w k => (match zkL (zoc mi) k with
    | some v => zn (pc + len) lv (.long v :: st) h
    | none => none)
  | .iinc k n => if zlg mi = true then none else (match lv[k]? with
    | some (some (.int x)) => zn (pc + len) (lv.set k (some (.int (x + Int32.ofInt n)))) st h
    | _ => none)
  | .goto off => if 0 ≤ (pc : Int) + off then zn (zjmp pc off) lv st h else none
  | .ifCond c off => (match st with
    | .int x :: r => if 0 ≤ (pc : Int) + off then zn (if zcmp c x 0 = true then zjmp pc off else pc + len) lv r h else none
    | _ => none)
  | .if_icmp c off => (match st with
    | .int y :: .int x :: r => if 0 ≤ (pc : Int) + off then zn (if zcmp c x y = true then zjmp pc off else pc + len) lv r h else none
    | _ => none)
  | .tableswitch d lo hi offs => (match st with
    | .int x :: r => if (hi - lo).toNat < offs.size ∧ 0 ≤ (pc : Int) + zsw lo hi d offs x.toInt then zn (zjmp pc (zsw lo hi d offs x.toInt)) lv r h else none
    | _ => none)
  | .getfield k => (match st, zfl (zoc mi) k with
    | .ref a :: r, some (ci, f) => if zk L h a = some (.inr ci) ∧ f < zfN ci then zn (pc + len) lv (zval (zft ci f) h a f :: r) h else none
    | _, _ => none)
  | .putfield k => (match st, zfl (zoc mi) k with
    | v :: .ref a :: r, some (ci, f) => if (zk L h a = some (.inr ci) ∧ f < zfN ci ∧ zS ≤ a) ∧ ((zfT ci f).2.2.2 = true → (zoc mi = ci ∧ (zy mi).name = "<init>")) then zo (zput (zft ci f) h a f v) (pc + len) lv r else none
    | _, _ => none)
  | .getstatic k => (match zsl (zoc mi) k with
    | some a => zn (pc + len) lv (.ref a :: st) h
    | none => none)
  | .aastore => (match st with
    | .ref v :: .int j :: .ref a :: r => (match zk L h v, zk L h a with
      | some (.inr ci), some (.inl (.object C, n)) => if (C = zcn ci ∧ 0 ≤ j) ∧ (j.toNatClampNeg < n ∧ zS ≤ a) then zn (pc + len) lv r (h.1, h.2.1, h.2.2.1, h.2.2.2.1, zu h.2.2.2.2 a j.toNatClampNeg (some v)) else none
      | _, _ => none)
    | _ => none)
  | .arraylength => (match st with
    | .ref a :: r => (match zk L h a with
      | some (.inl (_, n)) => zn (pc + len) lv (.int (Int32.ofNat n) :: r) h
      | _ => none)
    | _ => none)
  | .new k => (match zcl (zoc mi) k with
    | some (.inl ci) => if zK L h.1 = some (.inr ci) then zn (pc + len) lv (.ref h.1 :: st) (znew h (zfN ci)) else none
    | some (.inr x) => zthrow L mi pc x st h
    | none => none)
  | .newarray t => (match st with
    | .int n :: r => if (0 ≤ n ∧ zna t = true) ∧ (zK L h.1 = some (.inl (newarray.typeOf t, n.toNatClampNeg)) ∧ n.toNatClampNeg ≤ 65536) then zn (pc + len) lv (.ref h.1 :: r) (znew h n.toNatClampNeg) else none
    | _ => none)
  | .anewarray k => (match st, zal (zoc mi) k with
    | .int n :: r, some C => if 0 ≤ n ∧ zK L h.1 = some (.inl (.object C, n.toNatClampNeg)) ∧ n.toNatClampNeg ≤ 65536 then zn (pc + len) lv (.ref h.1 :: r) (znew h n.toNatClampNeg) else none
    | _, _ => none)
  | .multianewarray k 2 => (match st with
    | .int w :: .int n :: r => if (zmu (zoc mi) k = true ∧ 0 ≤ n ∧ 0 ≤ w) ∧ (zK L h.1 = some (.inl (.array .int, n.toNatClampNeg)) ∧ (List.range n.toNatClampNeg).all (fun i => decide (zK L (h.1 + 1 + i) = some (.inl (.int, w.toNatClampNeg)))) = true) ∧ (n.toNatClampNeg ≤ 65536 ∧ w.toNatClampNeg ≤ 65536) then zn (pc + len) lv (.ref h.1 :: r) (zrows h n.toNatClampNeg w.toNatClampNeg) else none
    | _ => none)
  | .invokespecial k => if zob (zoc mi) k = true then (match st with
      | .ref _ :: r => if zcat r ≤ 8 ∧ (1 ≤ zrk mi ∧ 20 ≤ zlo mi) then zn (pc + len) lv r h else none
      | _ => none)
    else (match zml (zoc mi) k with
      | some mj => if (zy mj).name = "<init>" then zcall mi mj true L h st else none
      | none => none)
  | .invokevirtual k => (match zml (zoc mi) k with
      | some mj => if (zy mj).name = "<init>" then none else zcall mi mj true L h st
      | none => none)
  | .invokestatic k => if zac (zoc mi) k = true then zacopy L mi pc lv st h else if zmn (zoc mi) k = true then (match st with
      | .int y :: .int x :: r => if zcat r ≤ 8 ∧ (1 ≤ zrk mi ∧ 21 ≤ zlo mi) then zn (pc + len) lv (.int (if y < x then y else x) :: r) h else none
      | _ => none)
    else (match zml (zoc mi) k with
      | some mj => zcall mi mj false L h st
      | none => none)
  | .ireturn => zret mi st h
  | .areturn => zaret mi st h
  | .return_ => zvret mi st h
  | i => (match st with
    | .int y :: .int x :: r => (match zbin i x y with
      | some v => zn (pc + len) lv (.int v :: r) h
      | none => none)
    | _ => none)
def zins (L mi pc : Nat) (lv : zLv) (st : List Value) (h : zHp) (i : Instr) (len : Nat) : Option zRes := match zcst i with
  | some v => zn (pc + len) lv (v :: st) h
  | none => match zldi i with
    | some q => zpush (zld lv[q.1]? q.2) (pc + len) lv st h
    | none => match zsti i with
      | some q => (match st with
        | v :: r => if (zstv q.2 v = true ∧ q.1 < lv.length) ∧ zlg mi = false then zn (pc + len) (lv.set q.1 (some v)) r h else none
        | _ => none)
      | none => match zaldi i with
        | some ty => (match st with
          | .int j :: .ref a :: r => zpush (zald L ty h a j) (pc + len) lv r h
          | _ => none)
        | none => match zasti i with
          | some ty => (match st with
            | v :: .int j :: .ref a :: r => zo (zast L ty h a j v) (pc + len) lv r
            | _ => none)
          | none => match zstk i st with
            | some st' => zn (pc + len) lv st' h
            | none => zins2 L mi pc lv st h i len
def zstep (L mi pc : Nat) (lv : zLv) (st : List Value) (h : zHp) : Option zRes := match decode (zcd mi) pc with
  | .ok (i, len) => if zlok i len = true then zins L mi pc lv st h i len else none
  | _ => none
def zcatch (mi pc x : Nat) : Option Nat := ((zhd mi).find? (fun q => decide (q.1 ≤ pc ∧ pc < q.2.1) && decide (zxc (zoc mi) q.2.2.2 = some x))).map (fun q => q.2.2.1)
