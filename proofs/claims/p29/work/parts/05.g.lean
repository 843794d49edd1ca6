section zg0
/-! The abstract machine: cells are (tag, values); a tag below 100 is a class by its place among zcl, 100 int[], 101 boolean[], 102 byte[], 103 Object[], 104 int[][]; a reference is a cell's place; retAddr 0 the script, retAddr 1 ArrayList's empty row, retAddr 2 the Class object of Object[]. -/
abbrev zH : Type := List (Nat × List Value)
abbrev zL : Type := List (Option Value)
/-- what a step does: go on (pc, locals, stack, heap, new cells, new slots); or call (method, arguments with the receiver first, rest of the stack, pc behind); or end (return a value, or throw class E, heap, new cells, new slots) -/
abbrev zA : Type := (Nat × zL × List Value × zH × Nat × Nat) ⊕ ((Nat × List Value × List Value × Nat) ⊕ ((Option Value ⊕ Nat) × Nat × Nat))
abbrev zRow : Type := Nat × Instr × Nat × Nat × Nat × Nat × Nat
def zgo (pc : Nat) (L : zL) (st : List Value) (h : zH) : Option zA := some (.inl (pc, L, st, h, 0, 0))
def zldI (L : zL) (i nx : Nat) (st : List Value) (h : zH) : Option zA := match L[i]? with
  | some (some (.int x)) => zgo nx L (.int x :: st) h
  | _ => none
def zldL (L : zL) (i nx : Nat) (st : List Value) (h : zH) : Option zA := match L[i]? with
  | some (some (.long x)) => zgo nx L (.long x :: st) h
  | _ => none
def zldD (L : zL) (i nx : Nat) (st : List Value) (h : zH) : Option zA := match L[i]? with
  | some (some (.double x)) => zgo nx L (.double x :: st) h
  | _ => none
def zldA (L : zL) (i nx : Nat) (st : List Value) (h : zH) : Option zA := match L[i]? with
  | some (some (.ref x)) => zgo nx L (.ref x :: st) h
  | some (some (.retAddr x)) => zgo nx L (.retAddr x :: st) h
  | some (some .null) => zgo nx L (.null :: st) h
  | _ => none
/-- what stands ahead of a local that is stored: a value of two slots goes -/
def zk (a : Option Value) : Option Value := match a with
  | some (.long _) => none
  | some (.double _) => none
  | x => x
def zst1 (v : Value) : Nat → zL → Option zL
  | 0, _ :: l => some (some v :: l)
  | 1, a :: _ :: l => some (zk a :: some v :: l)
  | i + 2, a :: l => match zst1 v (i + 1) l with
    | some l' => some (a :: l')
    | none => none
  | _, _ => none
def zst2 (v : Value) : Nat → zL → Option zL
  | 0, _ :: _ :: l => some (some v :: none :: l)
  | 1, a :: _ :: _ :: l => some (zk a :: some v :: none :: l)
  | i + 2, a :: l => match zst2 v (i + 1) l with
    | some l' => some (a :: l')
    | none => none
  | _, _ => none
def zsv1 (L : zL) (i nx : Nat) (v : Value) (st : List Value) (h : zH) : Option zA := match zst1 v i L with
  | some L' => zgo nx L' st h
  | none => none
def zsv2 (L : zL) (i nx : Nat) (v : Value) (st : List Value) (h : zH) : Option zA := match zst2 v i L with
  | some L' => zgo nx L' st h
  | none => none
def zsI (L : zL) (i nx : Nat) (st : List Value) (h : zH) : Option zA := match st with
  | .int x :: r => zsv1 L i nx (.int x) r h
  | _ => none
def zsA (L : zL) (i nx : Nat) (st : List Value) (h : zH) : Option zA := match st with
  | .ref x :: r => zsv1 L i nx (.ref x) r h
  | .retAddr x :: r => zsv1 L i nx (.retAddr x) r h
  | _ => none
def zsL (L : zL) (i nx : Nat) (st : List Value) (h : zH) : Option zA := match st with
  | .long x :: r => zsv2 L i nx (.long x) r h
  | _ => none
def zsD (L : zL) (i nx : Nat) (st : List Value) (h : zH) : Option zA := match st with
  | .double x :: r => zsv2 L i nx (.double x) r h
  | _ => none
def zinc (L : zL) (i : Nat) (n : Int) (nx : Nat) (st : List Value) (h : zH) : Option zA := match L[i]? with
  | some (some (.int x)) => zsv1 L i nx (.int (x + Int32.ofInt n)) st h
  | _ => none
def zpu (L : zL) (v : Value) (nx : Nat) (st : List Value) (h : zH) : Option zA := zgo nx L (v :: st) h
def zbin (f : Int32 → Int32 → Int32) (nx : Nat) (L : zL) (st : List Value) (h : zH) : Option zA := match st with
  | .int y :: .int x :: r => zgo nx L (.int (f x y) :: r) h
  | _ => none
def zdiv (f : Int32 → Int32 → Int32) (nx : Nat) (L : zL) (st : List Value) (h : zH) : Option zA := match st with
  | .int y :: .int x :: r => if y = 0 then none else zgo nx L (.int (f x y) :: r) h
  | _ => none
def zun (f : Int32 → Value) (nx : Nat) (L : zL) (st : List Value) (h : zH) : Option zA := match st with
  | .int x :: r => zgo nx L (f x :: r) h
  | _ => none
def zbinL (f : Int64 → Int64 → Int64) (nx : Nat) (L : zL) (st : List Value) (h : zH) : Option zA := match st with
  | .long y :: .long x :: r => zgo nx L (.long (f x y) :: r) h
  | _ => none
def zlc (nx : Nat) (L : zL) (st : List Value) (h : zH) : Option zA := match st with
  | .long y :: .long x :: r => zgo nx L (.int (lg_cmp x y) :: r) h
  | _ => none
def zbinD (f : UInt64 → UInt64 → UInt64) (nx : Nat) (L : zL) (st : List Value) (h : zH) : Option zA := match st with
  | .double y :: .double x :: r => if (f x y) &&& 0x7fffffffffffffff ≤ 0x7ff0000000000000 then zgo nx L (.double (f x y) :: r) h else none
  | _ => none
def zd2l (nx : Nat) (L : zL) (st : List Value) (h : zH) : Option zA := match st with
  | .double x :: r => zgo nx L (.long (FP.d2l x) :: r) h
  | _ => none
def zcat (v : Value) : Bool := match v with
  | .long _ => true
  | .double _ => true
  | _ => false
def zdup (nx : Nat) (L : zL) (st : List Value) (h : zH) : Option zA := match st with
  | v :: r => if zcat v then none else zgo nx L (v :: v :: r) h
  | _ => none
def zpop (nx : Nat) (L : zL) (st : List Value) (h : zH) : Option zA := match st with
  | v :: r => if zcat v then none else zgo nx L r h
  | _ => none
def zpop2 (nx : Nat) (L : zL) (st : List Value) (h : zH) : Option zA := match st with
  | v :: r => if zcat v then zgo nx L r h else none
  | _ => none
def zdupx1 (nx : Nat) (L : zL) (st : List Value) (h : zH) : Option zA := match st with
  | v :: w :: r => if zcat v || zcat w then none else zgo nx L (v :: w :: v :: r) h
  | _ => none
def zdup2 (nx : Nat) (L : zL) (st : List Value) (h : zH) : Option zA := match st with
  | v :: w :: r => if zcat v || zcat w then none else zgo nx L (v :: w :: v :: w :: r) h
  | _ => none
/-- a branch on x, y -/
def zbr (c : ClassFile.Cond) (x y : Int32) (tg nx : Nat) (L : zL) (r : List Value) (h : zH) : Option zA := match c with
  | .eq => if x = y then zgo tg L r h else zgo nx L r h
  | .ne => if x = y then zgo nx L r h else zgo tg L r h
  | .lt => if x < y then zgo tg L r h else zgo nx L r h
  | .ge => if y ≤ x then zgo tg L r h else zgo nx L r h
  | .gt => if y < x then zgo tg L r h else zgo nx L r h
  | .le => if x ≤ y then zgo tg L r h else zgo nx L r h
def zif (c : ClassFile.Cond) (tg nx : Nat) (L : zL) (st : List Value) (h : zH) : Option zA := match st with
  | .int x :: r => zbr c x 0 tg nx L r h
  | _ => none
def zicmp (c : ClassFile.Cond) (tg nx : Nat) (L : zL) (st : List Value) (h : zH) : Option zA := match st with
  | .int y :: .int x :: r => zbr c x y tg nx L r h
  | _ => none
def zoff (pc : Nat) (o : Int) (L : zL) (r : List Value) (h : zH) : Option zA := match (pc : Int) + o with
  | .ofNat t => zgo t L r h
  | .negSucc _ => none
def ztab (pc : Nat) (d lo hi : Int) (offs : Array Int) (L : zL) (st : List Value) (h : zH) : Option zA := match st with
  | .int x :: r => if x.toInt < lo ∨ hi < x.toInt then zoff pc d L r h else match offs[(x.toInt - lo).toNat]? with
    | some o => zoff pc o L r h
    | none => none
  | _ => none
def zlook (pc : Nat) (d : Int) (ps : Array (Int × Int)) (L : zL) (st : List Value) (h : zH) : Option zA := match st with
  | .int x :: r => zoff pc (Op.lookupswitch.offset ps.toList d x.toInt) L r h
  | _ => none
/-- a place in a row -/
def zix (i : Int32) : Option Nat := if i < 0 then none else some i.toNatClampNeg
def zald (t : Nat) (nx : Nat) (L : zL) (st : List Value) (h : zH) : Option zA := match st with
  | .int i :: .ref a :: r => match h[a]? with
    | some (t', vs) => if t' = t then match vs[i.toNatClampNeg]? with
      | some (.int x) => if i < 0 then none else zgo nx L (.int x :: r) h
      | _ => none else none
    | none => none
  | _ => none
def zast (t : Nat) (g : Int32 → Option Int32) (nx : Nat) (L : zL) (st : List Value) (h : zH) : Option zA := match st with
  | .int x :: .int i :: .ref a :: r => match h[a]? with
    | some (t', vs) => if t' = t then if i < 0 then none else if i.toNatClampNeg < vs.length then match g x with
      | some y => zgo nx L r (h.set a (t, vs.set i.toNatClampNeg (.int y)))
      | none => none else none else none
    | none => none
  | _ => none
/-- the script, or a row of ints -/
def zialoadX (xs : List Int32) (nx : Nat) (L : zL) (st : List Value) (h : zH) : Option zA := match st with
  | .int i :: .retAddr 0 :: r => if i < 0 then none else match xs[i.toNatClampNeg]? with
    | some x => zgo nx L (.int x :: r) h
    | none => none
  | _ => zald 100 nx L st h
def zalen (xs : List Int32) (nx : Nat) (L : zL) (st : List Value) (h : zH) : Option zA := match st with
  | .ref a :: r => match h[a]? with
    | some (t, vs) => if 100 ≤ t then zgo nx L (.int (Int32.ofNat vs.length) :: r) h else none
    | none => none
  | .retAddr 0 :: r => zgo nx L (.int (Int32.ofNat xs.length) :: r) h
  | .retAddr 1 :: r => zgo nx L (.int 0 :: r) h
  | _ => none
/-- a row of references (103 Object[], 104 int[][]) -/
def zaald (nx : Nat) (L : zL) (st : List Value) (h : zH) : Option zA := match st with
  | .int i :: .ref a :: r => match h[a]? with
    | some (t, vs) => if t = 103 ∨ t = 104 then match vs[i.toNatClampNeg]? with
      | some v => if i < 0 then none else zgo nx L (v :: r) h
      | none => none else none
    | none => none
  | _ => none
def zaast (nx : Nat) (L : zL) (st : List Value) (h : zH) : Option zA := match st with
  | .ref x :: .int i :: .ref a :: r => match h[a]?, h[x]? with
    | some (t, vs), some (t', _) => if t = 103 ∧ t' = 100 then if i < 0 then none else if i.toNatClampNeg < vs.length then zgo nx L r (h.set a (103, vs.set i.toNatClampNeg (.ref x))) else none else none
    | _, _ => none
  | _ => none
def ztag (a : ArrayType) : Nat := match a with
  | .int => 100
  | .boolean => 101
  | .byte => 102
  | _ => 99
def znewa (t : Nat) (v : Value) (nx : Nat) (L : zL) (st : List Value) (h : zH) : Option zA := match st with
  | .int n :: r => if n < 0 then none else if n.toNatClampNeg ≤ 100000 then if t = 99 then none else
      some (.inl (nx, L, .ref h.length :: r, h ++ [(t, List.replicate n.toNatClampNeg v)], 1, n.toNatClampNeg)) else none
  | _ => none
/-- int[n][k] -/
def zmulti (nx : Nat) (L : zL) (st : List Value) (h : zH) : Option zA := match st with
  | .int k :: .int n :: r => if k = 8 ∧ n = 20 then
      some (.inl (nx, L, .ref h.length :: r, h ++ (104, (List.range 20).map (fun j => .ref (h.length + 1 + j))) :: List.replicate 20 (100, List.replicate 8 (.int 0)), 21, 180)) else none
  | _ => none
/-- fields: by id the declaring class, name, descriptor, whether final; of a class (by tag) its fields' ids and kinds (0 int, 1 boolean, 2 byte, 3 long, 4 double, 5 a reference) -/
def zfdk (k : Nat) (v : Value) : Bool := match k, v with
  | 0, .int _ => true
  | 1, .int x => decide (x = 0 ∨ x = 1)
  | 2, .int x => decide (-128 ≤ x ∧ x ≤ 127)
  | 3, .long _ => true
  | 4, .double _ => true
  | 5, .ref _ => true
  | 5, .null => true
  | 5, .retAddr 1 => true
  | _, _ => false
/-- f: the field's id; k its place; cf: the fields' ids and kinds of each class -/
def zget (cf : Nat → List (Nat × Nat)) (f k nx : Nat) (L : zL) (st : List Value) (h : zH) : Option zA := match st with
  | .ref a :: r => match h[a]? with
    | some (c, vs) => match (cf c)[k]? with
      | some (f', _) => if f' = f then match vs[k]? with
        | some v => zgo nx L (v :: r) h
        | none => none else none
      | none => none
    | none => none
  | _ => none
def zput (cf : Nat → List (Nat × Nat)) (f k nx : Nat) (L : zL) (st : List Value) (h : zH) : Option zA := match st with
  | v :: .ref a :: r => match h[a]? with
    | some (c, vs) => match (cf c)[k]? with
      | some (f', kd) => if f' = f then if zfdk kd v = true then if k < vs.length then zgo nx L r (h.set a (c, vs.set k v)) else none else none else none
      | none => none
    | none => none
  | _ => none
def znew (cf : Nat → List (Nat × Nat)) (c nx : Nat) (L : zL) (st : List Value) (h : zH) : Option zA :=
  some (.inl (nx, L, .ref h.length :: st, h ++ [(c, (cf c).map (fun q => zdf q.2))], 1, (cf c).length))
def ztk : Nat → List Value → List Value → Option (List Value × List Value)
  | 0, acc, r => some (acc, r)
  | n + 1, acc, v :: r => ztk n (v :: acc) r
  | _, _, [] => none
def zcs : List Value → Nat
  | [] => 0
  | v :: r => (if zcat v then 2 else 1) + zcs r
def zmm (f : Int32 → Int32 → Int32) (nx : Nat) (L : zL) (st : List Value) (h : zH) : Option zA := match st with
  | .int y :: .int x :: r => if zcs r ≤ 8 then zgo nx L (.int (f x y) :: r) h else none
  | _ => none
def zoi (nx : Nat) (L : zL) (st : List Value) (h : zH) : Option zA := match st with
  | .ref _ :: r => if zcs r ≤ 8 then zgo nx L r h else none
  | _ => none
def zcall (n y nx : Nat) (st : List Value) : Option zA := match ztk n [] st with
  | some (as, r) => if zcs r ≤ 8 then some (.inr (.inl (y, as, r, nx))) else none
  | none => none
/-- a call on an object of the class of tag c -/
def zcallV (n c y nx : Nat) (st : List Value) (h : zH) : Option zA := match ztk (n + 1) [] st with
  | some (as, r) => match as with
    | .ref a :: as' => match h[a]? with
      | some (c', _) => if c' = c then if zcs r ≤ 8 then some (.inr (.inl (y, .ref a :: as', r, nx))) else none else none
      | none => none
    | _ => none
  | none => none
def zcallI (n y nx : Nat) (st : List Value) : Option zA := match ztk (n + 1) [] st with
  | some (as, r) => match as with
    | .ref a :: as' => if zcs r ≤ 8 then some (.inr (.inl (y, .ref a :: as', r, nx))) else none
    | _ => none
  | none => none
def zret (v : Option Value) : Option zA := some (.inr (.inr (.inl v, 0, 0)))
/-- an element that a row of references may take: a row of ints, or none -/
def zelt (h : zH) (v : Value) : Bool := match v with
  | .ref k => (match h[k]? with
    | some (t, _) => decide (t = 100)
    | none => false)
  | .null => true
  | _ => false
def zbyt (v : Value) : Bool := match v with
  | .int x => decide (-128 ≤ x ∧ x ≤ 127)
  | _ => false
def zcopy (nx : Nat) (L : zL) (st : List Value) (h : zH) : Option zA := match st with
  | .int n :: .int dp :: .ref d :: .int sp :: .ref a :: r => match h[a]?, h[d]? with
    | some (t, vs), some (t', ws) => if t = t' ∧ ((t = 102 ∧ (vs.take n.toNatClampNeg).all zbyt = true) ∨ (t = 103 ∧ (vs.take n.toNatClampNeg).all (zelt h) = true)) ∧ zcs r ≤ 8 ∧ ¬ n < 0 ∧ dp = 0 ∧ sp = 0 ∧ n.toNatClampNeg ≤ vs.length ∧ n.toNatClampNeg ≤ ws.length then
        zgo nx L r (h.set d (t, vs.take n.toNatClampNeg ++ ws.drop n.toNatClampNeg)) else none
    | _, _ => none
  | _ => none
def zchk (k nx : Nat) (L : zL) (st : List Value) (h : zH) : Option zA := match st with
  | .ref a :: r => match h[a]? with
    | some (t, _) => if t = k then zgo nx L (.ref a :: r) h else none
    | none => none
  | _ => none
def zacmp (c : ACond) (tg nx : Nat) (L : zL) (st : List Value) (h : zH) : Option zA := match st with
  | .retAddr b :: .retAddr a :: r => if a = b then (match c with
    | .eq => zgo tg L r h
    | .ne => zgo nx L r h) else none
  | _ => none
def zgetc (nx : Nat) (L : zL) (st : List Value) (h : zH) : Option zA := match st with
  | .ref a :: r => match h[a]? with
    | some (t, _) => if t = 103 ∧ zcs r ≤ 8 then zgo nx L (.retAddr 2 :: r) h else none
    | none => none
  | _ => none
/-- k, y, n, c: what the row's link was resolved to -/
def zstep (cf : Nat → List (Nat × Nat)) (xs : List Int32) (pc : Nat) (i : Instr) (nx k y n c : Nat) (L : zL) (st : List Value) (h : zH) : Option zA := match i with
  | .iload j => zldI L j nx st h
  | .iload_n j => zldI L j nx st h
  | .lload j => zldL L j nx st h
  | .lload_n j => zldL L j nx st h
  | .dload j => zldD L j nx st h
  | .aload j => zldA L j nx st h
  | .aload_n j => zldA L j nx st h
  | .istore j => zsI L j nx st h
  | .istore_n j => zsI L j nx st h
  | .astore j => zsA L j nx st h
  | .astore_n j => zsA L j nx st h
  | .lstore j => zsL L j nx st h
  | .lstore_n j => zsL L j nx st h
  | .dstore j => zsD L j nx st h
  | .iinc j z => zinc L j z nx st h
  | .iconst z => zpu L (.int (Int32.ofInt z)) nx st h
  | .bipush z => zpu L (.int (Int8.ofInt z).toInt32) nx st h
  | .sipush z => zpu L (.int (Int16.ofInt z).toInt32) nx st h
  | .lconst z => zpu L (.long (Int64.ofNat z)) nx st h
  | .aconst_null => zpu L .null nx st h
  | .ldc _ => if k = 0 then zpu L (.int (Int32.ofNat y)) nx st h else if k = 2 then zpu L (.retAddr 2) nx st h else if k = 3 then zpu L (.retAddr 3) nx st h else none
  | .getstatic _ => if k = 0 then zpu L (.int 1) nx st h else if k = 1 then zpu L (.retAddr 1) nx st h else none
  | .checkcast _ => zchk k nx L st h
  | .if_acmp q _ => zacmp q k nx L st h
  | .ldc_w _ => if k = 0 then zpu L (.int (Int32.ofNat y)) nx st h else none
  | .ldc2_w _ => if k = 0 then zpu L (.long (Int64.ofNat y)) nx st h else if k = 1 then zpu L (.double (UInt64.ofNat y)) nx st h else none
  | .iadd => zbin (fun x y => x + y) nx L st h
  | .isub => zbin (fun x y => x - y) nx L st h
  | .imul => zbin (fun x y => x * y) nx L st h
  | .iand => zbin (fun x y => x &&& y) nx L st h
  | .ior => zbin (fun x y => x ||| y) nx L st h
  | .ixor => zbin (fun x y => x ^^^ y) nx L st h
  | .ishl => zbin (fun x y => x <<< (y &&& 31)) nx L st h
  | .ishr => zbin (fun x y => x >>> (y &&& 31)) nx L st h
  | .iushr => zbin (fun x y => (x.toUInt32 >>> (y.toUInt32 &&& Int32.toUInt32 31)).toInt32) nx L st h
  | .idiv => zdiv (fun x y => x / y) nx L st h
  | .irem => zdiv (fun x y => x - x / y * y) nx L st h
  | .ineg => zun (fun x => .int (-x)) nx L st h
  | .i2l => zun (fun x => .long x.toInt64) nx L st h
  | .i2b => zun (fun x => .int x.toInt8.toInt32) nx L st h
  | .i2c => zun (fun x => .int (x.toUInt32 % 65536).toInt32) nx L st h
  | .i2d => zun (fun x => .double (FP.i2d x)) nx L st h
  | .ladd => zbinL (fun x y => x + y) nx L st h
  | .lmul => zbinL (fun x y => x * y) nx L st h
  | .lcmp => zlc nx L st h
  | .ddiv => zbinD FP.ddiv nx L st h
  | .dmul => zbinD FP.dmul nx L st h
  | .d2l => zd2l nx L st h
  | .dup => zdup nx L st h
  | .pop => zpop nx L st h
  | .pop2 => zpop2 nx L st h
  | .dup_x1 => zdupx1 nx L st h
  | .dup2 => zdup2 nx L st h
  | .ifCond q _ => zif q k nx L st h
  | .if_icmp q _ => zicmp q k nx L st h
  | .goto _ => zgo k L st h
  | .tableswitch d lo hi os => ztab pc d lo hi os L st h
  | .lookupswitch d ps => zlook pc d ps L st h
  | .iaload => zialoadX xs nx L st h
  | .iastore => zast 100 some nx L st h
  | .baload => zald k nx L st h
  | .bastore => if k = 101 then zast 101 (fun x => if x = 0 ∨ x = 1 then some x else none) nx L st h else zast 102 (fun x => some x.toInt8.toInt32) nx L st h
  | .aaload => zaald nx L st h
  | .aastore => zaast nx L st h
  | .arraylength => zalen xs nx L st h
  | .newarray t => znewa (ztag t) (.int 0) nx L st h
  | .anewarray _ => znewa 103 .null nx L st h
  | .multianewarray _ _ => zmulti nx L st h
  | .getfield _ => zget cf y k nx L st h
  | .putfield _ => zput cf y k nx L st h
  | .new _ => if k = 9 then (if zcs st ≤ 8 then some (.inr (.inr (.inr y, 1, 6))) else none) else znew cf c nx L st h
  | .invokestatic _ => if k = 10 then zcopy nx L st h else if k = 12 then zmm (fun x y => if x < y then y else x) nx L st h else if k = 13 then zmm (fun x y => if y < x then y else x) nx L st h else zcall n y nx st
  | .invokevirtual _ => if k = 11 then zgetc nx L st h else zcallV n c y nx st h
  | .invokeinterface _ _ => zcallV n c y nx st h
  | .invokespecial _ => if k = 8 then zoi nx L st h else if k = 7 then zcallV n c y nx st h else zcallI n y nx st
  | .ireturn => (match st with
      | [.int v] => if k = 0 ∨ (k = 1 ∧ (v = 0 ∨ v = 1)) ∨ (k = 2 ∧ 0 ≤ v ∧ v ≤ 255) then zret (some (.int v)) else none
      | _ => none)
  | .lreturn => (match st with
      | [.long v] => zret (some (.long v))
      | _ => none)
  | .dreturn => (match st with
      | [.double v] => zret (some (.double v))
      | _ => none)
  | .areturn => (match st with
      | [.ref v] => zret (some (.ref v))
      | [.retAddr v] => zret (some (.retAddr v))
      | _ => none)
  | .return_ => (match st with
      | [] => zret none
      | _ => none)
  | _ => none
end zg0
section zg1
/-- the abstract values by the world's addresses: sp the three special ones -/
def zV (sp : Nat → Nat) (ads : List Nat) (v v' : Value) : Prop := match v with
  | .ref k => ∃ a, ads[k]? = some a ∧ v' = .ref a
  | .retAddr k => k < 4 ∧ v' = .ref (sp k)
  | w => v' = w
def zS (sp : Nat → Nat) (ads : List Nat) : List Value → List Value → Prop
  | [], st' => st' = []
  | v :: st, st' => ∃ v' r', st' = v' :: r' ∧ zV sp ads v v' ∧ zS sp ads st r'
/-- the locals -/
def zLR (sp : Nat → Nat) (ads : List Nat) (L : zL) (ls : Array Slot) (nL : Nat) : Prop := L.length = nL ∧ ∃ lv : List (Nat × Value), lv_has ls nL lv ∧ ∀ i v, L[i]? = some (some v) → ∃ v', zV sp ads v v' ∧ (i, v') ∈ lv
theorem zV_cat {sp : Nat → Nat} {ads : List Nat} {v v' : Value} (h : zV sp ads v v') : v'.category = if zcat v then 2 else 1 := by
  cases v with
  | ref k => obtain ⟨a, -, rfl⟩ := h; rfl
  | retAddr k => obtain ⟨-, rfl⟩ := h; rfl
  | int x => cases (show v' = _ from h); rfl
  | long x => cases (show v' = _ from h); rfl
  | float x => cases (show v' = _ from h); rfl
  | double x => cases (show v' = _ from h); rfl
  | null => cases (show v' = _ from h); rfl
theorem zV_mono {sp : Nat → Nat} {ads : List Nat} {v v' : Value} (q : List Nat) (h : zV sp ads v v') : zV sp (ads ++ q) v v' := by
  cases v with
  | ref k =>
    obtain ⟨a, h1, rfl⟩ := h
    exact ⟨a, by rw [List.getElem?_append_left (List.getElem?_eq_some_iff.mp h1).1]; exact h1, rfl⟩
  | _ => exact h
theorem zS_mono {sp : Nat → Nat} {ads : List Nat} (q : List Nat) : ∀ {st st' : List Value}, zS sp ads st st' → zS sp (ads ++ q) st st'
  | [], _, h => h
  | _ :: _, _, ⟨v', r', h1, h2, h3⟩ => ⟨v', r', h1, zV_mono q h2, zS_mono q h3⟩
theorem zLR_mono {sp : Nat → Nat} {ads : List Nat} {L : zL} {ls : Array Slot} {nL : Nat} (q : List Nat) (h : zLR sp ads L ls nL) : zLR sp (ads ++ q) L ls nL := by
  obtain ⟨h0, lv, h1, h2⟩ := h
  exact ⟨h0, lv, h1, fun i v hi => by obtain ⟨v', a, b⟩ := h2 i v hi; exact ⟨v', zV_mono q a, b⟩⟩
theorem zS_cs {sp : Nat → Nat} {ads : List Nat} : ∀ {st st' : List Value}, zS sp ads st st' → (st'.map fun v => v.category).sum = zcs st
  | [], _, h => by cases (show _ = [] from h); rfl
  | v :: st, _, ⟨v', r', rfl, h2, h3⟩ => by
    rw [List.map_cons, List.sum_cons, zS_cs h3, zV_cat h2]
    rfl
theorem zS_len {sp : Nat → Nat} {ads : List Nat} : ∀ {st st' : List Value}, zS sp ads st st' → st'.length = st.length
  | [], _, h => by cases (show _ = [] from h); rfl
  | _ :: _, _, ⟨_, _, rfl, _, h3⟩ => by rw [List.length_cons, List.length_cons, zS_len h3]
theorem zS_at {sp : Nat → Nat} {ads : List Nat} : ∀ {st st' : List Value}, zS sp ads st st' → ∀ {k : Nat} {v : Value}, st[k]? = some v → ∃ v', st'[k]? = some v' ∧ zV sp ads v v'
  | [], _, _, k, v, h => by simp at h
  | w :: st, _, ⟨w', r', rfl, h2, h3⟩, 0, v, h => ⟨w', rfl, by cases h; exact h2⟩
  | w :: st, _, ⟨w', r', rfl, h2, h3⟩, k + 1, v, h => zS_at h3 (k := k) h
theorem zS_set {sp : Nat → Nat} {ads : List Nat} {v v' : Value} (hv : zV sp ads v v') : ∀ {st st' : List Value}, zS sp ads st st' → ∀ (k : Nat), zS sp ads (st.set k v) (st'.set k v')
  | [], _, h, k => by cases (show _ = [] from h); exact rfl
  | w :: st, _, ⟨w', r', rfl, h2, h3⟩, 0 => ⟨v', r', rfl, hv, h3⟩
  | w :: st, _, ⟨w', r', rfl, h2, h3⟩, k + 1 => ⟨w', _, rfl, h2, zS_set hv h3 k⟩
theorem zS_app {sp : Nat → Nat} {ads : List Nat} {b b' : List Value} (hb : zS sp ads b b') : ∀ {a a' : List Value}, zS sp ads a a' → zS sp ads (a ++ b) (a' ++ b')
  | [], _, h => by cases (show _ = [] from h); exact hb
  | _ :: _, _, ⟨w', r', rfl, h2, h3⟩ => ⟨w', _, rfl, h2, zS_app hb h3⟩
/-- popping arguments -/
theorem ztk_S {sp : Nat → Nat} {ads : List Nat} : ∀ (n : Nat) {acc acc' st st' as r : List Value}, zS sp ads acc acc' → zS sp ads st st' → ztk n acc st = some (as, r) → ∃ as' r' : List Value, zS sp ads as as' ∧ zS sp ads r r' ∧ acc'.reverse ++ st' = as'.reverse ++ r' ∧ as.length = acc.length + n
  | 0, acc, acc', st, st', as, r, ha, hs, h => by
    cases (show some (acc, st) = some (as, r) from h)
    exact ⟨acc', st', ha, hs, rfl, rfl⟩
  | n + 1, acc, acc', [], st', as, r, ha, hs, h => by cases (show none = some (as, r) from h)
  | n + 1, acc, acc', v :: st, _, as, r, ha, ⟨v', r1, rfl, h2, h3⟩, h => by
    obtain ⟨as', r', a1, a2, a3, a4⟩ := ztk_S n (acc := v :: acc) (acc' := v' :: acc') ⟨v', acc', rfl, h2, ha⟩ h3 h
    exact ⟨as', r', a1, a2, by rw [← a3]; simp, by rw [a4, List.length_cons]; omega⟩
theorem zst1_spec {v : Value} : ∀ {i : Nat} {L L' : zL}, zst1 v i L = some L' → L'.length = L.length ∧ i < L.length ∧ L'[i]? = some (some v) ∧ ∀ j w, j ≠ i → L'[j]? = some (some w) → L[j]? = some (some w) ∧ (j + 1 = i → zcat w = false)
  | 0, a :: l, L', h => by
    cases (show some _ = some L' from h)
    refine ⟨rfl, Nat.succ_pos _, rfl, fun j w hj hw => ?_⟩
    cases j with
    | zero => exact absurd rfl hj
    | succ j => exact ⟨hw, fun e => by omega⟩
  | 1, a :: b :: l, L', h => by
    cases (show some _ = some L' from h)
    refine ⟨rfl, by simp, rfl, fun j w hj hw => ?_⟩
    match j, hj, hw with
    | 0, _, hw =>
      have hw' : zk a = some w := Option.some.inj hw
      cases a with
      | none => cases hw'
      | some x => cases x <;> first | (cases hw'; done) | (cases hw'; exact ⟨rfl, fun _ => rfl⟩)
    | 1, hj, _ => exact absurd rfl hj
    | j + 2, _, hw => exact ⟨hw, fun e => by omega⟩
  | i + 2, a :: l, L', h => by
    unfold zst1 at h
    split at h
    · next l' hl =>
      cases h
      obtain ⟨h1, h2, h3, h4⟩ := zst1_spec hl
      refine ⟨by simp [h1], by simp; omega, h3, fun j w hj hw => ?_⟩
      cases j with
      | zero => exact ⟨hw, fun e => by omega⟩
      | succ j =>
        obtain ⟨q1, q2⟩ := h4 j w (by omega) hw
        exact ⟨q1, fun e => q2 (by omega)⟩
    · cases h
  | 0, [], L', h => by cases (show none = some L' from h)
  | 1, [], L', h => by cases (show none = some L' from h)
  | 1, [_], L', h => by cases (show none = some L' from h)
  | i + 2, [], L', h => by cases (show none = some L' from h)
theorem zst2_spec {v : Value} : ∀ {i : Nat} {L L' : zL}, zst2 v i L = some L' → L'.length = L.length ∧ i + 1 < L.length ∧ L'[i]? = some (some v) ∧ ∀ j w, j ≠ i → L'[j]? = some (some w) → L[j]? = some (some w) ∧ j ≠ i + 1 ∧ (j + 1 = i → zcat w = false)
  | 0, a :: b :: l, L', h => by
    cases (show some _ = some L' from h)
    refine ⟨rfl, by simp, rfl, fun j w hj hw => ?_⟩
    match j, hj, hw with
    | 0, hj, _ => exact absurd rfl hj
    | 1, _, hw => cases hw
    | j + 2, _, hw => exact ⟨hw, by omega, fun e => by omega⟩
  | 1, a :: b :: d :: l, L', h => by
    cases (show some _ = some L' from h)
    refine ⟨rfl, by simp, rfl, fun j w hj hw => ?_⟩
    match j, hj, hw with
    | 0, _, hw =>
      have hw' : zk a = some w := Option.some.inj hw
      cases a with
      | none => cases hw'
      | some x => cases x <;> first | (cases hw'; done) | (cases hw'; exact ⟨rfl, by omega, fun _ => rfl⟩)
    | 1, hj, _ => exact absurd rfl hj
    | 2, _, hw => cases hw
    | j + 3, _, hw => exact ⟨hw, by omega, fun e => by omega⟩
  | i + 2, a :: l, L', h => by
    unfold zst2 at h
    split at h
    · next l' hl =>
      cases h
      obtain ⟨h1, h2, h3, h4⟩ := zst2_spec hl
      refine ⟨by simp [h1], by simp; omega, h3, fun j w hj hw => ?_⟩
      cases j with
      | zero => exact ⟨hw, by omega, fun e => by omega⟩
      | succ j =>
        obtain ⟨q1, q2, q3⟩ := h4 j w (by omega) hw
        exact ⟨q1, by omega, fun e => q3 (by omega)⟩
    · cases h
  | 0, [], L', h => by cases (show none = some L' from h)
  | 0, [_], L', h => by cases (show none = some L' from h)
  | 1, [], L', h => by cases (show none = some L' from h)
  | 1, [_], L', h => by cases (show none = some L' from h)
  | 1, [_, _], L', h => by cases (show none = some L' from h)
  | i + 2, [], L', h => by cases (show none = some L' from h)
theorem zLR_st1 {sp : Nat → Nat} {ads : List Nat} {L L' : zL} {ls : Array Slot} {nL i : Nat} {v v' : Value} (h : zLR sp ads L ls nL) (hs : zst1 v i L = some L') (hv : zV sp ads v v') : i < nL ∧ ∃ lv : List (Nat × Value), lv_has ls nL lv ∧ ∀ ls' : Array Slot, lv_has ls' nL ((i, v') :: lv.filter (fun q => !(q.1 == i) && !(q.1 + 1 == i && q.2.category == 2))) → zLR sp ads L' ls' nL := by
  obtain ⟨h0, lv, h1, h2⟩ := h
  obtain ⟨q1, q2, q3, q4⟩ := zst1_spec hs
  refine ⟨by omega, lv, h1, fun ls' h' => ⟨by omega, _, h', fun j w hj => ?_⟩⟩
  by_cases e : j = i
  · subst e
    rw [q3] at hj
    cases hj
    exact ⟨v', hv, List.mem_cons_self⟩
  · obtain ⟨r1, r2⟩ := q4 j w e hj
    obtain ⟨w', a, b⟩ := h2 j w r1
    refine ⟨w', a, List.mem_cons_of_mem _ (List.mem_filter.mpr ⟨b, ?_⟩)⟩
    have hc := zV_cat a
    by_cases e2 : j + 1 = i
    · rw [r2 e2] at hc
      simp [e, hc]
    · simp [e, e2]
theorem zLR_st2 {sp : Nat → Nat} {ads : List Nat} {L L' : zL} {ls : Array Slot} {nL i : Nat} {v v' : Value} (h : zLR sp ads L ls nL) (hs : zst2 v i L = some L') (hv : zV sp ads v v') : i + 1 < nL ∧ ∃ lv : List (Nat × Value), lv_has ls nL lv ∧ ∀ ls' : Array Slot, lv_has ls' nL ((i, v') :: lv.filter (fun q => !(q.1 == i) && (!(q.1 == i + 1) && !(q.1 + 1 == i && q.2.category == 2)))) → zLR sp ads L' ls' nL := by
  obtain ⟨h0, lv, h1, h2⟩ := h
  obtain ⟨q1, q2, q3, q4⟩ := zst2_spec hs
  refine ⟨by omega, lv, h1, fun ls' h' => ⟨by omega, _, h', fun j w hj => ?_⟩⟩
  by_cases e : j = i
  · subst e
    rw [q3] at hj
    cases hj
    exact ⟨v', hv, List.mem_cons_self⟩
  · obtain ⟨r1, r3, r2⟩ := q4 j w e hj
    obtain ⟨w', a, b⟩ := h2 j w r1
    refine ⟨w', a, List.mem_cons_of_mem _ (List.mem_filter.mpr ⟨b, ?_⟩)⟩
    have hc := zV_cat a
    by_cases e2 : j + 1 = i
    · rw [r2 e2] at hc
      simp [e, r3, hc]
    · simp [e, r3, e2]
theorem zLR_ld {sp : Nat → Nat} {ads : List Nat} {L : zL} {ls : Array Slot} {nL i : Nat} {v : Value} (h : zLR sp ads L ls nL) (hi : L[i]? = some (some v)) : ∃ v', zV sp ads v v' ∧ ls[i]? = some (.val v') := by
  obtain ⟨h0, lv, h1, h2⟩ := h
  obtain ⟨v', a, b⟩ := h2 i v hi
  exact ⟨v', a, h1.2.2 _ b⟩
end zg1
section zg2
/-- the row of rows of this type has been made -/
def va_AOA (t : FieldType) (U : State) : Prop := (Cond.arrayOver (.array t)).before #[] U = true
theorem va_AOA.use {t : FieldType} {A : Array Value} {U : State} (h : va_AOA t U) : (Cond.arrayOver (.array t)).before A U = true := h
theorem va_AOA.moved {t : FieldType} {u U : State} (hvm : u.vm.Alike U.vm) (h : va_AOA t u) : va_AOA t U := over_moved hvm h
/-! ===== BEGIN new T[n][m]: the outer array a place, the inner ones among the pooled ===== -/
/-- f, but v at every address of l -/
def vr_up {α : Type} (f : Nat → α) (l : List Nat) (v : α) : Nat → α := fun a => if a ∈ l then v else f a
theorem vr_up_in {α : Type} {f : Nat → α} {l : List Nat} {v : α} {a : Nat} (h : a ∈ l) : vr_up f l v a = v := if_pos h
theorem vr_up_ne {α : Type} {f : Nat → α} {l : List Nat} {v : α} {a : Nat} (h : a ∉ l) : vr_up f l v a = f a := if_neg h
theorem vr_rows {L l : List Nat} {f : Nat → va_E} {e : va_E} (h : ∀ a, a ∈ l → a ∉ L) : va_pl L f ++ l.map (fun a => (a, e)) = va_pl (L ++ l) (vr_up f l e) := by
  unfold va_pl
  rw [List.map_append]
  congr 1
  · apply List.map_congr_left
    intro a ha
    rw [vr_up_ne (fun q => h a q ha)]
  · apply List.map_congr_left
    intro a ha
    rw [vr_up_in ha]
theorem vr_lay {X rows : va_W} {x : Nat × va_E} {pl : va_W} {D : va_G} {cl : List vw_C} {H : Heap} (hP : va_P D cl (((X ++ pl) ++ [x]) ++ rows) H) : va_P D cl ((X ++ [x]) ++ (pl ++ rows)) H := by
  rw [List.append_assoc (X ++ pl)] at hP
  have h := va_P.swap hP
  rw [← List.append_assoc X] at h
  have h2 := va_P.swap h
  rw [List.append_assoc (X ++ [x])] at h2
  exact h2
theorem vr_layD {X rows : va_W} {x : Nat × va_E} {pl : va_W} {A : Nat → Prop} (hD : va_D A (((X ++ pl) ++ [x]) ++ rows)) : va_D A ((X ++ [x]) ++ (pl ++ rows)) := by
  rw [List.append_assoc (X ++ pl)] at hD
  have h := va_D.swap hD
  rw [← List.append_assoc X] at h
  have h2 := va_D.swap h
  rw [List.append_assoc (X ++ [x])] at h2
  exact h2
theorem vr_outer (c : ClassId) (N h0 : Nat) : ∀ i : Nat, Jvm.Free.Multi.outerC c N h0 i = arrV c N (fun j => va_rf (if j < i then some (h0 + 1 + j) else none))
  | 0 => by
    show ({ cls := c, slots := Array.replicate N .null, vm := .none } : Cell) = _
    rw [arrV_new]
    refine congrArg (arrV c N) (funext fun j => ?_)
    simp [va_rf]
  | i + 1 => by
    show (Jvm.Free.Multi.outerC c N h0 i).setSlot i (.ref (h0 + 1 + i)) = _
    rw [vr_outer c N h0 i, arrV_store]
    refine congrArg (arrV c N) (funext fun j => ?_)
    by_cases e : j = i
    · subst e
      simp [updV, va_rf]
    · by_cases h : j < i
      · simp [updV, e, h, Nat.lt_succ_of_lt h]
      · simp [updV, e, h, show ¬ j < i + 1 by omega]
section VGM
variable {p : Program} {l : Launch} {e : Env} {R : Room} {s : State} {m : MethodId} {args : Array Value} {below : List Frame} {meth : Method} {c : Code} {H : Heap} {locs : List Loc} {cells slots : Nat} {Q : State → Prop}
variable {cc : ByteArray} {pc : Nat} {ls : Array Slot} {rest : List Value} {D : va_G} {cl : List vw_C} {A : Nat → Prop} {a : Nat} {tys : List (ClassId × FieldType)} {ws : va_W} {H0 : Heap}
theorem va_mna {X : va_W} {L : List Nat} {f : Nat → va_E} {cc : ByteArray} (hexec : p.tables.exec = Jvm.exec) (hb : c.code = cc) {own : String} {index : Nat} {ty : FieldType} {cy : ClassId} (hown : s.vm.findClass own = some m.cls) (hclink : (Cond.classLink own index ("[" ++ (FieldType.array ty).toString)).before args s = true) (hover : va_AOA ty s) (harr : (Cond.arrayClass ty).before args s = true) (hcy : s.vm.findClass (FieldType.array ty).toString = some cy)
    (hK : va_K D cl tys s) (hP : va_P D cl (X ++ va_pl L f) H) (hD : va_D A (X ++ va_pl L f)) (hS : va_S A H0 H locs) (hA : ∀ q, H0.size ≤ q → A q) {n k : Int32} {N' K' : Nat} {z : vp_A} (hn : ¬ n < 0) (hk : ¬ k < 0) (hN : n.toNatClampNeg = N') (hM : k.toNatClampNeg = K')
    (hb1 : N' * 4 ≤ 536870912) (hb2 : K' * componentBytes ty ≤ 536870912) (hb3 : K' ≤ 536870912) (hdf : fits ty (defaultValue ty) = true) (hdd : (defaultValue ty).isDefault = true) (hcells : cells + (1 + N') ≤ R.cells) (hslots : slots + (N' + N' * K') ≤ R.slots) (hz : ∀ c : ClassId, Jvm.Free.Multi.innerC c K' (defaultValue ty) = vp_cell c z) (hdg : decode cc pc = .ok (.multianewarray index 2, 4))
    (kk : ∀ (q : Nat) (r : Nat → Nat) (cA : ClassId) (H1 : Heap), (∀ i j : Nat, i < N' → j < N' → r i = r j → i = j) → (∀ i : Nat, i < N' → r i ∉ L) → va_K D cl (tys ++ [(cA, .array ty)]) s →
      va_P D cl ((X ++ [(q, .inl (cA, N', .inr (.inr (.inr (.inr (fun i => if i < N' then some (r i) else none))))))]) ++ va_pl (L ++ (List.range N').map r) (vr_up f ((List.range N').map r) (.inl (cy, z)))) H1 → va_D A ((X ++ [(q, .inl (cA, N', .inr (.inr (.inr (.inr (fun i => if i < N' then some (r i) else none))))))]) ++ va_pl (L ++ (List.range N').map r) (vr_up f ((List.range N').map r) (.inl (cy, z)))) → va_S A H0 H1 locs →
      W p l e R s m args below meth c H1 locs (cells + 1 + N') (slots + N' + N' * K') Q (F0 m (pc + 4) ls (.ref q :: rest))) : W p l e R s m args below meth c H locs cells slots Q (F0 m pc ls (.int k :: .int n :: rest)) := by
  subst hN
  subst hM
  intro T hT Xs
  obtain ⟨vm₁, cA, comp, -, fA, fC, hO, -, X', step⟩ := Xs.multianewarray2F hexec hown hclink (va_AOA.use hover) harr (g := F0 m pc ls (.int k :: .int n :: rest)) rfl (by rw [hb]; exact hdg) rfl hn hk hb1 hb2 hb3 hdf hdd hcells hslots
  have ec : some cy = some comp := hcy.symm.trans fC
  cases ec
  generalize hF : Jvm.Free.Multi.fill (T.setVm vm₁) cA cy n.toNatClampNeg k.toNatClampNeg (defaultValue ty) n.toNatClampNeg = F at X' step
  have hTh : (T.setVm vm₁).heap = H := hT
  obtain ⟨f1, f2, -, -⟩ := Jvm.Free.Multi.fill_facts (T.setVm vm₁) cA cy n.toNatClampNeg k.toNatClampNeg (defaultValue ty) n.toNatClampNeg
  rw [hF, hTh] at f1 f2
  have hold : ∀ x : Nat, x < H.size → F.heap[x]? = H[x]? := fun x hx => by
    have := Jvm.Free.Multi.fill_old (T.setVm vm₁) cA cy n.toNatClampNeg k.toNatClampNeg (defaultValue ty) (a := x) (by rw [hTh]; exact hx) n.toNatClampNeg
    rw [hF, hTh] at this
    exact this
  have hrow : ∀ j : Nat, j < n.toNatClampNeg → F.heap[H.size + 1 + j]? = some (vp_cell cy z) := fun j hj => by
    have := Jvm.Free.Multi.fill_inner (T.setVm vm₁) cA cy n.toNatClampNeg k.toNatClampNeg (defaultValue ty) n.toNatClampNeg j hj
    rw [hF, hTh, hz] at this
    exact this
  have hout : Jvm.Free.Multi.outerC cA n.toNatClampNeg H.size n.toNatClampNeg = vp_cell cA (n.toNatClampNeg, .inr (.inr (.inr (.inr (fun i => if i < n.toNatClampNeg then some (H.size + 1 + i) else none))))) := by
    rw [vp_cell_q]
    exact vr_outer cA n.toNatClampNeg H.size n.toNatClampNeg
  rw [hout] at f2
  have hlt : ∀ a, a ∈ L → a < H.size := fun a ha => by
    obtain ⟨k9, hk9⟩ := va_pl_get (X := X) (f := f) ha
    exact (hP k9 _ hk9).lt
  have hnl : ∀ i : Nat, i < n.toNatClampNeg → H.size + 1 + i ∉ L := fun i _ h => by
    have := hlt _ h
    omega
  have hnm : ∀ a, a ∈ (List.range n.toNatClampNeg).map (fun i => H.size + 1 + i) → a ∉ L := fun a ha h => by
    obtain ⟨i, -, rfl⟩ := List.mem_map.mp ha
    have := hlt _ h
    omega
  have hP0 : va_P D cl (X ++ va_pl L f) F.heap := hP.kept (fun k9 x hx => hold x.1 ((hP k9 x hx).lt))
  have hP1 : va_P D cl ((X ++ va_pl L f) ++ [(H.size, .inl (cA, n.toNatClampNeg, .inr (.inr (.inr (.inr (fun i => if i < n.toNatClampNeg then some (H.size + 1 + i) else none))))))]) F.heap := hP0.app (fun k9 x hx => by
    have h0 : k9 < 1 := (List.getElem?_eq_some_iff.mp hx).1
    rw [show k9 = 0 by omega] at hx
    cases hx
    exact f2)
  have hP2 : va_P D cl (((X ++ va_pl L f) ++ [(H.size, .inl (cA, n.toNatClampNeg, .inr (.inr (.inr (.inr (fun i => if i < n.toNatClampNeg then some (H.size + 1 + i) else none))))))]) ++ ((List.range n.toNatClampNeg).map (fun i => H.size + 1 + i)).map (fun a => (a, .inl (cy, z)))) F.heap := hP1.app (fun k9 x hx => by
    obtain ⟨a, ha, rfl⟩ := List.mem_map.mp (List.mem_of_getElem? hx)
    obtain ⟨i, hi, rfl⟩ := List.mem_map.mp ha
    exact hrow i (List.mem_range.mp hi))
  have hD2 : va_D A (((X ++ va_pl L f) ++ [(H.size, .inl (cA, n.toNatClampNeg, .inr (.inr (.inr (.inr (fun i => if i < n.toNatClampNeg then some (H.size + 1 + i) else none))))))]) ++ ((List.range n.toNatClampNeg).map (fun i => H.size + 1 + i)).map (fun a => (a, .inl (cy, z)))) := by
    have hD1 := hD.push (e := .inl (cA, n.toNatClampNeg, .inr (.inr (.inr (.inr (fun i => if i < n.toNatClampNeg then some (H.size + 1 + i) else none)))))) hP rfl (hA _ hS.1)
    generalize hW1 : (X ++ va_pl L f) ++ [(H.size, .inl (cA, n.toNatClampNeg, .inr (.inr (.inr (.inr (fun i => if i < n.toNatClampNeg then some (H.size + 1 + i) else none))))))] = W1 at hD1 hP1 ⊢
    have hle : ∀ (k9 : Nat) (x : Nat × va_E), W1[k9]? = some x → x.1 ≤ H.size := fun k9 x hx => by
      rw [← hW1] at hx
      by_cases hl : k9 < (X ++ va_pl L f).length
      · rw [List.getElem?_append_left hl] at hx
        exact Nat.le_of_lt ((hP k9 x hx).lt)
      · rw [List.getElem?_append_right (by omega)] at hx
        have h0 : k9 - (X ++ va_pl L f).length < 1 := (List.getElem?_eq_some_iff.mp hx).1
        rw [show k9 - (X ++ va_pl L f).length = 0 by omega] at hx
        cases hx
        exact Nat.le_refl _
    have hr : ∀ (k9 : Nat) (x : Nat × va_E), (((List.range n.toNatClampNeg).map (fun i => H.size + 1 + i)).map (fun a => ((a, .inl (cy, z)) : Nat × va_E)))[k9]? = some x → x.1 = H.size + 1 + k9 := fun k9 x hx => by
      rw [List.getElem?_map, List.getElem?_map] at hx
      by_cases h9 : k9 < n.toNatClampNeg
      · rw [List.getElem?_range h9] at hx
        cases hx
        rfl
      · have hn0 : (List.range n.toNatClampNeg)[k9]? = none := List.getElem?_eq_none (by rw [List.length_range]; omega)
        rw [hn0] at hx
        cases hx
    refine ⟨fun i j x y hi hj hxy => ?_, fun k9 x hx => ?_⟩
    · by_cases h1 : i < W1.length <;> by_cases h2 : j < W1.length
      · rw [List.getElem?_append_left h1] at hi
        rw [List.getElem?_append_left h2] at hj
        exact hD1.1 i j x y hi hj hxy
      · rw [List.getElem?_append_left h1] at hi
        rw [List.getElem?_append_right (by omega)] at hj
        have := hle _ _ hi
        have := hr _ _ hj
        omega
      · rw [List.getElem?_append_right (by omega)] at hi
        rw [List.getElem?_append_left h2] at hj
        have := hle _ _ hj
        have := hr _ _ hi
        omega
      · rw [List.getElem?_append_right (by omega)] at hi hj
        have := hr _ _ hi
        have := hr _ _ hj
        omega
    · by_cases h1 : k9 < W1.length
      · rw [List.getElem?_append_left h1] at hx
        exact hD1.2 k9 x hx
      · rw [List.getElem?_append_right (by omega)] at hx
        have := hr _ _ hx
        exact hA _ (by have := hS.1; omega)
  have hAr : ArrOfT s cA (.array ty) := fun N9 z9 => by
    obtain ⟨-, k9, hk9, cm9, hkk9⟩ := (hO 0 0 0).1
    exact ⟨(fun q hq => by cases hq), k9, hk9, cm9, hkk9⟩
  have hK2 : va_K D cl (tys ++ [(cA, .array ty)]) s := ⟨hK.1, fun k9 x hx => by
    by_cases hl : k9 < tys.length
    · rw [List.getElem?_append_left hl] at hx
      exact hK.2 k9 x hx
    · rw [List.getElem?_append_right (by omega)] at hx
      have h0 : k9 - tys.length < 1 := (List.getElem?_eq_some_iff.mp hx).1
      rw [show k9 - tys.length = 0 by omega] at hx
      cases hx
      exact ⟨hAr, fA⟩⟩
  obtain ⟨t, a1, b1⟩ := kk H.size (fun i => H.size + 1 + i) cA F.heap (fun i j _ _ h => by have h9 : H.size + 1 + i = H.size + 1 + j := h; omega) hnl hK2 (by rw [← vr_rows hnm]; exact vr_lay hP2) (by rw [← vr_rows hnm]; exact vr_layD hD2) ⟨by rw [f1]; have := hS.1; omega, fun x h1 h2 => (hold x (Nat.lt_of_lt_of_le h1 hS.1)).trans (hS.2.1 x h1 h2), hS.2.2⟩ F rfl X'
  refine ⟨t, step t ?_, b1⟩
  have e : T.heap.size = H.size := by rw [hT]
  rw [e]
  exact a1
end VGM
/-! ===== END ===== -/
end zg2
section zg3
/-! Words that no reader of steady words carries into a call: told beside. -/
def zND : List MethodName := [⟨"java/lang/RuntimeException", "<init>", "(Ljava/lang/String;)V"⟩, ⟨"java/lang/Exception", "<init>", "(Ljava/lang/String;)V"⟩, ⟨"java/lang/Throwable", "<init>", "(Ljava/lang/String;)V"⟩, ⟨"java/lang/Object", "getClass", "()Ljava/lang/Class;"⟩]
def zNC : List (String × String) := [("java/lang/IllegalArgumentException", "java/lang/IllegalArgumentException"), ("java/lang/IndexOutOfBoundsException", "java/lang/IndexOutOfBoundsException"), ("java/lang/IllegalStateException", "java/lang/IllegalStateException"), ("[I", "java/lang/Object")]
def zN2 : List Jvm.Cond := zND.map (fun q => .declares q) ++ zNC.map (fun q => .castable q.1 q.2)
theorem zN2_warm {s U : State} (hW : s.WarmedH U.vm) (h : ∀ w ∈ zN2, va_Nw w s) : ∀ w ∈ zN2, va_Nw w U := by
  intro w hw
  have hs := h w hw
  rcases List.mem_append.mp hw with q | q
  · obtain ⟨x, -, rfl⟩ := List.mem_map.mp q
    exact va_Nw.warmD hW hs
  · obtain ⟨x, -, rfl⟩ := List.mem_map.mp q
    exact va_Nw.warmC hW hs
theorem zN2_on : ∀ w ∈ zN2, w.onTables = true := by
  intro w hw
  rcases List.mem_append.mp hw with q | q
  · obtain ⟨x, -, rfl⟩ := List.mem_map.mp q
    rfl
  · obtain ⟨x, -, rfl⟩ := List.mem_map.mp q
    rfl
/-- what no exception is -/
def zNP : List (String × String) := [("java/lang/IllegalArgumentException", "java/lang/IndexOutOfBoundsException"), ("java/lang/IllegalArgumentException", "java/lang/IllegalStateException"), ("java/lang/IndexOutOfBoundsException", "java/lang/IllegalArgumentException"), ("java/lang/IndexOutOfBoundsException", "java/lang/IllegalStateException"), ("java/lang/IllegalStateException", "java/lang/IllegalArgumentException"), ("java/lang/IllegalStateException", "java/lang/IndexOutOfBoundsException")]
def zIF : List (MethodName × MethodName) := [(⟨"java/util/List", "size", "()I"⟩, ⟨"java/util/ArrayList", "size", "()I"⟩), (⟨"java/util/List", "get", "(I)Ljava/lang/Object;"⟩, ⟨"java/util/ArrayList", "get", "(I)Ljava/lang/Object;"⟩), (⟨"java/util/List", "add", "(Ljava/lang/Object;)Z"⟩, ⟨"java/util/ArrayList", "add", "(Ljava/lang/Object;)Z"⟩)]
theorem zIF_cls : ∀ q ∈ zIF, q.1.cls ≠ "java/lang/invoke/MethodHandle" ∧ q.1.cls ≠ "java/lang/invoke/VarHandle" := by decide +kernel
/-- the JDK's statics and words that lists, texts and rows of references want -/
def zSJ (sp : Nat → Nat) (A : Nat → Prop) (s : State) : Prop :=
  (∀ q ∈ zIF, va_Fw "java/util/ArrayList" q.1 q.2 s) ∧ va_Z "java/lang/String" "COMPACT_STRINGS" "Z" (.int 1) A s s.heap ∧ va_Z "java/util/ArrayList" "DEFAULTCAPACITY_EMPTY_ELEMENTDATA" "[Ljava/lang/Object;" (.ref (sp 1)) A s s.heap ∧ va_T (.object "java/lang/Object") (sp 1) 0 (fun _ => .null) A s s.heap ∧ va_Mi "[Ljava/lang/Object;" (sp 2) s ∧ va_AO "java/lang/Object" s ∧ vk_R "ScrubwardModel" 255 "" (sp 3) s ∧ va_AOA .int s
theorem zSJ_call {sp : Nat → Nat} {A A' : Nat → Prop} {s U : State} {H : Heap} {locs : List Loc} (h : zSJ sp A s) (hS : va_S A s.heap H locs) (hW : s.WarmedH U.vm) (hU : U.heap = H) (hA : ∀ q, A' q → A q) : zSJ sp A' U := by
  obtain ⟨a1, a2, a3, a4, a5, a6, a7, a8⟩ := h
  subst hU
  exact ⟨fun q hq => va_Fw.moved (zIF_cls q hq) hW.alike (a1 q hq), (va_Z.moved hW.alike (a2.kept hS.2.1)).narrow hA, (va_Z.moved hW.alike (a3.kept hS.2.1)).narrow hA, (va_T.moved hW.alike (a4.kept hS.2.1)).narrow hA, va_Mi.moved hW.alike a5, va_AO.moved hW.alike a6, vk_R.warm hW a7, va_AOA.moved hW.alike a8⟩
end zg3
section zg4
theorem zcf_out {t : Nat} (h : 11 ≤ t) : zcf t = [] := by
  unfold zcf
  rw [List.getD_eq_getElem?_getD, List.getElem?_eq_none (by simpa using h)]
  rfl
theorem zby {x : Int32} (h1 : -128 ≤ x) (h2 : x ≤ 127) : narrow .byte (.int x) = .int x := by
  have h3 := Int32.le_iff_toInt_le.mp h1
  have h4 := Int32.le_iff_toInt_le.mp h2
  have e1 : (-128 : Int32).toInt = -128 := by decide
  have e2 : (127 : Int32).toInt = 127 := by decide
  rw [e1] at h3
  rw [e2] at h4
  show Value.int x.toInt8.toInt32 = Value.int x
  congr 1
  apply Int32.toInt_inj.mp
  rw [Int8.toInt_toInt32, Int32.toInt_toInt8]
  rw [Int.bmod_def]
  omega
theorem zdf_V (sp : Nat → Nat) (ads : List Nat) (k : Nat) : zV sp ads (zdf k) (zdf k) := by
  unfold zdf
  split <;> exact rfl
theorem zdfs (sp : Nat → Nat) (ads : List Nat) : ∀ l : List (Nat × Nat), zS sp ads (l.map (fun q => zdf q.2)) (l.map (fun q => zdf q.2))
  | [] => rfl
  | q :: l => ⟨_, _, rfl, zdf_V sp ads q.2, zdfs sp ads l⟩
/-! The abstract machine's step is the machine's. -/
def zC (sp : Nat → Nat) (ty : Nat → ClassId) (ads : List Nat) (c : Nat × List Value) (e : va_E) : Prop :=
  (c.1 < 100 ∧ ∃ vs', e = .inr (c.1, vs') ∧ zS sp ads c.2 vs') ∨
  ((c.1 = 100 ∨ c.1 = 101 ∨ c.1 = 102) ∧ ∃ f : Nat → Int32, e = .inl (ty (c.1 - 100), c.2.length, .inl f) ∧ ∀ (j : Nat) (x : Value), c.2[j]? = some x → x = .int (f j)) ∨
  ((c.1 = 103 ∨ c.1 = 104) ∧ ∃ f : Nat → Option Nat, e = .inl (ty (c.1 - 100), c.2.length, .inr (.inr (.inr (.inr f)))) ∧ ∀ (j : Nat) (x : Value), c.2[j]? = some x → zV sp ads x (va_rf (f j)))
def zW (sp : Nat → Nat) (ty : Nat → ClassId) (D : va_G) (A : Nat → Prop) (H0 : Heap) (ads : List Nat) (h : zH) (H : Heap) (locs : List Loc) : Prop :=
  ∃ ws : va_W, va_P D zcl ws H ∧ va_D A ws ∧ va_S A H0 H locs ∧ ws.map (fun q => q.1) = ads ∧ h.length = ws.length ∧ ∀ (k : Nat) (c : Nat × List Value) (q : Nat × va_E), h[k]? = some c → ws[k]? = some q → zC sp ty ads c q.2
def zR (sp : Nat → Nat) (ty : Nat → ClassId) (D : va_G) (A : Nat → Prop) (H0 : Heap) (nL : Nat) (ads : List Nat) (L : zL) (st : List Value) (h : zH) (ls : Array Slot) (str : List Value) (H : Heap) (locs : List Loc) : Prop :=
  zLR sp ads L ls nL ∧ zS sp ads st str ∧ zW sp ty D A H0 ads h H locs
def ztys (ty : Nat → ClassId) : List (ClassId × FieldType) := [(ty 0, .int), (ty 1, .boolean), (ty 2, .byte), (ty 3, .object "java/lang/Object"), (ty 4, .array .int)]
/-- what is known of the special addresses -/
def zSP (xs : List Int32) (sp : Nat → Nat) (A : Nat → Prop) (s : State) : Prop :=
  (∀ w ∈ zN, va_Nw w s) ∧
  (vx_Zq Bundle.tN "UNASSIGNED_STACK" Bundle.steD A s s.heap ∧ vx_Zq Bundle.tN "SUPPRESSED_SENTINEL" Bundle.listD A s s.heap) ∧
  (∀ q ∈ zTX, ∃ sa, vk_R q.1 q.2.1 q.2.2 sa s) ∧
  (va_X (sp 0) xs.length (fun j => xs.getD j 0) s s.heap ∧ sp 0 < s.heap.size ∧ ¬ A (sp 0)) ∧
  (∀ w ∈ zN2, va_Nw w s) ∧ (∀ q ∈ zNP, va_Nc q.1 q.2 s) ∧ zSJ sp A s
def zX (xs : List Int32) (sp : Nat → Nat) (ty : Nat → ClassId) (D : va_G) (A : Nat → Prop) (y : Nat) (p : Program) (R : Room) (s : State) (m : MethodId) (args : Array Value) (meth : Method) (c : Code) : Prop :=
  p.tables.exec = Jvm.exec ∧ c.code = zmb y ∧ c.maxLocals = zmL y ∧ meth.sig.returnType = zmr y ∧ meth.locks = false ∧ s.vm.findClass (zon (zmo y)) = some m.cls ∧ ((zmn y).name = "<init>" → meth.name = "<init>") ∧
  (∀ w ∈ zB, w.before args s = true) ∧ va_K D zcl (ztys ty) s ∧ (∀ q, s.heap.size ≤ q → A q) ∧ zSP xs sp A s ∧ 20 ≤ R.frames ∧ 400 ≤ R.locals
section ZZ
variable {p : Program} {l : Launch} {e : Env} {R : Room} {s : State} {m : MethodId} {args : Array Value} {below : List Frame} {meth : Method} {c : Code} {H : Heap} {locs : List Loc} {cells slots : Nat} {Q : State → Prop}
variable {xs : List Int32} {sp : Nat → Nat} {ty : Nat → ClassId} {D : va_G} {A : Nat → Prop} {ads : List Nat} {nL : Nat} {H0 : Heap}
variable {pc nx pc' dc ds : Nat} {L L' : zL} {st st' str : List Value} {h h' : zH} {ls : Array Slot}
/-- what is owed behind a step -/
abbrev zKK (p : Program) (l : Launch) (e : Env) (R : Room) (s : State) (m : MethodId) (args : Array Value) (below : List Frame) (meth : Method) (c : Code) (cells slots : Nat) (Q : State → Prop) (sp : Nat → Nat) (ty : Nat → ClassId) (D : va_G) (A : Nat → Prop) (H0 : Heap) (nL : Nat) (ads : List Nat) (pc' : Nat) (L' : zL) (st' : List Value) (h' : zH) (dc ds : Nat) : Prop :=
  ∀ (q : List Nat) (ls' : Array Slot) (str' : List Value) (H' : Heap) (locs' : List Loc), zR sp ty D A H0 nL (ads ++ q) L' st' h' ls' str' H' locs' → W p l e R s m args below meth c H' locs' (cells + dc) (slots + ds) Q (F0 m pc' ls' str')
theorem zgo_kk {ls' : Array Slot} {str' : List Value} (hs : zgo nx L st h = some (.inl (pc', L', st', h', dc, ds))) (kk : zKK p l e R s m args below meth c cells slots Q sp ty D A H0 nL ads pc' L' st' h' dc ds) (h1 : zLR sp ads L ls' nL) (h2 : zS sp ads st str') (h3 : zW sp ty D A H0 ads h H locs) : W p l e R s m args below meth c H locs cells slots Q (F0 m nx ls' str') := by
  cases (show some (Sum.inl (nx, L, st, h, 0, 0)) = some (Sum.inl (pc', L', st', h', dc, ds)) from hs)
  have k := kk [] ls' str' H locs
  rw [List.append_nil] at k
  exact k ⟨h1, h2, h3⟩
theorem z_bin (f : Int32 → Int32 → Int32) (hs : zbin f nx L st h = some (.inl (pc', L', st', h', dc, ds))) (I : zR sp ty D A H0 nL ads L st h ls str H locs) (kk : zKK p l e R s m args below meth c cells slots Q sp ty D A H0 nL ads pc' L' st' h' dc ds)
    (row : ∀ (x y : Int32) (r : List Value), W p l e R s m args below meth c H locs cells slots Q (F0 m nx ls (.int (f x y) :: r)) → W p l e R s m args below meth c H locs cells slots Q (F0 m pc ls (.int y :: .int x :: r))) : W p l e R s m args below meth c H locs cells slots Q (F0 m pc ls str) := by
  obtain ⟨I1, I2, I3⟩ := I
  unfold zbin at hs
  split at hs
  · obtain ⟨_, _, rfl, hv, _, _, rfl, hw, hr⟩ := I2
    cases (show _ = Value.int _ from hv); cases (show _ = Value.int _ from hw)
    exact row _ _ _ (zgo_kk hs kk I1 ⟨_, _, rfl, rfl, hr⟩ I3)
  · cases hs
theorem z_div (f : Int32 → Int32 → Int32) (hs : zdiv f nx L st h = some (.inl (pc', L', st', h', dc, ds))) (I : zR sp ty D A H0 nL ads L st h ls str H locs) (kk : zKK p l e R s m args below meth c cells slots Q sp ty D A H0 nL ads pc' L' st' h' dc ds)
    (row : ∀ (x y : Int32) (r : List Value), ¬ y = 0 → W p l e R s m args below meth c H locs cells slots Q (F0 m nx ls (.int (f x y) :: r)) → W p l e R s m args below meth c H locs cells slots Q (F0 m pc ls (.int y :: .int x :: r))) : W p l e R s m args below meth c H locs cells slots Q (F0 m pc ls str) := by
  obtain ⟨I1, I2, I3⟩ := I
  unfold zdiv at hs
  split at hs
  · split at hs
    · cases hs
    · next hne =>
      obtain ⟨_, _, rfl, hv, _, _, rfl, hw, hr⟩ := I2
      cases (show _ = Value.int _ from hv); cases (show _ = Value.int _ from hw)
      exact row _ _ _ hne (zgo_kk hs kk I1 ⟨_, _, rfl, rfl, hr⟩ I3)
  · cases hs
theorem z_un (f : Int32 → Value) (hf : ∀ x, zV sp ads (f x) (f x)) (hs : zun f nx L st h = some (.inl (pc', L', st', h', dc, ds))) (I : zR sp ty D A H0 nL ads L st h ls str H locs) (kk : zKK p l e R s m args below meth c cells slots Q sp ty D A H0 nL ads pc' L' st' h' dc ds)
    (row : ∀ (x : Int32) (r : List Value), W p l e R s m args below meth c H locs cells slots Q (F0 m nx ls (f x :: r)) → W p l e R s m args below meth c H locs cells slots Q (F0 m pc ls (.int x :: r))) : W p l e R s m args below meth c H locs cells slots Q (F0 m pc ls str) := by
  obtain ⟨I1, I2, I3⟩ := I
  unfold zun at hs
  split at hs
  · obtain ⟨_, _, rfl, hv, hr⟩ := I2
    cases (show _ = Value.int _ from hv)
    exact row _ _ (zgo_kk hs kk I1 ⟨_, _, rfl, hf _, hr⟩ I3)
  · cases hs
theorem z_binL (f : Int64 → Int64 → Int64) (hs : zbinL f nx L st h = some (.inl (pc', L', st', h', dc, ds))) (I : zR sp ty D A H0 nL ads L st h ls str H locs) (kk : zKK p l e R s m args below meth c cells slots Q sp ty D A H0 nL ads pc' L' st' h' dc ds)
    (row : ∀ (x y : Int64) (r : List Value), W p l e R s m args below meth c H locs cells slots Q (F0 m nx ls (.long (f x y) :: r)) → W p l e R s m args below meth c H locs cells slots Q (F0 m pc ls (.long y :: .long x :: r))) : W p l e R s m args below meth c H locs cells slots Q (F0 m pc ls str) := by
  obtain ⟨I1, I2, I3⟩ := I
  unfold zbinL at hs
  split at hs
  · obtain ⟨_, _, rfl, hv, _, _, rfl, hw, hr⟩ := I2
    cases (show _ = Value.long _ from hv); cases (show _ = Value.long _ from hw)
    exact row _ _ _ (zgo_kk hs kk I1 ⟨_, _, rfl, rfl, hr⟩ I3)
  · cases hs
theorem z_lcmp (hs : zlc nx L st h = some (.inl (pc', L', st', h', dc, ds))) (I : zR sp ty D A H0 nL ads L st h ls str H locs) (kk : zKK p l e R s m args below meth c cells slots Q sp ty D A H0 nL ads pc' L' st' h' dc ds)
    (row : ∀ (x y : Int64) (r : List Value), W p l e R s m args below meth c H locs cells slots Q (F0 m nx ls (.int (lg_cmp x y) :: r)) → W p l e R s m args below meth c H locs cells slots Q (F0 m pc ls (.long y :: .long x :: r))) : W p l e R s m args below meth c H locs cells slots Q (F0 m pc ls str) := by
  obtain ⟨I1, I2, I3⟩ := I
  unfold zlc at hs
  split at hs
  · obtain ⟨_, _, rfl, hv, _, _, rfl, hw, hr⟩ := I2
    cases (show _ = Value.long _ from hv); cases (show _ = Value.long _ from hw)
    exact row _ _ _ (zgo_kk hs kk I1 ⟨_, _, rfl, rfl, hr⟩ I3)
  · cases hs
theorem z_binD (f : UInt64 → UInt64 → UInt64) (hs : zbinD f nx L st h = some (.inl (pc', L', st', h', dc, ds))) (I : zR sp ty D A H0 nL ads L st h ls str H locs) (kk : zKK p l e R s m args below meth c cells slots Q sp ty D A H0 nL ads pc' L' st' h' dc ds)
    (row : ∀ (x y : UInt64) (r : List Value), vf_n64 (f x y) → W p l e R s m args below meth c H locs cells slots Q (F0 m nx ls (.double (f x y) :: r)) → W p l e R s m args below meth c H locs cells slots Q (F0 m pc ls (.double y :: .double x :: r))) : W p l e R s m args below meth c H locs cells slots Q (F0 m pc ls str) := by
  obtain ⟨I1, I2, I3⟩ := I
  unfold zbinD at hs
  split at hs
  · split at hs
    · next hne =>
      obtain ⟨_, _, rfl, hv, _, _, rfl, hw, hr⟩ := I2
      cases (show _ = Value.double _ from hv); cases (show _ = Value.double _ from hw)
      exact row _ _ _ hne (zgo_kk hs kk I1 ⟨_, _, rfl, rfl, hr⟩ I3)
    · cases hs
  · cases hs
theorem z_d2l (hs : zd2l nx L st h = some (.inl (pc', L', st', h', dc, ds))) (I : zR sp ty D A H0 nL ads L st h ls str H locs) (kk : zKK p l e R s m args below meth c cells slots Q sp ty D A H0 nL ads pc' L' st' h' dc ds)
    (row : ∀ (x : UInt64) (r : List Value), W p l e R s m args below meth c H locs cells slots Q (F0 m nx ls (.long (FP.d2l x) :: r)) → W p l e R s m args below meth c H locs cells slots Q (F0 m pc ls (.double x :: r))) : W p l e R s m args below meth c H locs cells slots Q (F0 m pc ls str) := by
  obtain ⟨I1, I2, I3⟩ := I
  unfold zd2l at hs
  split at hs
  · obtain ⟨_, _, rfl, hv, hr⟩ := I2
    cases (show _ = Value.double _ from hv)
    exact row _ _ (zgo_kk hs kk I1 ⟨_, _, rfl, rfl, hr⟩ I3)
  · cases hs
theorem z_pu {v v' : Value} (hv : zV sp ads v v') (hs : zpu L v nx st h = some (.inl (pc', L', st', h', dc, ds))) (I : zR sp ty D A H0 nL ads L st h ls str H locs) (kk : zKK p l e R s m args below meth c cells slots Q sp ty D A H0 nL ads pc' L' st' h' dc ds)
    (row : W p l e R s m args below meth c H locs cells slots Q (F0 m nx ls (v' :: str)) → W p l e R s m args below meth c H locs cells slots Q (F0 m pc ls str)) : W p l e R s m args below meth c H locs cells slots Q (F0 m pc ls str) := by
  obtain ⟨I1, I2, I3⟩ := I
  exact row (zgo_kk hs kk I1 ⟨_, _, rfl, hv, I2⟩ I3)
theorem z_goto (hs : zgo nx L st h = some (.inl (pc', L', st', h', dc, ds))) (I : zR sp ty D A H0 nL ads L st h ls str H locs) (kk : zKK p l e R s m args below meth c cells slots Q sp ty D A H0 nL ads pc' L' st' h' dc ds)
    (row : W p l e R s m args below meth c H locs cells slots Q (F0 m nx ls str) → W p l e R s m args below meth c H locs cells slots Q (F0 m pc ls str)) : W p l e R s m args below meth c H locs cells slots Q (F0 m pc ls str) :=
  row (zgo_kk hs kk I.1 I.2.1 I.2.2)
theorem z_ldI {i : Nat} (hs : zldI L i nx st h = some (.inl (pc', L', st', h', dc, ds))) (I : zR sp ty D A H0 nL ads L st h ls str H locs) (kk : zKK p l e R s m args below meth c cells slots Q sp ty D A H0 nL ads pc' L' st' h' dc ds)
    (row : ∀ x : Int32, ls[i]? = some (.val (.int x)) → W p l e R s m args below meth c H locs cells slots Q (F0 m nx ls (.int x :: str)) → W p l e R s m args below meth c H locs cells slots Q (F0 m pc ls str)) : W p l e R s m args below meth c H locs cells slots Q (F0 m pc ls str) := by
  obtain ⟨I1, I2, I3⟩ := I
  unfold zldI at hs
  split at hs
  · next x hx =>
    obtain ⟨v', hv, hl⟩ := zLR_ld I1 hx
    cases (show _ = Value.int _ from hv)
    exact row x hl (zgo_kk hs kk I1 ⟨_, _, rfl, rfl, I2⟩ I3)
  · cases hs
theorem z_ldL {i : Nat} (hs : zldL L i nx st h = some (.inl (pc', L', st', h', dc, ds))) (I : zR sp ty D A H0 nL ads L st h ls str H locs) (kk : zKK p l e R s m args below meth c cells slots Q sp ty D A H0 nL ads pc' L' st' h' dc ds)
    (row : ∀ x : Int64, ls[i]? = some (.val (.long x)) → W p l e R s m args below meth c H locs cells slots Q (F0 m nx ls (.long x :: str)) → W p l e R s m args below meth c H locs cells slots Q (F0 m pc ls str)) : W p l e R s m args below meth c H locs cells slots Q (F0 m pc ls str) := by
  obtain ⟨I1, I2, I3⟩ := I
  unfold zldL at hs
  split at hs
  · next x hx =>
    obtain ⟨v', hv, hl⟩ := zLR_ld I1 hx
    cases (show _ = Value.long _ from hv)
    exact row x hl (zgo_kk hs kk I1 ⟨_, _, rfl, rfl, I2⟩ I3)
  · cases hs
theorem z_ldD {i : Nat} (hs : zldD L i nx st h = some (.inl (pc', L', st', h', dc, ds))) (I : zR sp ty D A H0 nL ads L st h ls str H locs) (kk : zKK p l e R s m args below meth c cells slots Q sp ty D A H0 nL ads pc' L' st' h' dc ds)
    (row : ∀ x : UInt64, ls[i]? = some (.val (.double x)) → W p l e R s m args below meth c H locs cells slots Q (F0 m nx ls (.double x :: str)) → W p l e R s m args below meth c H locs cells slots Q (F0 m pc ls str)) : W p l e R s m args below meth c H locs cells slots Q (F0 m pc ls str) := by
  obtain ⟨I1, I2, I3⟩ := I
  unfold zldD at hs
  split at hs
  · next x hx =>
    obtain ⟨v', hv, hl⟩ := zLR_ld I1 hx
    cases (show _ = Value.double _ from hv)
    exact row x hl (zgo_kk hs kk I1 ⟨_, _, rfl, rfl, I2⟩ I3)
  · cases hs
theorem z_ldA {i : Nat} (hs : zldA L i nx st h = some (.inl (pc', L', st', h', dc, ds))) (I : zR sp ty D A H0 nL ads L st h ls str H locs) (kk : zKK p l e R s m args below meth c cells slots Q sp ty D A H0 nL ads pc' L' st' h' dc ds)
    (row : ∀ x : Nat, ls[i]? = some (.val (.ref x)) → W p l e R s m args below meth c H locs cells slots Q (F0 m nx ls (.ref x :: str)) → W p l e R s m args below meth c H locs cells slots Q (F0 m pc ls str))
    (rowN : ls[i]? = some (.val .null) → W p l e R s m args below meth c H locs cells slots Q (F0 m nx ls (.null :: str)) → W p l e R s m args below meth c H locs cells slots Q (F0 m pc ls str)) : W p l e R s m args below meth c H locs cells slots Q (F0 m pc ls str) := by
  obtain ⟨I1, I2, I3⟩ := I
  unfold zldA at hs
  split at hs
  · next x hx =>
    obtain ⟨v', hv, hl⟩ := zLR_ld I1 hx
    obtain ⟨a, ha, rfl⟩ := id hv
    exact row a hl (zgo_kk hs kk I1 ⟨_, _, rfl, hv, I2⟩ I3)
  · next x hx =>
    obtain ⟨v', hv, hl⟩ := zLR_ld I1 hx
    obtain ⟨ha, rfl⟩ := id hv
    exact row _ hl (zgo_kk hs kk I1 ⟨_, _, rfl, hv, I2⟩ I3)
  · next hx =>
    obtain ⟨v', hv, hl⟩ := zLR_ld I1 hx
    cases (show _ = Value.null from hv)
    exact rowN hl (zgo_kk hs kk I1 ⟨_, _, rfl, rfl, I2⟩ I3)
  · cases hs
theorem z_sv1 {i : Nat} {v v' : Value} {r r' : List Value} (hs : zsv1 L i nx v r h = some (.inl (pc', L', st', h', dc, ds))) (hv : zV sp ads v v') (I1 : zLR sp ads L ls nL) (hr : zS sp ads r r') (I3 : zW sp ty D A H0 ads h H locs) (kk : zKK p l e R s m args below meth c cells slots Q sp ty D A H0 nL ads pc' L' st' h' dc ds)
    (row : ∀ lv : List (Nat × Value), lv_has ls nL lv → i < nL → (∀ ls' : Array Slot, lv_has ls' nL ((i, v') :: lv.filter (fun q => !(q.1 == i) && !(q.1 + 1 == i && q.2.category == 2))) → W p l e R s m args below meth c H locs cells slots Q (F0 m nx ls' r')) → W p l e R s m args below meth c H locs cells slots Q (F0 m pc ls str)) : W p l e R s m args below meth c H locs cells slots Q (F0 m pc ls str) := by
  unfold zsv1 at hs
  split at hs
  · next L1 h1 =>
    obtain ⟨hi, lv, g1, g2⟩ := zLR_st1 I1 h1 hv
    exact row lv g1 hi (fun ls' h2 => zgo_kk hs kk (g2 ls' h2) hr I3)
  · cases hs
theorem z_sv2 {i : Nat} {v v' : Value} {r r' : List Value} (hs : zsv2 L i nx v r h = some (.inl (pc', L', st', h', dc, ds))) (hv : zV sp ads v v') (I1 : zLR sp ads L ls nL) (hr : zS sp ads r r') (I3 : zW sp ty D A H0 ads h H locs) (kk : zKK p l e R s m args below meth c cells slots Q sp ty D A H0 nL ads pc' L' st' h' dc ds)
    (row : ∀ lv : List (Nat × Value), lv_has ls nL lv → i + 1 < nL → (∀ ls' : Array Slot, lv_has ls' nL ((i, v') :: lv.filter (fun q => !(q.1 == i) && (!(q.1 == i + 1) && !(q.1 + 1 == i && q.2.category == 2)))) → W p l e R s m args below meth c H locs cells slots Q (F0 m nx ls' r')) → W p l e R s m args below meth c H locs cells slots Q (F0 m pc ls str)) : W p l e R s m args below meth c H locs cells slots Q (F0 m pc ls str) := by
  unfold zsv2 at hs
  split at hs
  · next L1 h1 =>
    obtain ⟨hi, lv, g1, g2⟩ := zLR_st2 I1 h1 hv
    exact row lv g1 hi (fun ls' h2 => zgo_kk hs kk (g2 ls' h2) hr I3)
  · cases hs
theorem zS_cat {v v' : Value} (h : zV sp ads v v') (hc : zcat v = false) : v'.category = 1 := by rw [zV_cat h, hc]; rfl
theorem zS_cat2 {v v' : Value} (h : zV sp ads v v') (hc : zcat v = true) : v'.category = 2 := by rw [zV_cat h, hc]; rfl
theorem z_dup (hs : zdup nx L st h = some (.inl (pc', L', st', h', dc, ds))) (I : zR sp ty D A H0 nL ads L st h ls str H locs) (kk : zKK p l e R s m args below meth c cells slots Q sp ty D A H0 nL ads pc' L' st' h' dc ds)
    (row : ∀ (v : Value) (r : List Value), v.category = 1 → W p l e R s m args below meth c H locs cells slots Q (F0 m nx ls (v :: v :: r)) → W p l e R s m args below meth c H locs cells slots Q (F0 m pc ls (v :: r))) : W p l e R s m args below meth c H locs cells slots Q (F0 m pc ls str) := by
  obtain ⟨I1, I2, I3⟩ := I
  unfold zdup at hs
  split at hs
  · split at hs
    · cases hs
    · next hc =>
      obtain ⟨_, _, rfl, hv, hr⟩ := I2
      exact row _ _ (zS_cat hv (by simpa using hc)) (zgo_kk hs kk I1 ⟨_, _, rfl, hv, _, _, rfl, hv, hr⟩ I3)
  · cases hs
theorem z_pop (hs : zpop nx L st h = some (.inl (pc', L', st', h', dc, ds))) (I : zR sp ty D A H0 nL ads L st h ls str H locs) (kk : zKK p l e R s m args below meth c cells slots Q sp ty D A H0 nL ads pc' L' st' h' dc ds)
    (row : ∀ (v : Value) (r : List Value), v.category = 1 → W p l e R s m args below meth c H locs cells slots Q (F0 m nx ls r) → W p l e R s m args below meth c H locs cells slots Q (F0 m pc ls (v :: r))) : W p l e R s m args below meth c H locs cells slots Q (F0 m pc ls str) := by
  obtain ⟨I1, I2, I3⟩ := I
  unfold zpop at hs
  split at hs
  · split at hs
    · cases hs
    · next hc =>
      obtain ⟨_, _, rfl, hv, hr⟩ := I2
      exact row _ _ (zS_cat hv (by simpa using hc)) (zgo_kk hs kk I1 hr I3)
  · cases hs
theorem z_pop2 (hs : zpop2 nx L st h = some (.inl (pc', L', st', h', dc, ds))) (I : zR sp ty D A H0 nL ads L st h ls str H locs) (kk : zKK p l e R s m args below meth c cells slots Q sp ty D A H0 nL ads pc' L' st' h' dc ds)
    (row : ∀ (v : Value) (r : List Value), v.category = 2 → W p l e R s m args below meth c H locs cells slots Q (F0 m nx ls r) → W p l e R s m args below meth c H locs cells slots Q (F0 m pc ls (v :: r))) : W p l e R s m args below meth c H locs cells slots Q (F0 m pc ls str) := by
  obtain ⟨I1, I2, I3⟩ := I
  unfold zpop2 at hs
  split at hs
  · split at hs
    · next hc =>
      obtain ⟨_, _, rfl, hv, hr⟩ := I2
      exact row _ _ (zS_cat2 hv hc) (zgo_kk hs kk I1 hr I3)
    · cases hs
  · cases hs
theorem z_dupx1 (hs : zdupx1 nx L st h = some (.inl (pc', L', st', h', dc, ds))) (I : zR sp ty D A H0 nL ads L st h ls str H locs) (kk : zKK p l e R s m args below meth c cells slots Q sp ty D A H0 nL ads pc' L' st' h' dc ds)
    (row : ∀ (v w : Value) (r : List Value), v.category = 1 → w.category = 1 → W p l e R s m args below meth c H locs cells slots Q (F0 m nx ls (v :: w :: v :: r)) → W p l e R s m args below meth c H locs cells slots Q (F0 m pc ls (v :: w :: r))) : W p l e R s m args below meth c H locs cells slots Q (F0 m pc ls str) := by
  obtain ⟨I1, I2, I3⟩ := I
  unfold zdupx1 at hs
  split at hs
  · split at hs
    · cases hs
    · next hc =>
      obtain ⟨_, _, rfl, hv, _, _, rfl, hw, hr⟩ := I2
      simp only [Bool.or_eq_true, not_or, Bool.not_eq_true] at hc
      exact row _ _ _ (zS_cat hv hc.1) (zS_cat hw hc.2) (zgo_kk hs kk I1 ⟨_, _, rfl, hv, _, _, rfl, hw, _, _, rfl, hv, hr⟩ I3)
  · cases hs
theorem z_dup2 (hs : zdup2 nx L st h = some (.inl (pc', L', st', h', dc, ds))) (I : zR sp ty D A H0 nL ads L st h ls str H locs) (kk : zKK p l e R s m args below meth c cells slots Q sp ty D A H0 nL ads pc' L' st' h' dc ds)
    (row : ∀ (v w : Value) (r : List Value), v.category = 1 → w.category = 1 → W p l e R s m args below meth c H locs cells slots Q (F0 m nx ls (v :: w :: v :: w :: r)) → W p l e R s m args below meth c H locs cells slots Q (F0 m pc ls (v :: w :: r))) : W p l e R s m args below meth c H locs cells slots Q (F0 m pc ls str) := by
  obtain ⟨I1, I2, I3⟩ := I
  unfold zdup2 at hs
  split at hs
  · split at hs
    · cases hs
    · next hc =>
      obtain ⟨_, _, rfl, hv, _, _, rfl, hw, hr⟩ := I2
      simp only [Bool.or_eq_true, not_or, Bool.not_eq_true] at hc
      exact row _ _ _ (zS_cat hv hc.1) (zS_cat hw hc.2) (zgo_kk hs kk I1 ⟨_, _, rfl, hv, _, _, rfl, hw, _, _, rfl, hv, _, _, rfl, hw, hr⟩ I3)
  · cases hs
/-- the machine's branch row of a condition -/
def zrow (p : Program) (l : Launch) (e : Env) (R : Room) (s : State) (m : MethodId) (args : Array Value) (below : List Frame) (meth : Method) (c : Code) (H : Heap) (locs : List Loc) (cells slots : Nat) (Q : State → Prop) (cd : ClassFile.Cond) (x y : Int32) (tg nx : Nat) (ls : Array Slot) (r str : List Value) (pc : Nat) : Prop :=
  match cd with
  | .eq => (x = y → W p l e R s m args below meth c H locs cells slots Q (F0 m tg ls r)) → (¬ x = y → W p l e R s m args below meth c H locs cells slots Q (F0 m nx ls r)) → W p l e R s m args below meth c H locs cells slots Q (F0 m pc ls str)
  | .ne => (¬ x = y → W p l e R s m args below meth c H locs cells slots Q (F0 m tg ls r)) → (x = y → W p l e R s m args below meth c H locs cells slots Q (F0 m nx ls r)) → W p l e R s m args below meth c H locs cells slots Q (F0 m pc ls str)
  | .lt => (x < y → W p l e R s m args below meth c H locs cells slots Q (F0 m tg ls r)) → (¬ x < y → W p l e R s m args below meth c H locs cells slots Q (F0 m nx ls r)) → W p l e R s m args below meth c H locs cells slots Q (F0 m pc ls str)
  | .ge => (y ≤ x → W p l e R s m args below meth c H locs cells slots Q (F0 m tg ls r)) → (¬ y ≤ x → W p l e R s m args below meth c H locs cells slots Q (F0 m nx ls r)) → W p l e R s m args below meth c H locs cells slots Q (F0 m pc ls str)
  | .gt => (y < x → W p l e R s m args below meth c H locs cells slots Q (F0 m tg ls r)) → (¬ y < x → W p l e R s m args below meth c H locs cells slots Q (F0 m nx ls r)) → W p l e R s m args below meth c H locs cells slots Q (F0 m pc ls str)
  | .le => (x ≤ y → W p l e R s m args below meth c H locs cells slots Q (F0 m tg ls r)) → (¬ x ≤ y → W p l e R s m args below meth c H locs cells slots Q (F0 m nx ls r)) → W p l e R s m args below meth c H locs cells slots Q (F0 m pc ls str)
theorem z_br {cd : ClassFile.Cond} {x y : Int32} {tg : Nat} {r r' : List Value} (hs : zbr cd x y tg nx L r h = some (.inl (pc', L', st', h', dc, ds))) (I1 : zLR sp ads L ls nL) (hr : zS sp ads r r') (I3 : zW sp ty D A H0 ads h H locs) (kk : zKK p l e R s m args below meth c cells slots Q sp ty D A H0 nL ads pc' L' st' h' dc ds)
    (row : zrow p l e R s m args below meth c H locs cells slots Q cd x y tg nx ls r' str pc) : W p l e R s m args below meth c H locs cells slots Q (F0 m pc ls str) := by
  cases cd <;> (unfold zbr at hs; dsimp only at hs; unfold zrow at row; dsimp only at row; refine row (fun g => ?_) (fun g => ?_) <;> first | (rw [if_pos g] at hs; exact zgo_kk hs kk I1 hr I3) | (rw [if_neg g] at hs; exact zgo_kk hs kk I1 hr I3))
theorem z_off {o : Int} {r r' : List Value} (hs : zoff pc o L r h = some (.inl (pc', L', st', h', dc, ds))) (I1 : zLR sp ads L ls nL) (hr : zS sp ads r r') (I3 : zW sp ty D A H0 ads h H locs) (kk : zKK p l e R s m args below meth c cells slots Q sp ty D A H0 nL ads pc' L' st' h' dc ds) : ∃ tg : Nat, (pc : Int) + o = (tg : Int) ∧ W p l e R s m args below meth c H locs cells slots Q (F0 m tg ls r') := by
  unfold zoff at hs
  split at hs
  · next t ht => exact ⟨t, ht, zgo_kk hs kk I1 hr I3⟩
  · cases hs
theorem z_W {k : Nat} {ce : Nat × List Value} (I3 : zW sp ty D A H0 ads h H locs) (hk : h[k]? = some ce) {v' : Value} (hv : zV sp ads (.ref k) v') : ∃ (ws : va_W) (a : Nat) (e : va_E), v' = .ref a ∧ ads[k]? = some a ∧ ws[k]? = some (a, e) ∧ zC sp ty ads ce e ∧ va_P D zcl ws H ∧ va_D A ws ∧ va_S A H0 H locs ∧ ws.map (fun q => q.1) = ads ∧ h.length = ws.length ∧ ∀ (k : Nat) (c : Nat × List Value) (q : Nat × va_E), h[k]? = some c → ws[k]? = some q → zC sp ty ads c q.2 := by
  obtain ⟨ws, w1, w2, w3, w4, w5, w6⟩ := I3
  obtain ⟨a, ha, rfl⟩ := hv
  have hl : k < ws.length := by rw [← w5]; exact (List.getElem?_eq_some_iff.mp hk).1
  obtain ⟨q, hq⟩ : ∃ q, ws[k]? = some q := ⟨_, List.getElem?_eq_getElem hl⟩
  have h1 : ads[k]? = some q.1 := by rw [← w4, List.getElem?_map, hq]; rfl
  cases Option.some.inj (ha.symm.trans h1)
  exact ⟨ws, q.1, q.2, rfl, h1, hq, w6 k _ q hk hq, w1, w2, w3, w4, w5, w6⟩
/-- a cell written anew, of the same tag -/
theorem z_Wset {ws : va_W} {k a : Nat} {e0 e : va_E} {ce : Nat × List Value} {H1 : Heap} {locs1 : List Loc} (w4 : ws.map (fun q => q.1) = ads) (w5 : h.length = ws.length) (w6 : ∀ (k : Nat) (c : Nat × List Value) (q : Nat × va_E), h[k]? = some c → ws[k]? = some q → zC sp ty ads c q.2) (hq : ws[k]? = some (a, e0)) (hc : zC sp ty ads ce e) (w1 : va_P D zcl (ws.set k (a, e)) H1) (w2 : va_D A (ws.set k (a, e))) (w3 : va_S A H0 H1 locs1) : zW sp ty D A H0 ads (h.set k ce) H1 locs1 := by
  have hl := (List.getElem?_eq_some_iff.mp hq).1
  refine ⟨_, w1, w2, w3, ?_, by simp [w5], fun j c q h1 h2 => ?_⟩
  · rw [List.map_set, ← w4]
    refine List.ext_getElem? fun j => ?_
    by_cases e9 : j = k
    · subst e9
      rw [List.getElem?_set_self (by simpa using hl), List.getElem?_map, hq]
      rfl
    · rw [List.getElem?_set_ne (fun z => e9 z.symm)]
  · by_cases e9 : j = k
    · subst e9
      rw [List.getElem?_set_self (by omega)] at h1
      rw [List.getElem?_set_self hl] at h2
      cases h1; cases h2
      exact hc
    · rw [List.getElem?_set_ne (fun z => e9 z.symm)] at h1 h2
      exact w6 j c q h1 h2
theorem zC_mono {ce : Nat × List Value} {e : va_E} (q : List Nat) (hc : zC sp ty ads ce e) : zC sp ty (ads ++ q) ce e := by
  rcases hc with ⟨h1, vs', h2, h3⟩ | hc | ⟨h1, f, h2, h3⟩
  · exact Or.inl ⟨h1, vs', h2, zS_mono q h3⟩
  · exact Or.inr (Or.inl hc)
  · exact Or.inr (Or.inr ⟨h1, f, h2, fun j x hx => zV_mono q (h3 j x hx)⟩)
/-- new cells -/
theorem z_Wapp {ws : va_W} {wn : va_W} {hn : zH} {H1 : Heap} {locs1 : List Loc} (w4 : ws.map (fun q => q.1) = ads) (w5 : h.length = ws.length) (w6 : ∀ (k : Nat) (c : Nat × List Value) (q : Nat × va_E), h[k]? = some c → ws[k]? = some q → zC sp ty ads c q.2) (hl : hn.length = wn.length) (hc : ∀ (k : Nat) (c : Nat × List Value) (q : Nat × va_E), hn[k]? = some c → wn[k]? = some q → zC sp ty (ads ++ wn.map (fun q => q.1)) c q.2) (w1 : va_P D zcl (ws ++ wn) H1) (w2 : va_D A (ws ++ wn)) (w3 : va_S A H0 H1 locs1) : zW sp ty D A H0 (ads ++ wn.map (fun q => q.1)) (h ++ hn) H1 locs1 := by
  refine ⟨_, w1, w2, w3, by rw [List.map_append, w4], by simp [w5, hl], fun k c q h1 h2 => ?_⟩
  by_cases e9 : k < h.length
  · rw [List.getElem?_append_left e9] at h1
    rw [List.getElem?_append_left (by omega)] at h2
    exact zC_mono _ (w6 k c q h1 h2)
  · rw [List.getElem?_append_right (by omega)] at h1
    rw [List.getElem?_append_right (by omega)] at h2
    rw [← w5] at h2
    exact hc _ c q h1 h2
theorem z_in {i : Int32} {n : Nat} (h1 : ¬ i < 0) (h2 : i.toNatClampNeg < n) : vp_in i n := fun q => q.elim h1 (fun q => by omega)
theorem z_arr {t : Nat} {vs : List Value} {e : va_E} (ht : t = 100 ∨ t = 101 ∨ t = 102) (hc : zC sp ty ads (t, vs) e) : ∃ f : Nat → Int32, e = .inl (ty (t - 100), vs.length, .inl f) ∧ ∀ (j : Nat) (x : Value), vs[j]? = some x → x = .int (f j) := by
  rcases hc with ⟨h1, -⟩ | ⟨-, hc⟩ | ⟨h1, -⟩
  · exact absurd h1 (by dsimp only; omega)
  · exact hc
  · exact absurd h1 (by dsimp only; omega)
theorem z_arq {t : Nat} {vs : List Value} {e : va_E} (ht : t = 103 ∨ t = 104) (hc : zC sp ty ads (t, vs) e) : ∃ f : Nat → Option Nat, e = .inl (ty (t - 100), vs.length, .inr (.inr (.inr (.inr f)))) ∧ ∀ (j : Nat) (x : Value), vs[j]? = some x → zV sp ads x (va_rf (f j)) := by
  rcases hc with ⟨h1, -⟩ | ⟨h1, -⟩ | ⟨-, hc⟩
  · exact absurd h1 (by dsimp only; omega)
  · exact absurd h1 (by dsimp only; omega)
  · exact hc
theorem z_obj {t : Nat} {vs : List Value} {e : va_E} (ht : t < 100) (hc : zC sp ty ads (t, vs) e) : ∃ vs', e = .inr (t, vs') ∧ zS sp ads vs vs' := by
  rcases hc with ⟨-, hc⟩ | ⟨h1, -⟩ | ⟨h1, -⟩
  · exact hc
  · exact absurd h1 (by dsimp only; omega)
  · exact absurd h1 (by dsimp only; omega)
theorem z_ald {t : Nat} (ht : t = 100 ∨ t = 101 ∨ t = 102) (hs : zald t nx L st h = some (.inl (pc', L', st', h', dc, ds))) (I : zR sp ty D A H0 nL ads L st h ls str H locs) (kk : zKK p l e R s m args below meth c cells slots Q sp ty D A H0 nL ads pc' L' st' h' dc ds)
    (row : ∀ (ws : va_W) (k a n : Nat) (f : Nat → Int32) (i : Int32) (r : List Value), va_P D zcl ws H → ws[k]? = some (a, .inl (ty (t - 100), n, .inl f)) → vp_in i n → W p l e R s m args below meth c H locs cells slots Q (F0 m nx ls (.int (f i.toNatClampNeg) :: r)) → W p l e R s m args below meth c H locs cells slots Q (F0 m pc ls (.int i :: .ref a :: r))) : W p l e R s m args below meth c H locs cells slots Q (F0 m pc ls str) := by
  obtain ⟨I1, I2, I3⟩ := I
  unfold zald at hs
  split at hs
  · next i a r =>
    split at hs
    · next t' vs ha =>
      split at hs
      · next e1 =>
        subst e1
        split at hs
        · next x hx =>
          split at hs
          · cases hs
          · next hi =>
            obtain ⟨_, _, rfl, hv, _, _, rfl, hw, hr⟩ := I2
            cases (show _ = Value.int _ from hv)
            obtain ⟨ws, b, e, rfl, w0, w1, w2, w3, -⟩ := z_W I3 ha hw
            obtain ⟨f, rfl, hf⟩ := z_arr ht w2
            cases hf _ _ hx
            exact row ws _ b _ f i _ w3 w1 (z_in hi (List.getElem?_eq_some_iff.mp hx).1) (zgo_kk hs kk I1 ⟨_, _, rfl, rfl, hr⟩ I3)
        · cases hs
      · cases hs
    · cases hs
  · cases hs
theorem z_ast {t : Nat} {g : Int32 → Option Int32} (ht : t = 100 ∨ t = 101 ∨ t = 102) (hs : zast t g nx L st h = some (.inl (pc', L', st', h', dc, ds))) (I : zR sp ty D A H0 nL ads L st h ls str H locs) (kk : zKK p l e R s m args below meth c cells slots Q sp ty D A H0 nL ads pc' L' st' h' dc ds)
    (row : ∀ (ws : va_W) (k a n : Nat) (f : Nat → Int32) (i x z : Int32) (r : List Value), g x = some z → va_P D zcl ws H → va_D A ws → va_S A H0 H locs → ws[k]? = some (a, .inl (ty (t - 100), n, .inl f)) → vp_in i n →
      (∀ (H1 : Heap) (locs1 : List Loc), va_P D zcl (ws.set k (a, .inl (ty (t - 100), n, .inl (upd f i.toNatClampNeg z)))) H1 → va_D A (ws.set k (a, .inl (ty (t - 100), n, .inl (upd f i.toNatClampNeg z)))) → va_S A H0 H1 locs1 → W p l e R s m args below meth c H1 locs1 cells slots Q (F0 m nx ls r)) →
      W p l e R s m args below meth c H locs cells slots Q (F0 m pc ls (.int x :: .int i :: .ref a :: r))) : W p l e R s m args below meth c H locs cells slots Q (F0 m pc ls str) := by
  obtain ⟨I1, I2, I3⟩ := I
  unfold zast at hs
  split at hs
  · next x i a r =>
    split at hs
    · next t' vs ha =>
      split at hs
      · next e1 =>
        subst e1
        split at hs
        · cases hs
        · next hi =>
          split at hs
          · next hl =>
            split at hs
            · next z hz =>
              obtain ⟨_, _, rfl, hu, _, _, rfl, hv, _, _, rfl, hw, hr⟩ := I2
              cases (show _ = Value.int _ from hu); cases (show _ = Value.int _ from hv)
              obtain ⟨ws, b, e, rfl, w0, w1, w2, w3, w4, w5, w6, w7, w8⟩ := z_W I3 ha hw
              obtain ⟨f, rfl, hf⟩ := z_arr ht w2
              refine row ws _ b _ f i x z _ hz w3 w4 w5 w1 (z_in hi hl) (fun H1 locs1 g1 g2 g3 => ?_)
              refine zgo_kk hs kk I1 hr (z_Wset w6 w7 w8 w1 (Or.inr (Or.inl ⟨ht, upd f i.toNatClampNeg z, by rw [List.length_set], fun j x hj => ?_⟩)) g1 g2 g3)
              dsimp only at hj
              by_cases e9 : j = i.toNatClampNeg
              · subst e9
                rw [List.getElem?_set_self hl] at hj
                cases hj
                rw [show upd f i.toNatClampNeg z i.toNatClampNeg = z from if_pos rfl]
              · rw [List.getElem?_set_ne (fun z => e9 z.symm)] at hj
                rw [hf j x hj, show upd f i.toNatClampNeg z j = f j from if_neg e9]
            · cases hs
          · cases hs
      · cases hs
    · cases hs
  · cases hs
theorem z_aald (hs : zaald nx L st h = some (.inl (pc', L', st', h', dc, ds))) (I : zR sp ty D A H0 nL ads L st h ls str H locs) (kk : zKK p l e R s m args below meth c cells slots Q sp ty D A H0 nL ads pc' L' st' h' dc ds)
    (row : ∀ (ws : va_W) (t k a n : Nat) (f : Nat → Option Nat) (i : Int32) (r : List Value), (t = 103 ∨ t = 104) → va_P D zcl ws H → ws[k]? = some (a, .inl (ty (t - 100), n, .inr (.inr (.inr (.inr f))))) → vp_in i n → W p l e R s m args below meth c H locs cells slots Q (F0 m nx ls (va_rf (f i.toNatClampNeg) :: r)) → W p l e R s m args below meth c H locs cells slots Q (F0 m pc ls (.int i :: .ref a :: r))) : W p l e R s m args below meth c H locs cells slots Q (F0 m pc ls str) := by
  obtain ⟨I1, I2, I3⟩ := I
  unfold zaald at hs
  split at hs
  · next i a r =>
    split at hs
    · next t vs ha =>
      split at hs
      · next ht =>
        split at hs
        · next x hx =>
          split at hs
          · cases hs
          · next hi =>
            obtain ⟨_, _, rfl, hv, _, _, rfl, hw, hr⟩ := I2
            cases (show _ = Value.int _ from hv)
            obtain ⟨ws, b, e, rfl, w0, w1, w2, w3, -⟩ := z_W I3 ha hw
            obtain ⟨f, rfl, hf⟩ := z_arq ht w2
            exact row ws t _ b _ f i _ ht w3 w1 (z_in hi (List.getElem?_eq_some_iff.mp hx).1) (zgo_kk hs kk I1 ⟨_, _, rfl, hf _ _ hx, hr⟩ I3)
        · cases hs
      · cases hs
    · cases hs
  · cases hs
theorem z_aast (hs : zaast nx L st h = some (.inl (pc', L', st', h', dc, ds))) (I : zR sp ty D A H0 nL ads L st h ls str H locs) (kk : zKK p l e R s m args below meth c cells slots Q sp ty D A H0 nL ads pc' L' st' h' dc ds)
    (row : ∀ (ws : va_W) (k k2 a b n n2 : Nat) (f : Nat → Option Nat) (f2 : Nat → Int32) (i : Int32) (r : List Value), va_P D zcl ws H → va_D A ws → va_S A H0 H locs → ws[k]? = some (a, .inl (ty 3, n, .inr (.inr (.inr (.inr f))))) → ws[k2]? = some (b, .inl (ty 0, n2, .inl f2)) → vp_in i n →
      (∀ (H1 : Heap) (locs1 : List Loc), va_P D zcl (ws.set k (a, .inl (ty 3, n, .inr (.inr (.inr (.inr (va_up f i.toNatClampNeg (some b)))))))) H1 → va_D A (ws.set k (a, .inl (ty 3, n, .inr (.inr (.inr (.inr (va_up f i.toNatClampNeg (some b)))))))) → va_S A H0 H1 locs1 → W p l e R s m args below meth c H1 locs1 cells slots Q (F0 m nx ls r)) →
      W p l e R s m args below meth c H locs cells slots Q (F0 m pc ls (.ref b :: .int i :: .ref a :: r))) : W p l e R s m args below meth c H locs cells slots Q (F0 m pc ls str) := by
  obtain ⟨I1, I2, I3⟩ := I
  unfold zaast at hs
  split at hs
  · next x i a r =>
    split at hs
    · next t vs t' vs' ha hx =>
      split at hs
      · next ht =>
        obtain ⟨rfl, rfl⟩ := ht
        split at hs
        · cases hs
        · next hi =>
          split at hs
          · next hl =>
            obtain ⟨_, _, rfl, hu, _, _, rfl, hv, _, _, rfl, hw, hr⟩ := I2
            cases (show _ = Value.int _ from hv)
            have hu9 := hu
            obtain ⟨b, hb9, rfl⟩ := hu9
            obtain ⟨ws, b1, e, rfl, w0, w1, w2, w3, w4, w5, w6, w7, w8⟩ := z_W I3 ha hw
            obtain ⟨f, rfl, hf⟩ := z_arq (Or.inl rfl) w2
            have hl2 : x < ws.length := by rw [← w7]; exact (List.getElem?_eq_some_iff.mp hx).1
            obtain ⟨q, hq⟩ : ∃ q, ws[x]? = some q := ⟨_, List.getElem?_eq_getElem hl2⟩
            have h1 : ads[x]? = some q.1 := by rw [← w6, List.getElem?_map, hq]; rfl
            cases Option.some.inj (hb9.symm.trans h1)
            obtain ⟨q1, q2⟩ := q
            obtain ⟨f2, rfl, -⟩ := z_arr (Or.inl rfl) (w8 _ _ _ hx hq)
            refine row ws _ _ b1 _ _ _ f f2 i _ w3 w4 w5 w1 hq (z_in hi hl) (fun H1 locs1 g1 g2 g3 => ?_)
            refine zgo_kk hs kk I1 hr (z_Wset w6 w7 w8 w1 (Or.inr (Or.inr ⟨Or.inl rfl, va_up f i.toNatClampNeg (some q1), by simp only [List.length_set], fun j x9 hj => ?_⟩)) g1 g2 g3)
            dsimp only at hj
            by_cases e9 : j = i.toNatClampNeg
            · subst e9
              rw [List.getElem?_set_self hl] at hj
              cases hj
              rw [va_up_self]
              exact hu
            · rw [List.getElem?_set_ne (fun z => e9 z.symm)] at hj
              rw [va_up_ne _ _ e9]
              exact hf j x9 hj
          · cases hs
      · cases hs
    · cases hs
  · cases hs
theorem z_get {f9 k : Nat} (hs : zget zcf f9 k nx L st h = some (.inl (pc', L', st', h', dc, ds))) (I : zR sp ty D A H0 nL ads L st h ls str H locs) (kk : zKK p l e R s m args below meth c cells slots Q sp ty D A H0 nL ads pc' L' st' h' dc ds)
    (row : ∀ (ws : va_W) (j a ci kd : Nat) (vs : List Value) (v : Value) (r : List Value), va_P D zcl ws H → ws[j]? = some (a, .inr (ci, vs)) → (zcf ci)[k]? = some (f9, kd) → vs[k]? = some v → W p l e R s m args below meth c H locs cells slots Q (F0 m nx ls (v :: r)) → W p l e R s m args below meth c H locs cells slots Q (F0 m pc ls (.ref a :: r))) : W p l e R s m args below meth c H locs cells slots Q (F0 m pc ls str) := by
  obtain ⟨I1, I2, I3⟩ := I
  unfold zget at hs
  split at hs
  · next a r =>
    split at hs
    · next t vs ha =>
      split at hs
      · next f' kd hf =>
        split at hs
        · next e1 =>
          subst e1
          split at hs
          · next v hv9 =>
            obtain ⟨_, _, rfl, hw, hr⟩ := I2
            obtain ⟨ws, b, e, rfl, w0, w1, w2, w3, -⟩ := z_W I3 ha hw
            have ht : t < 100 := by
              by_cases q : t < 11
              · omega
              · have : zcf t = [] := zcf_out (by omega)
                rw [this] at hf
                cases hf
            obtain ⟨vs', rfl, h9⟩ := z_obj ht w2
            obtain ⟨v', g1, g2⟩ := zS_at h9 hv9
            exact row ws _ b t kd vs' v' _ w3 w1 hf g1 (zgo_kk hs kk I1 ⟨_, _, rfl, g2, hr⟩ I3)
          · cases hs
        · cases hs
      · cases hs
    · cases hs
  · cases hs
theorem zfdk_V {kd : Nat} {v v' : Value} (h : zfdk kd v = true) (hv : zV sp ads v v') {t9 : FieldType} (ht : zkt kd t9) : narrow t9 v' = v' ∧ fits t9 v' = true := by
  unfold zfdk at h
  split at h
  · cases (show _ = Value.int _ from hv)
    cases (show t9 = .int from ht)
    exact ⟨rfl, rfl⟩
  · next x =>
    cases (show _ = Value.int _ from hv)
    cases (show t9 = .boolean from ht)
    rcases of_decide_eq_true h with rfl | rfl <;> exact ⟨rfl, rfl⟩
  · next x =>
    cases (show _ = Value.int _ from hv)
    cases (show t9 = .byte from ht)
    obtain ⟨h1, h2⟩ := of_decide_eq_true h
    refine ⟨?_, by simp [fits, h1, h2]⟩
    exact zby h1 h2
  · cases (show _ = Value.long _ from hv)
    cases (show t9 = .long from ht)
    exact ⟨rfl, rfl⟩
  · cases (show _ = Value.double _ from hv)
    cases (show t9 = .double from ht)
    exact ⟨rfl, rfl⟩
  · obtain ⟨a, -, rfl⟩ := hv
    rcases (show (∃ n, t9 = .object n) ∨ ∃ t, t9 = .array t from ht) with ⟨n, rfl⟩ | ⟨n, rfl⟩ <;> exact ⟨rfl, rfl⟩
  · cases (show _ = Value.null from hv)
    rcases (show (∃ n, t9 = .object n) ∨ ∃ t, t9 = .array t from ht) with ⟨n, rfl⟩ | ⟨n, rfl⟩ <;> exact ⟨rfl, rfl⟩
  · obtain ⟨-, rfl⟩ := hv
    rcases (show (∃ n, t9 = .object n) ∨ ∃ t, t9 = .array t from ht) with ⟨n, rfl⟩ | ⟨n, rfl⟩ <;> exact ⟨rfl, rfl⟩
  · cases h
theorem z_put {f9 k : Nat} (hs : zput zcf f9 k nx L st h = some (.inl (pc', L', st', h', dc, ds))) (I : zR sp ty D A H0 nL ads L st h ls str H locs) (kk : zKK p l e R s m args below meth c cells slots Q sp ty D A H0 nL ads pc' L' st' h' dc ds)
    (row : ∀ (ws : va_W) (j a ci kd : Nat) (vs : List Value) (v : Value) (r : List Value), va_P D zcl ws H → va_D A ws → va_S A H0 H locs → ws[j]? = some (a, .inr (ci, vs)) → (zcf ci)[k]? = some (f9, kd) → (∀ t9, zkt kd t9 → narrow t9 v = v ∧ fits t9 v = true) → k < vs.length →
      (∀ (H1 : Heap) (locs1 : List Loc), va_P D zcl (ws.set j (a, .inr (ci, vs.set k v))) H1 → va_D A (ws.set j (a, .inr (ci, vs.set k v))) → va_S A H0 H1 locs1 → W p l e R s m args below meth c H1 locs1 cells slots Q (F0 m nx ls r)) → W p l e R s m args below meth c H locs cells slots Q (F0 m pc ls (v :: .ref a :: r))) : W p l e R s m args below meth c H locs cells slots Q (F0 m pc ls str) := by
  obtain ⟨I1, I2, I3⟩ := I
  unfold zput at hs
  split at hs
  · next v a r =>
    split at hs
    · next t vs ha =>
      split at hs
      · next f' kd hf =>
        split at hs
        · next e1 =>
          subst e1
          split at hs
          · next hk9 =>
            split at hs
            · next hl =>
              obtain ⟨v', _, rfl, hv, _, _, rfl, hw, hr⟩ := I2
              obtain ⟨ws, b, e, rfl, w0, w1, w2, w3, w4, w5, w6, w7, w8⟩ := z_W I3 ha hw
              have ht : t < 100 := by
                by_cases q : t < 11
                · omega
                · have : zcf t = [] := zcf_out (by omega)
                  rw [this] at hf
                  cases hf
              obtain ⟨vs', rfl, h9⟩ := z_obj ht w2
              refine row ws _ b t kd vs' v' _ w3 w4 w5 w1 hf (fun t9 g => zfdk_V hk9 hv g) (by rw [zS_len h9]; exact hl) (fun H1 locs1 g1 g2 g3 => ?_)
              exact zgo_kk hs kk I1 hr (z_Wset w6 w7 w8 w1 (Or.inl ⟨ht, _, rfl, zS_set hv h9 k⟩) g1 g2 g3)
            · cases hs
          · cases hs
        · cases hs
      · cases hs
    · cases hs
  · cases hs
theorem z_alen (hSP : zSP xs sp A s) (hs : zalen xs nx L st h = some (.inl (pc', L', st', h', dc, ds))) (I : zR sp ty D A s.heap nL ads L st h ls str H locs) (kk : zKK p l e R s m args below meth c cells slots Q sp ty D A s.heap nL ads pc' L' st' h' dc ds)
    (row : ∀ (ws : va_W) (t k a : Nat) (x : vp_A) (r : List Value), 100 ≤ t → t < 105 → va_P D zcl ws H → ws[k]? = some (a, .inl (ty (t - 100), x)) → W p l e R s m args below meth c H locs cells slots Q (F0 m nx ls (.int (Int32.ofNat x.1) :: r)) → W p l e R s m args below meth c H locs cells slots Q (F0 m pc ls (.ref a :: r)))
    (rowX : ∀ r : List Value, va_S A s.heap H locs → W p l e R s m args below meth c H locs cells slots Q (F0 m nx ls (.int (Int32.ofNat xs.length) :: r)) → W p l e R s m args below meth c H locs cells slots Q (F0 m pc ls (.ref (sp 0) :: r)))
    (rowE : ∀ r : List Value, va_S A s.heap H locs → W p l e R s m args below meth c H locs cells slots Q (F0 m nx ls (.int 0 :: r)) → W p l e R s m args below meth c H locs cells slots Q (F0 m pc ls (.ref (sp 1) :: r))) : W p l e R s m args below meth c H locs cells slots Q (F0 m pc ls str) := by
  obtain ⟨I1, I2, I3⟩ := I
  unfold zalen at hs
  split at hs
  · next a r =>
    split at hs
    · next t vs ha =>
      split at hs
      · next ht =>
        obtain ⟨_, _, rfl, hw, hr⟩ := I2
        obtain ⟨ws, b, e, rfl, w0, w1, w2, w3, -⟩ := z_W I3 ha hw
        rcases w2 with ⟨h1, -⟩ | ⟨h1, f, rfl, -⟩ | ⟨h1, f, rfl, -⟩
        · exact absurd h1 (by dsimp only; omega)
        · exact row ws t _ b (vs.length, .inl f) _ ht (by dsimp only at h1; omega) w3 w1 (zgo_kk hs kk I1 ⟨_, _, rfl, rfl, hr⟩ I3)
        · exact row ws t _ b (vs.length, .inr (.inr (.inr (.inr f)))) _ ht (by dsimp only at h1; omega) w3 w1 (zgo_kk hs kk I1 ⟨_, _, rfl, rfl, hr⟩ I3)
      · cases hs
    · cases hs
  · obtain ⟨_, _, rfl, ⟨-, rfl⟩, hr⟩ := I2
    obtain ⟨ws, w1, w2, w3, -⟩ := id I3
    exact rowX _ w3 (zgo_kk hs kk I1 ⟨_, _, rfl, rfl, hr⟩ I3)
  · obtain ⟨_, _, rfl, ⟨-, rfl⟩, hr⟩ := I2
    obtain ⟨ws, w1, w2, w3, -⟩ := id I3
    exact rowE _ w3 (zgo_kk hs kk I1 ⟨_, _, rfl, rfl, hr⟩ I3)
  · cases hs
theorem z_ialoadX (hs : zialoadX xs nx L st h = some (.inl (pc', L', st', h', dc, ds))) (I : zR sp ty D A s.heap nL ads L st h ls str H locs) (kk : zKK p l e R s m args below meth c cells slots Q sp ty D A s.heap nL ads pc' L' st' h' dc ds)
    (row : ∀ (ws : va_W) (k a n : Nat) (f : Nat → Int32) (i : Int32) (r : List Value), va_P D zcl ws H → ws[k]? = some (a, .inl (ty (100 - 100), n, .inl f)) → vp_in i n → W p l e R s m args below meth c H locs cells slots Q (F0 m nx ls (.int (f i.toNatClampNeg) :: r)) → W p l e R s m args below meth c H locs cells slots Q (F0 m pc ls (.int i :: .ref a :: r)))
    (rowX : ∀ (i : Int32) (r : List Value), va_S A s.heap H locs → vp_in i xs.length → W p l e R s m args below meth c H locs cells slots Q (F0 m nx ls (.int (xs.getD i.toNatClampNeg 0) :: r)) → W p l e R s m args below meth c H locs cells slots Q (F0 m pc ls (.int i :: .ref (sp 0) :: r))) : W p l e R s m args below meth c H locs cells slots Q (F0 m pc ls str) := by
  unfold zialoadX at hs
  split at hs
  · next i r =>
    obtain ⟨I1, I2, I3⟩ := I
    split at hs
    · cases hs
    · next hi =>
      split at hs
      · next x hx =>
        obtain ⟨_, _, rfl, hv, _, _, rfl, ⟨-, rfl⟩, hr⟩ := I2
        cases (show _ = Value.int _ from hv)
        obtain ⟨ws, w1, w2, w3, -⟩ := id I3
        refine rowX i _ w3 (z_in hi (List.getElem?_eq_some_iff.mp hx).1) ?_
        rw [List.getD_eq_getElem?_getD, hx]
        exact zgo_kk hs kk I1 ⟨_, _, rfl, rfl, hr⟩ I3
      · cases hs
  · exact z_ald (Or.inl rfl) hs I kk row
/-- a new object of a class -/
theorem z_new {y c9 idx : Nat} (hX : zX xs sp ty D A y p R s m args meth c) (hc9 : c9 < 11) (hl : zCok (zmo y, idx, c9)) (hdg : decode (zmb y) pc = .ok (.new idx, 3)) (hnx : nx = pc + 3) (hs : znew zcf c9 nx L st h = some (.inl (pc', L', st', h', dc, ds))) (I : zR sp ty D A s.heap nL ads L st h ls str H locs)
    (hcl : cells + dc ≤ R.cells) (hsl : slots + ds ≤ R.slots) (kk : zKK p l e R s m args below meth c cells slots Q sp ty D A s.heap nL ads pc' L' st' h' dc ds) : W p l e R s m args below meth c H locs cells slots Q (F0 m pc ls str) := by
  obtain ⟨hx, hb, hml, hret, hlk, hown, hnm, hts, hK, hA, hSP, -⟩ := hX
  obtain ⟨I1, I2, ws, w1, w2, w3, w4, w5, w6⟩ := I
  obtain ⟨l1, l2, l3⟩ := hl
  obtain ⟨o1, o2, o3, o4, o5, o6⟩ := zc_ok c9 hc9
  cases (show some (Sum.inl (nx, L, Value.ref h.length :: st, h ++ [(c9, (zcf c9).map (fun q => zdf q.2))], 1, (zcf c9).length)) = some (Sum.inl (pc', L', st', h', dc, ds)) from hs)
  subst hnx
  refine va_new (D := D) (ci := c9) (fs := (zcf c9).map (fun q => zdf q.2)) (C := zcn c9) (T := zT c9) (N := (zcf c9).length) hx hb hts o1 (zty c9) o3 hown (hts _ l1) (hts _ l2) (hts _ l3) hK w1 w2 w3 hA o6 (fun j hj => ?_) hcl hsl hdg (fun q H1 g1 g2 g3 => ?_)
  · rw [o5 j hj]
    unfold vp_V
    simp only [List.getD_eq_getElem?_getD, List.getElem?_map, List.getElem?_eq_getElem hj]
    rfl
  · refine kk [q] ls (.ref q :: str) H1 locs ⟨zLR_mono _ I1, ⟨_, _, rfl, ⟨q, ?_, rfl⟩, zS_mono _ I2⟩, z_Wapp (wn := [(q, .inr (c9, (zcf c9).map (fun q => zdf q.2)))]) w4 w5 w6 rfl (fun k c q h1 h2 => ?_) g1 g2 g3⟩
    · have : ads.length = h.length := by rw [← w4, List.length_map, w5]
      rw [← this, List.getElem?_append_right (Nat.le_refl _), Nat.sub_self]
      rfl
    · cases k with
      | zero =>
        cases h1; cases h2
        exact Or.inl ⟨by dsimp only; omega, _, rfl, zdfs _ _ _⟩
      | succ k => simp at h1
/-- a new row of numbers -/
theorem z_newa {y : Nat} {at9 : ArrayType} (hX : zX xs sp ty D A y p R s m args meth c) (hdg : decode (zmb y) pc = .ok (.newarray at9, 2)) (hnx : nx = pc + 2) (hs : znewa (ztag at9) (.int 0) nx L st h = some (.inl (pc', L', st', h', dc, ds))) (I : zR sp ty D A s.heap nL ads L st h ls str H locs)
    (hcl : cells + dc ≤ R.cells) (hsl : slots + ds ≤ R.slots) (kk : zKK p l e R s m args below meth c cells slots Q sp ty D A s.heap nL ads pc' L' st' h' dc ds) : W p l e R s m args below meth c H locs cells slots Q (F0 m pc ls str) := by
  obtain ⟨hx, hb, hml, hret, hlk, hown, hnm, hts, hK, hA, hSP, -⟩ := hX
  obtain ⟨I1, I2, ws, w1, w2, w3, w4, w5, w6⟩ := I
  unfold znewa at hs
  split at hs
  · next n r =>
    split at hs
    · cases hs
    · next hn =>
      split at hs
      · next hN =>
        split at hs
        · cases hs
        · next ht =>
          obtain ⟨_, r9, rfl, hv, hr⟩ := I2
          cases (show _ = Value.int _ from hv)
          cases hs
          subst hnx
          have key : ∀ (t9 : FieldType) (t0 : Nat), newarray.typeOf at9 = t9 → ztag at9 = 100 + t0 → t0 ≤ 2 → (ztys ty)[t0]? = some (ty t0, t9) → defaultValue t9 = .int 0 → componentBytes t9 ≤ 4 → (Jvm.Cond.arrayClass t9) ∈ zB → s.vm.findClass ("[" ++ t9.toString) = some (ty t0) → W p l e R s m args below meth c H locs cells slots Q (F0 m pc ls (.int n :: r9)) := by
            intro t9 t0 e1 e2 e3 e4 e5 e6 e7 e8
            refine va_newaK hx hb (by rw [e1]; exact hts _ e7) (g := F0 m pc ls (.int n :: r9)) rfl hdg rfl hn rfl (by rw [e1]; exact Nat.le_trans (Nat.mul_le_mul hN e6) (by decide)) hcl hsl rfl fun H1 cA f1 z1 o1 hAr hNm => ?_
            rw [e1] at f1 hAr hNm
            have hcA : cA = ty t0 := Option.some.inj (hNm.symm.trans e8)
            subst hcA
            have hk : ∀ (k : Nat) (x : Nat × va_E), ws[k]? = some x → H1[x.1]? = H[x.1]? := fun k x hx => o1 x.1 ((w1 k x hx).lt)
            rw [e2] at kk
            refine kk [H.size] ls (.ref H.size :: r9) H1 locs ⟨zLR_mono _ I1, ⟨_, _, rfl, ⟨H.size, ?_, rfl⟩, zS_mono _ hr⟩, z_Wapp (wn := [(H.size, .inl (ty t0, n.toNatClampNeg, .inl (fun _ => 0)))]) w4 w5 w6 rfl (fun k c q h1 h2 => ?_) ((w1.kept hk).app (fun k x hx => ?_)) (w2.push w1 rfl (hA _ w3.1)) ⟨Nat.le_trans w3.1 (by omega), fun x h1 h2 => (o1 x (Nat.lt_of_lt_of_le h1 w3.1)).trans (w3.2.1 x h1 h2), w3.2.2⟩⟩
            · have : ads.length = h.length := by rw [← w4, List.length_map, w5]
              rw [← this, List.getElem?_append_right (Nat.le_refl _), Nat.sub_self]
              rfl
            · cases k with
              | zero =>
                cases h1; cases h2
                refine Or.inr (Or.inl ⟨by dsimp only; omega, fun _ => 0, by simp, fun j x hj => ?_⟩)
                exact (List.eq_of_mem_replicate (List.mem_of_getElem? hj))
              | succ k => simp at h1
            · have hz : k < 1 := (List.getElem?_eq_some_iff.mp hx).1
              rw [show k = 0 by omega] at hx
              cases hx
              show H1[H.size]? = some (vp_cell _ _)
              rw [vp_cell_i, f1, e5]
          have hk2 := hK.2
          cases at9 <;> first
            | exact key .int 0 rfl rfl (by decide) rfl rfl (by decide) zAi ((hk2 0 _ rfl).2)
            | exact key .boolean 1 rfl rfl (by decide) rfl rfl (by decide) zAz ((hk2 1 _ rfl).2)
            | exact key .byte 2 rfl rfl (by decide) rfl rfl (by decide) zAb ((hk2 2 _ rfl).2)
            | exact absurd rfl ht
      · cases hs
  · cases hs
end ZZ
end zg4
section zg5
/-! The throws, the handlers, and each method's rows. -/
def zEn (E : Nat) : String := ["java/lang/IllegalArgumentException", "java/lang/IndexOutOfBoundsException", "java/lang/IllegalStateException"].getD E ""
def zTn : List String := ["java/lang/RuntimeException", "java/lang/Exception"]
theorem zTn_fit : ∀ n ∈ zTn, Bundle.fit n = true := by decide +kernel
def zTok (q : Nat × Nat × Nat × Nat) : Prop := ∃ (is9 ic : Nat) (tx : String), Jvm.Cond.classLink (zon (zmo q.1)) q.2.2.1 (zEn q.2.2.2) ∈ zB ∧ Jvm.Cond.initialized (zEn q.2.2.2) ∈ zB ∧ (zon (zmo q.1), is9, tx) ∈ zTX ∧ (∀ w ∈ vx_atS (zon (zmo q.1)) ic (zEn q.2.2.2) zTn, w ∈ zB ∨ w ∈ zN2) ∧ decode (zmb q.1) (q.2.1 + 3) = .ok (.dup, 1) ∧
  ((decode (zmb q.1) (q.2.1 + 4) = .ok (.ldc is9, 2) ∧ decode (zmb q.1) (q.2.1 + 6) = .ok (.invokespecial ic, 3) ∧ decode (zmb q.1) (q.2.1 + 9) = .ok (.athrow, 1)) ∨ (decode (zmb q.1) (q.2.1 + 4) = .ok (.ldc_w is9, 3) ∧ decode (zmb q.1) (q.2.1 + 7) = .ok (.invokespecial ic, 3) ∧ decode (zmb q.1) (q.2.1 + 10) = .ok (.athrow, 1))) ∧ Bundle.fit (zEn q.2.2.2) = true
theorem zat_in {l : List Jvm.Cond} (h : l.all (fun w => zN2.contains w || (lw_tbl.contains w && goodWord w)) = true) : ∀ w ∈ l, w ∈ zB ∨ w ∈ zN2 := by
  intro w hw
  have h1 := List.all_eq_true.mp h w hw
  rw [Bool.or_eq_true, Bool.and_eq_true] at h1
  rcases h1 with h1 | h1
  · exact Or.inr (List.contains_iff_mem.mp h1)
  · exact Or.inl (List.mem_append_left _ (List.mem_filter.mpr ⟨List.contains_iff_mem.mp h1.1, h1.2⟩))
theorem zTw_66 : ∀ w ∈ vx_atS "Scrubward" 66 (zEn 0) zTn, w ∈ zB ∨ w ∈ zN2 := zat_in (by decide +kernel)
theorem zTw_162 : ∀ w ∈ vx_atS "Scrubward" 162 (zEn 2) zTn, w ∈ zB ∨ w ∈ zN2 := zat_in (by decide +kernel)
theorem zTw_235 : ∀ w ∈ vx_atS "Scrubward" 235 (zEn 1) zTn, w ∈ zB ∨ w ∈ zN2 := zat_in (by decide +kernel)
theorem zTs_0 : zTok (53, 11, 62, 0) := ⟨64, 66, "K is not 4 to 10", zb 411 (by decide +kernel) (by decide +kernel), zb 94 (by decide +kernel) (by decide +kernel), by decide +kernel, zTw_66, by decide +kernel, Or.inl ⟨by decide +kernel, by decide +kernel, by decide +kernel⟩, by decide +kernel⟩
theorem zTs_1 : zTok (53, 32, 62, 0) := ⟨69, 66, "R is not 4 to 6", zb 411 (by decide +kernel) (by decide +kernel), zb 94 (by decide +kernel) (by decide +kernel), by decide +kernel, zTw_66, by decide +kernel, Or.inl ⟨by decide +kernel, by decide +kernel, by decide +kernel⟩, by decide +kernel⟩
theorem zTs_2 : zTok (53, 50, 62, 0) := ⟨75, 66, "there are not K columns of data bits", zb 411 (by decide +kernel) (by decide +kernel), zb 94 (by decide +kernel) (by decide +kernel), by decide +kernel, zTw_66, by decide +kernel, Or.inl ⟨by decide +kernel, by decide +kernel, by decide +kernel⟩, by decide +kernel⟩
theorem zTs_3 : zTok (56, 20, 62, 0) := ⟨135, 66, "bits is not a set of bits of a word", zb 411 (by decide +kernel) (by decide +kernel), zb 94 (by decide +kernel) (by decide +kernel), by decide +kernel, zTw_66, by decide +kernel, Or.inl ⟨by decide +kernel, by decide +kernel, by decide +kernel⟩, by decide +kernel⟩
theorem zTs_4 : zTok (57, 15, 62, 0) := ⟨146, 66, "there is no such bit", zb 411 (by decide +kernel) (by decide +kernel), zb 94 (by decide +kernel) (by decide +kernel), by decide +kernel, zTw_66, by decide +kernel, Or.inl ⟨by decide +kernel, by decide +kernel, by decide +kernel⟩, by decide +kernel⟩
theorem zTs_5 : zTok (57, 38, 158, 2) := ⟨160, 162, "there are 24 stuck cells", zb 739 (by decide +kernel) (by decide +kernel), zb 102 (by decide +kernel) (by decide +kernel), by decide +kernel, zTw_162, by decide +kernel, Or.inl ⟨by decide +kernel, by decide +kernel, by decide +kernel⟩, by decide +kernel⟩
theorem zTs_6 : zTok (58, 15, 62, 0) := ⟨146, 66, "there is no such bit", zb 411 (by decide +kernel) (by decide +kernel), zb 94 (by decide +kernel) (by decide +kernel), by decide +kernel, zTw_66, by decide +kernel, Or.inl ⟨by decide +kernel, by decide +kernel, by decide +kernel⟩, by decide +kernel⟩
theorem zTs_7 : zTok (58, 36, 62, 0) := ⟨170, 66, "span is not 1 to 60", zb 411 (by decide +kernel) (by decide +kernel), zb 94 (by decide +kernel) (by decide +kernel), by decide +kernel, zTw_66, by decide +kernel, Or.inl ⟨by decide +kernel, by decide +kernel, by decide +kernel⟩, by decide +kernel⟩
theorem zTs_8 : zTok (58, 59, 158, 2) := ⟨175, 162, "there are 24 weak cells", zb 739 (by decide +kernel) (by decide +kernel), zb 102 (by decide +kernel) (by decide +kernel), by decide +kernel, zTw_162, by decide +kernel, Or.inl ⟨by decide +kernel, by decide +kernel, by decide +kernel⟩, by decide +kernel⟩
theorem zTs_9 : zTok (59, 16, 62, 0) := ⟨180, 66, "times is not 1 to 100", zb 411 (by decide +kernel) (by decide +kernel), zb 94 (by decide +kernel) (by decide +kernel), by decide +kernel, zTw_66, by decide +kernel, Or.inl ⟨by decide +kernel, by decide +kernel, by decide +kernel⟩, by decide +kernel⟩
theorem zTs_10 : zTok (60, 11, 62, 0) := ⟨192, 66, "period is not 1 to 100", zb 411 (by decide +kernel) (by decide +kernel), zb 94 (by decide +kernel) (by decide +kernel), by decide +kernel, zTw_66, by decide +kernel, Or.inl ⟨by decide +kernel, by decide +kernel, by decide +kernel⟩, by decide +kernel⟩
theorem zTs_11 : zTok (60, 32, 62, 0) := ⟨194, 66, "limit is not 2 to 100", zb 411 (by decide +kernel) (by decide +kernel), zb 94 (by decide +kernel) (by decide +kernel), by decide +kernel, zTw_66, by decide +kernel, Or.inl ⟨by decide +kernel, by decide +kernel, by decide +kernel⟩, by decide +kernel⟩
theorem zTs_12 : zTok (60, 52, 62, 0) := ⟨196, 66, "steps is not 0 to 8", zb 411 (by decide +kernel) (by decide +kernel), zb 94 (by decide +kernel) (by decide +kernel), by decide +kernel, zTw_66, by decide +kernel, Or.inl ⟨by decide +kernel, by decide +kernel, by decide +kernel⟩, by decide +kernel⟩
theorem zTs_13 : zTok (61, 19, 158, 2) := ⟨207, 162, "both spares of the bank are used", zb 739 (by decide +kernel) (by decide +kernel), zb 102 (by decide +kernel) (by decide +kernel), by decide +kernel, zTw_162, by decide +kernel, Or.inl ⟨by decide +kernel, by decide +kernel, by decide +kernel⟩, by decide +kernel⟩
theorem zTs_14 : zTok (63, 19, 158, 2) := ⟨221, 162, "the tick would be above 2000", zb 739 (by decide +kernel) (by decide +kernel), zb 102 (by decide +kernel) (by decide +kernel), by decide +kernel, zTw_162, by decide +kernel, Or.inl ⟨by decide +kernel, by decide +kernel, by decide +kernel⟩, by decide +kernel⟩
theorem zTs_15 : zTok (66, 11, 233, 1) := ⟨146, 235, "there is no such bit", zb 491 (by decide +kernel) (by decide +kernel), zb 101 (by decide +kernel) (by decide +kernel), by decide +kernel, zTw_235, by decide +kernel, Or.inl ⟨by decide +kernel, by decide +kernel, by decide +kernel⟩, by decide +kernel⟩
theorem zTs_16 : zTok (68, 15, 62, 0) := ⟨242, 66, "there is no such word", zb 411 (by decide +kernel) (by decide +kernel), zb 94 (by decide +kernel) (by decide +kernel), by decide +kernel, zTw_66, by decide +kernel, Or.inl ⟨by decide +kernel, by decide +kernel, by decide +kernel⟩, by decide +kernel⟩
theorem zTs_17 : zTok (68, 95, 62, 0) := ⟨259, 66, "what is not 0 to 3", zb 411 (by decide +kernel) (by decide +kernel), zb 94 (by decide +kernel) (by decide +kernel), by decide +kernel, zTw_66, by decide +kernel, Or.inr ⟨by decide +kernel, by decide +kernel, by decide +kernel⟩, by decide +kernel⟩
theorem zTs_18 : zTok (69, 10, 62, 0) := ⟨261, 66, "many is not 2 or 3", zb 411 (by decide +kernel) (by decide +kernel), zb 94 (by decide +kernel) (by decide +kernel), by decide +kernel, zTw_66, by decide +kernel, Or.inr ⟨by decide +kernel, by decide +kernel, by decide +kernel⟩, by decide +kernel⟩
theorem zTs_19 : zTok (70, 131, 62, 0) := ⟨269, 66, "what is not 0 to 6", zb 411 (by decide +kernel) (by decide +kernel), zb 94 (by decide +kernel) (by decide +kernel), by decide +kernel, zTw_66, by decide +kernel, Or.inr ⟨by decide +kernel, by decide +kernel, by decide +kernel⟩, by decide +kernel⟩
theorem zTs_20 : zTok (71, 14, 233, 1) := ⟨274, 235, "there is no such line", zb 491 (by decide +kernel) (by decide +kernel), zb 101 (by decide +kernel) (by decide +kernel), by decide +kernel, zTw_235, by decide +kernel, Or.inr ⟨by decide +kernel, by decide +kernel, by decide +kernel⟩, by decide +kernel⟩
theorem zTs_21 : zTok (71, 123, 62, 0) := ⟨288, 66, "what is not 0 to 4", zb 411 (by decide +kernel) (by decide +kernel), zb 94 (by decide +kernel) (by decide +kernel), by decide +kernel, zTw_66, by decide +kernel, Or.inr ⟨by decide +kernel, by decide +kernel, by decide +kernel⟩, by decide +kernel⟩
theorem zTs_22 : zTok (72, 15, 233, 1) := ⟨290, 235, "there is no such entry", zb 491 (by decide +kernel) (by decide +kernel), zb 101 (by decide +kernel) (by decide +kernel), by decide +kernel, zTw_235, by decide +kernel, Or.inr ⟨by decide +kernel, by decide +kernel, by decide +kernel⟩, by decide +kernel⟩
theorem zTs_23 : zTok (72, 88, 62, 0) := ⟨301, 66, "what is not 0 to 2", zb 411 (by decide +kernel) (by decide +kernel), zb 94 (by decide +kernel) (by decide +kernel), by decide +kernel, zTw_66, by decide +kernel, Or.inr ⟨by decide +kernel, by decide +kernel, by decide +kernel⟩, by decide +kernel⟩
theorem zTs_24 : zTok (74, 239, 62, 0) := ⟨324, 66, "what is not 0 to 17", zb 411 (by decide +kernel) (by decide +kernel), zb 94 (by decide +kernel) (by decide +kernel), by decide +kernel, zTw_66, by decide +kernel, Or.inr ⟨by decide +kernel, by decide +kernel, by decide +kernel⟩, by decide +kernel⟩
theorem zTs_25 : zTok (82, 11, 233, 1) := ⟨391, 235, "there is no such address", zb 491 (by decide +kernel) (by decide +kernel), zb 101 (by decide +kernel) (by decide +kernel), by decide +kernel, zTw_235, by decide +kernel, Or.inr ⟨by decide +kernel, by decide +kernel, by decide +kernel⟩, by decide +kernel⟩
theorem zTs_26 : zTok (83, 9, 233, 1) := ⟨393, 235, "there is no such bank", zb 491 (by decide +kernel) (by decide +kernel), zb 101 (by decide +kernel) (by decide +kernel), by decide +kernel, zTw_235, by decide +kernel, Or.inr ⟨by decide +kernel, by decide +kernel, by decide +kernel⟩, by decide +kernel⟩
theorem zTs_27 : zTok (84, 14, 233, 1) := ⟨395, 235, "there is no such row", zb 491 (by decide +kernel) (by decide +kernel), zb 101 (by decide +kernel) (by decide +kernel), by decide +kernel, zTw_235, by decide +kernel, Or.inr ⟨by decide +kernel, by decide +kernel, by decide +kernel⟩, by decide +kernel⟩
theorem zTs_28 : zTok (85, 11, 62, 0) := ⟨397, 66, "ticks is not 1 to 100", zb 411 (by decide +kernel) (by decide +kernel), zb 94 (by decide +kernel) (by decide +kernel), by decide +kernel, zTw_66, by decide +kernel, Or.inr ⟨by decide +kernel, by decide +kernel, by decide +kernel⟩, by decide +kernel⟩
theorem zTs_29 : zTok (86, 15, 62, 0) := ⟨402, 66, "data does not fit into the data bits", zb 411 (by decide +kernel) (by decide +kernel), zb 94 (by decide +kernel) (by decide +kernel), by decide +kernel, zTw_66, by decide +kernel, Or.inr ⟨by decide +kernel, by decide +kernel, by decide +kernel⟩, by decide +kernel⟩
theorem zTs_30 : zTok (87, 8, 158, 2) := ⟨404, 162, "the word is retired", zb 739 (by decide +kernel) (by decide +kernel), zb 102 (by decide +kernel) (by decide +kernel), by decide +kernel, zTw_162, by decide +kernel, Or.inr ⟨by decide +kernel, by decide +kernel, by decide +kernel⟩, by decide +kernel⟩
def zTL : List (Nat × Nat × Nat × Nat) := [(53, 11, 62, 0), (53, 32, 62, 0), (53, 50, 62, 0), (56, 20, 62, 0), (57, 15, 62, 0), (57, 38, 158, 2), (58, 15, 62, 0), (58, 36, 62, 0), (58, 59, 158, 2), (59, 16, 62, 0), (60, 11, 62, 0), (60, 32, 62, 0), (60, 52, 62, 0), (61, 19, 158, 2), (63, 19, 158, 2), (66, 11, 233, 1), (68, 15, 62, 0), (68, 95, 62, 0), (69, 10, 62, 0), (70, 131, 62, 0), (71, 14, 233, 1), (71, 123, 62, 0), (72, 15, 233, 1), (72, 88, 62, 0), (74, 239, 62, 0), (82, 11, 233, 1), (83, 9, 233, 1), (84, 14, 233, 1), (85, 11, 62, 0), (86, 15, 62, 0), (87, 8, 158, 2)]
theorem zTL_ok : ∀ q ∈ zTL, zTok q := List.forall_mem_cons.mpr ⟨zTs_0, List.forall_mem_cons.mpr ⟨zTs_1, List.forall_mem_cons.mpr ⟨zTs_2, List.forall_mem_cons.mpr ⟨zTs_3, List.forall_mem_cons.mpr ⟨zTs_4, List.forall_mem_cons.mpr ⟨zTs_5, List.forall_mem_cons.mpr ⟨zTs_6, List.forall_mem_cons.mpr ⟨zTs_7, List.forall_mem_cons.mpr ⟨zTs_8, List.forall_mem_cons.mpr ⟨zTs_9, List.forall_mem_cons.mpr ⟨zTs_10, List.forall_mem_cons.mpr ⟨zTs_11, List.forall_mem_cons.mpr ⟨zTs_12, List.forall_mem_cons.mpr ⟨zTs_13, List.forall_mem_cons.mpr ⟨zTs_14, List.forall_mem_cons.mpr ⟨zTs_15, List.forall_mem_cons.mpr ⟨zTs_16, List.forall_mem_cons.mpr ⟨zTs_17, List.forall_mem_cons.mpr ⟨zTs_18, List.forall_mem_cons.mpr ⟨zTs_19, List.forall_mem_cons.mpr ⟨zTs_20, List.forall_mem_cons.mpr ⟨zTs_21, List.forall_mem_cons.mpr ⟨zTs_22, List.forall_mem_cons.mpr ⟨zTs_23, List.forall_mem_cons.mpr ⟨zTs_24, List.forall_mem_cons.mpr ⟨zTs_25, List.forall_mem_cons.mpr ⟨zTs_26, List.forall_mem_cons.mpr ⟨zTs_27, List.forall_mem_cons.mpr ⟨zTs_28, List.forall_mem_cons.mpr ⟨zTs_29, List.forall_mem_cons.mpr ⟨zTs_30, fun _ h => absurd h List.not_mem_nil⟩⟩⟩⟩⟩⟩⟩⟩⟩⟩⟩⟩⟩⟩⟩⟩⟩⟩⟩⟩⟩⟩⟩⟩⟩⟩⟩⟩⟩⟩⟩
def zhe (ct : Nat) : Nat := if ct = 19 then 0 else if ct = 24 then 1 else if ct = 26 then 2 else 99
theorem zhe_ok {ct E : Nat} (h : zhe ct = E) (hE : E < 3) : ct ≠ 0 ∧ Jvm.Cond.classLink "ScrubwardLaw" ct (zEn E) ∈ zB := by
  unfold zhe at h
  by_cases h0 : ct = 19
  · subst h0
    rw [if_pos rfl] at h
    subst h
    exact ⟨by decide, zb 705 (by decide +kernel) (by decide +kernel)⟩
  by_cases h1 : ct = 24
  · subst h1
    rw [if_neg (by decide), if_pos rfl] at h
    subst h
    exact ⟨by decide, zb 723 (by decide +kernel) (by decide +kernel)⟩
  by_cases h2 : ct = 26
  · subst h2
    rw [if_neg (by decide), if_neg (by decide), if_pos rfl] at h
    subst h
    exact ⟨by decide, zb 724 (by decide +kernel) (by decide +kernel)⟩
  rw [if_neg h0, if_neg h1, if_neg h2] at h
  omega
theorem zOi1 : Jvm.Cond.instanceMethod Lib.objectInit ∈ zB := zb 114 (by decide +kernel) (by decide +kernel)
theorem zOi2 : Jvm.Cond.code Lib.objectInit ⟨#[0xb1]⟩ 1 none ∈ zB := zb 115 (by decide +kernel) (by decide +kernel)
def zNok (q : Nat × Nat × Nat) : Prop := ∃ x : MethodName, (x, zmn q.2.2) ∈ zIF ∧ Jvm.Cond.methodLink (zon q.1) q.2.1 x ∈ zB ∧ Jvm.Cond.selects "java/util/ArrayList" x (zmn q.2.2) ∈ zB ∧ Jvm.Cond.instanceMethod (zmn q.2.2) ∈ zB ∧ (parseMethodDescriptor x.desc).map (fun d => d.parameters.length) = some (zmp q.2.2) ∧ x.cls ≠ "java/lang/invoke/MethodHandle" ∧ x.cls ≠ "java/lang/invoke/VarHandle"
def zNL : List (Nat × Nat × Nat) := [(7, 96, 243), (7, 102, 239), (7, 133, 237)]
theorem zNL_ok : ∀ q ∈ zNL, zNok q := List.forall_mem_cons.mpr ⟨⟨⟨"java/util/List", "size", "()I"⟩, by decide +kernel, zb 1363 (by decide +kernel) (by decide +kernel), zb 1367 (by decide +kernel) (by decide +kernel), zb 1369 (by decide +kernel) (by decide +kernel), by decide +kernel, by decide +kernel, by decide +kernel⟩, List.forall_mem_cons.mpr ⟨⟨⟨"java/util/List", "get", "(I)Ljava/lang/Object;"⟩, by decide +kernel, zb 1373 (by decide +kernel) (by decide +kernel), zb 1376 (by decide +kernel) (by decide +kernel), zb 1378 (by decide +kernel) (by decide +kernel), by decide +kernel, by decide +kernel, by decide +kernel⟩, List.forall_mem_cons.mpr ⟨⟨⟨"java/util/List", "add", "(Ljava/lang/Object;)Z"⟩, by decide +kernel, zb 1391 (by decide +kernel) (by decide +kernel), zb 1394 (by decide +kernel) (by decide +kernel), zb 1396 (by decide +kernel) (by decide +kernel), by decide +kernel, by decide +kernel, by decide +kernel⟩, fun _ h => absurd h List.not_mem_nil⟩⟩⟩
end zg5
section zg6
/-! Rows of the JDK's methods: rows of references, rows of rows, copies, casts, comparisons of references, classes. -/
theorem zcpt {α : Type} {vs ws : List α} {n j : Nat} (h : n ≤ vs.length) : (vs.take n ++ ws.drop n)[j]? = if j < n then vs[j]? else ws[j]? := by
  have hl : (vs.take n).length = n := by rw [List.length_take]; omega
  by_cases q : j < n
  · rw [if_pos q, List.getElem?_append_left (by omega), List.getElem?_take, if_pos q]
  · rw [if_neg q, List.getElem?_append_right (by omega), hl, List.getElem?_drop]
    congr 1
    omega
section ZJ
variable {p : Program} {l : Launch} {e : Env} {R : Room} {s : State} {m : MethodId} {args : Array Value} {below : List Frame} {meth : Method} {c : Code} {H : Heap} {locs : List Loc} {cells slots : Nat} {Q : State → Prop}
variable {xs : List Int32} {sp : Nat → Nat} {ty : Nat → ClassId} {D : va_G} {A : Nat → Prop} {ads : List Nat} {nL : Nat} {H0 : Heap}
variable {y pc nx pc' dc ds k tg : Nat} {L L' : zL} {st st' str : List Value} {h h' : zH} {ls : Array Slot}
theorem z_chk (hk : 100 ≤ k) (hs : zchk k nx L st h = some (.inl (pc', L', st', h', dc, ds))) (I : zR sp ty D A H0 nL ads L st h ls str H locs) (kk : zKK p l e R s m args below meth c cells slots Q sp ty D A H0 nL ads pc' L' st' h' dc ds)
    (row : ∀ (ws : va_W) (q0 a : Nat) (x : vp_A) (r : List Value), va_P D zcl ws H → ws[q0]? = some (a, .inl (ty (k - 100), x)) → W p l e R s m args below meth c H locs cells slots Q (F0 m nx ls (.ref a :: r)) → W p l e R s m args below meth c H locs cells slots Q (F0 m pc ls (.ref a :: r))) : W p l e R s m args below meth c H locs cells slots Q (F0 m pc ls str) := by
  obtain ⟨I1, I2, I3⟩ := I
  unfold zchk at hs
  split at hs
  · next a r =>
    split at hs
    · next t vs ha =>
      split at hs
      · next ht =>
        subst ht
        obtain ⟨_, _, rfl, hw, hr⟩ := I2
        obtain ⟨ws, b, e, rfl, w0, w1, w2, w3, -⟩ := z_W I3 ha hw
        rcases w2 with ⟨h1, -⟩ | ⟨h1, f, rfl, -⟩ | ⟨h1, f, rfl, -⟩
        · exact absurd h1 (by dsimp only; omega)
        · exact row ws _ b _ _ w3 w1 (zgo_kk hs kk I1 ⟨_, _, rfl, hw, hr⟩ I3)
        · exact row ws _ b _ _ w3 w1 (zgo_kk hs kk I1 ⟨_, _, rfl, hw, hr⟩ I3)
      · cases hs
    · cases hs
  · cases hs
theorem z_acmp {q : ACond} {off : Int} (hx : p.tables.exec = Jvm.exec) (hb : c.code = zmb y) (hdg : decode (zmb y) pc = .ok (.if_acmp q off, 3)) (hnx : nx = pc + 3) (ht : (pc : Int) + off = (tg : Int)) (hs : zacmp q tg nx L st h = some (.inl (pc', L', st', h', dc, ds))) (I : zR sp ty D A H0 nL ads L st h ls str H locs) (kk : zKK p l e R s m args below meth c cells slots Q sp ty D A H0 nL ads pc' L' st' h' dc ds) : W p l e R s m args below meth c H locs cells slots Q (F0 m pc ls str) := by
  obtain ⟨I1, I2, I3⟩ := I
  unfold zacmp at hs
  split at hs
  · next b a r =>
    split at hs
    · next hab =>
      subst hab
      subst hnx
      obtain ⟨_, _, rfl, ⟨-, rfl⟩, _, _, rfl, ⟨-, rfl⟩, hr⟩ := I2
      cases q with
      | eq => exact lv_acmp_eq (rx := some (sp a)) (ry := some (sp a)) hx hb hdg ht (fun _ => zgo_kk hs kk I1 hr I3) (fun z => absurd rfl z)
      | ne => exact lv_acmp_ne (rx := some (sp a)) (ry := some (sp a)) hx hb hdg ht (fun z => absurd rfl z) (fun _ => zgo_kk hs kk I1 hr I3)
    · cases hs
  · cases hs
theorem z_getc {j : Nat} (hX : zX xs sp ty D A y p R s m args meth c) (hdg : decode (zmb y) pc = .ok (.invokevirtual j, 3)) (hnx : nx = pc + 3) (hl : (Cond.methodLink (zon (zmo y)) j ⟨"java/lang/Object", "getClass", "()Ljava/lang/Class;"⟩) ∈ zB) (hlsz : c.maxLocals = ls.size) (hs : zgetc nx L st h = some (.inl (pc', L', st', h', dc, ds))) (I : zR sp ty D A H0 nL ads L st h ls str H locs) (kk : zKK p l e R s m args below meth c cells slots Q sp ty D A H0 nL ads pc' L' st' h' dc ds) : W p l e R s m args below meth c H locs cells slots Q (F0 m pc ls str) := by
  obtain ⟨hx, hb, hml, hret, hlk, hown, hnm, hts, hK, hA, hSP, hRf, hRl⟩ := hX
  have hdc := hSP.2.2.2.2.1
  have hMi := hSP.2.2.2.2.2.2.2.2.2.2.1
  obtain ⟨I1, I2, I3⟩ := I
  unfold zgetc at hs
  split at hs
  · next a r =>
    split at hs
    · next t vs ha =>
      split at hs
      · next ht =>
        obtain ⟨rfl, hcs⟩ := ht
        subst hnx
        obtain ⟨_, _, rfl, hw, hr⟩ := I2
        obtain ⟨ws, b, e, rfl, w0, w1, w2, w3, -⟩ := z_W I3 ha hw
        obtain ⟨f, rfl, -⟩ := z_arq (Or.inl rfl) w2
        obtain ⟨_, _, _, _, _, g2⟩ := (hK.2 3 _ rfl).2
        exact va_getC hx hb hlsz hown (hts _ hl) (va_Nw.use rfl (hdc _ (by decide +kernel))) (hts _ zj_gc2) (hts _ zj_gc3) (hts _ zj_gc4) hMi ⟨_, w3 _ _ w1, rfl, g2⟩ (by omega) (by rw [zS_cs hr]; omega) hdg (zgo_kk hs kk I1 ⟨_, _, rfl, ⟨by decide, rfl⟩, hr⟩ I3)
      · cases hs
    · cases hs
  · cases hs
theorem z_any {ws : va_W} {k b n : Nat} {f : Nat → Int32} (hK : va_K D zcl (ztys ty) s) (hC : ∀ w ∈ zN2, va_Nw w s) (w1 : va_P D zcl ws H) (g : ws[k]? = some (b, .inl (ty 0, n, .inl f))) : va_Any "java/lang/Object" s H b := by
  have h1 : H[b]? = some (vp_cell (ty 0) (n, .inl f)) := w1 k _ g
  obtain ⟨c1, t1, e1, e2, e3⟩ := Cond.castable_spec (va_Nw.use (A := #[]) rfl (hC (.castable "[I" "java/lang/Object") (by decide +kernel)))
  have e4 : s.vm.findClass "[I" = some (ty 0) := (hK.2 0 _ rfl).2
  cases Option.some.inj (e1.symm.trans e4)
  obtain ⟨kC, hkC, -⟩ := Vm.findClass_spec e1
  refine ⟨_, h1, rfl, ⟨kC, hkC⟩, fun comp hc => ?_⟩
  cases Option.some.inj (hc.symm.trans e2)
  exact e3
theorem z_newq {j : Nat} (hX : zX xs sp ty D A y p R s m args meth c) (hdg : decode (zmb y) pc = .ok (.anewarray j, 3)) (hnx : nx = pc + 3) (hl : (Cond.classLink (zon (zmo y)) j "java/lang/Object") ∈ zB) (hs : znewa 103 .null nx L st h = some (.inl (pc', L', st', h', dc, ds))) (I : zR sp ty D A s.heap nL ads L st h ls str H locs)
    (hcl : cells + dc ≤ R.cells) (hsl : slots + ds ≤ R.slots) (kk : zKK p l e R s m args below meth c cells slots Q sp ty D A s.heap nL ads pc' L' st' h' dc ds) : W p l e R s m args below meth c H locs cells slots Q (F0 m pc ls str) := by
  obtain ⟨hx, hb, hml, hret, hlk, hown, hnm, hts, hK, hA, hSP, -⟩ := hX
  have hAO := hSP.2.2.2.2.2.2.2.2.2.2.2.1
  obtain ⟨I1, I2, ws, w1, w2, w3, w4, w5, w6⟩ := I
  unfold znewa at hs
  split at hs
  · next n r =>
    split at hs
    · cases hs
    · next hn =>
      split at hs
      · next hN =>
        split at hs
        · next e9 => exact absurd e9 (by decide)
        · obtain ⟨_, r9, rfl, hv, hr⟩ := I2
          cases (show _ = Value.int _ from hv)
          cases hs
          subst hnx
          refine va_newq hx hb hown (hts _ hl) hAO hK w1 w2 w3 hA hn rfl (Nat.le_trans (Nat.mul_le_mul_right 4 hN) (by decide)) hcl hsl hdg (fun q cA H1 k1 k2 k3 k4 => ?_)
          have hcA : cA = ty 3 := by
            obtain ⟨_, _, _, _, _, g1⟩ := (k1.2 5 _ rfl).2
            obtain ⟨_, _, _, _, _, g2⟩ := (hK.2 3 _ rfl).2
            exact Option.some.inj (g1.symm.trans g2)
          subst hcA
          refine kk [q] ls (.ref q :: r9) H1 locs ⟨zLR_mono _ I1, ⟨_, _, rfl, ⟨q, ?_, rfl⟩, zS_mono _ hr⟩, z_Wapp (wn := [(q, .inl (ty 3, n.toNatClampNeg, .inr (.inr (.inr (.inr (fun _ => none))))))]) w4 w5 w6 rfl (fun k c q2 h1 h2 => ?_) k2 k3 k4⟩
          · have : ads.length = h.length := by rw [← w4, List.length_map, w5]
            rw [← this, List.getElem?_append_right (Nat.le_refl _), Nat.sub_self]
            rfl
          · cases k with
            | zero =>
              cases h1; cases h2
              refine Or.inr (Or.inr ⟨Or.inl rfl, fun _ => none, by simp, fun j x hj => ?_⟩)
              rw [List.eq_of_mem_replicate (List.mem_of_getElem? hj)]
              exact rfl
            | succ k => simp at h1
      · cases hs
  · cases hs
theorem z_copy {j : Nat} (hX : zX xs sp ty D A y p R s m args meth c) (hdg : decode (zmb y) pc = .ok (.invokestatic j, 3)) (hnx : nx = pc + 3) (hl : (Cond.methodLink (zon (zmo y)) j arraycopyName) ∈ zB) (hlsz : c.maxLocals = ls.size) (hs : zcopy nx L st h = some (.inl (pc', L', st', h', dc, ds))) (I : zR sp ty D A H0 nL ads L st h ls str H locs)
    (kk : zKK p l e R s m args below meth c cells slots Q sp ty D A H0 nL ads pc' L' st' h' dc ds) : W p l e R s m args below meth c H locs cells slots Q (F0 m pc ls str) := by
  obtain ⟨hx, hb, hml, hret, hlk, hown, hnm, hts, hK, hA, hSP, hRf, hRl⟩ := hX
  have hC := hSP.2.2.2.2.1
  obtain ⟨I1, I2, I3⟩ := I
  have z0 : (0 : Int32).toNatClampNeg = 0 := by decide
  have nw : nativeFrameWords "java/lang/System" "arraycopy" 5 + 11 ≤ 300 := by decide +kernel
  unfold zcopy at hs
  split at hs
  · next n dp d sp9 a r =>
    split at hs
    · next t vs t' ws9 ha hd9 =>
      split at hs
      · next g =>
        obtain ⟨rfl, hk, hcs, hn, rfl, rfl, hvl, hwl⟩ := g
        subst hnx
        obtain ⟨_, _, rfl, hv1, _, _, rfl, hv2, _, _, rfl, hv3, _, _, rfl, hv4, _, _, rfl, hv5, hr⟩ := I2
        cases (show _ = Value.int _ from hv1); cases (show _ = Value.int _ from hv2); cases (show _ = Value.int _ from hv4)
        obtain ⟨ws, b, e, rfl, w0, w1, w2, w3, w4, w5, w6, w7, w8⟩ := z_W I3 ha hv5
        obtain ⟨a2, hb2, rfl⟩ := hv3
        have hld : d < ws.length := by rw [← w7]; exact (List.getElem?_eq_some_iff.mp hd9).1
        obtain ⟨⟨q2, e2⟩, hq2⟩ : ∃ q, ws[d]? = some q := ⟨_, List.getElem?_eq_getElem hld⟩
        have e9 : ads[d]? = some q2 := by rw [← w6, List.getElem?_map, hq2]; rfl
        cases Option.some.inj (hb2.symm.trans e9)
        have hz2 := w8 d _ _ hd9 hq2
        have hlen : (vs.take n.toNatClampNeg ++ ws9.drop n.toNatClampNeg).length = ws9.length := by simp; omega
        rcases hk with ⟨rfl, hal⟩ | ⟨rfl, hal⟩
        · obtain ⟨f, rfl, hf⟩ := z_arr (Or.inr (Or.inr rfl)) w2
          obtain ⟨g, rfl, hg⟩ := z_arr (Or.inr (Or.inr rfl)) hz2
          refine va_copyi hx hb hlsz hown (hts _ hl) (hts _ zj_cp2) (hts _ zj_cp3) (hts _ zj_cp4) hK w3 w4 w5 _ d 2 2 w1 hq2 rfl rfl rfl (by decide) (by decide) hn (by rw [z0]; omega) (by rw [z0]; omega) (fun i hi => ?_) (by omega) (by rw [zS_cs hr]; omega) hdg (fun H1 locs1 g1 g2 g3 => ?_)
          · rw [z0, Nat.zero_add]
            obtain ⟨x, hx9⟩ : ∃ x, vs[i]? = some x := ⟨_, List.getElem?_eq_getElem (by omega)⟩
            have hm : x ∈ vs.take n.toNatClampNeg := List.mem_of_getElem? (i := i) (by rw [List.getElem?_take, if_pos hi]; exact hx9)
            have hx8 := List.all_eq_true.mp hal x hm
            rw [hf i x hx9] at hx8
            obtain ⟨h1, h2⟩ := of_decide_eq_true hx8
            simp [fits, h1, h2]
          · rw [z0] at g1 g2
            refine zgo_kk hs kk I1 hr (z_Wset w6 w7 w8 hq2 (Or.inr (Or.inl ⟨Or.inr (Or.inr rfl), va_cpy f g 0 0 n.toNatClampNeg, by dsimp only; rw [hlen], fun j x hj => ?_⟩)) g1 g2 g3)
            dsimp only at hj
            rw [zcpt hvl] at hj
            unfold va_cpy
            split at hj
            · next q => rw [hf j x hj, if_pos ⟨Nat.zero_le _, by omega⟩, Nat.zero_add, Nat.sub_zero]
            · next q => rw [hg j x hj, if_neg (by omega)]
        · obtain ⟨f, rfl, hf⟩ := z_arq (Or.inl rfl) w2
          obtain ⟨g, rfl, hg⟩ := z_arq (Or.inl rfl) hz2
          refine va_copyM hx hb hlsz hown (hts _ hl) (hts _ zj_cp2) (hts _ zj_cp3) (hts _ zj_cp4) hK w3 w4 w5 _ d 3 3 w1 hq2 rfl rfl (by decide) (by decide) hn (by rw [z0]; omega) (by rw [z0]; omega) (fun i hi y9 hy9 => ?_) (by omega) (by rw [zS_cs hr]; omega) hdg (fun H1 locs1 g1 g2 g3 => ?_)
          · rw [z0, Nat.zero_add] at hy9
            obtain ⟨x, hx9⟩ : ∃ x, vs[i]? = some x := ⟨_, List.getElem?_eq_getElem (by omega)⟩
            have hm : x ∈ vs.take n.toNatClampNeg := List.mem_of_getElem? (i := i) (by rw [List.getElem?_take, if_pos hi]; exact hx9)
            have hx8 := List.all_eq_true.mp hal x hm
            have hx7 := hf i x hx9
            rw [hy9] at hx7
            unfold zelt at hx8
            split at hx8
            · next k9 =>
              split at hx8
              · next t9 vs9 hc9 =>
                cases of_decide_eq_true hx8
                obtain ⟨a9, ha9, hb9⟩ := hx7
                cases (show Value.ref y9 = Value.ref a9 from hb9)
                have hl9 : k9 < ws.length := by rw [← w7]; exact (List.getElem?_eq_some_iff.mp hc9).1
                obtain ⟨⟨q9, e8⟩, hq9⟩ : ∃ q, ws[k9]? = some q := ⟨_, List.getElem?_eq_getElem hl9⟩
                have e7 : ads[k9]? = some q9 := by rw [← w6, List.getElem?_map, hq9]; rfl
                cases Option.some.inj (ha9.symm.trans e7)
                obtain ⟨f9, rfl, -⟩ := z_arr (Or.inl rfl) (w8 k9 _ _ hc9 hq9)
                exact z_any hK hC w3 hq9
              · cases hx8
            · cases (show Value.ref y9 = Value.null from hx7)
            · cases hx8
          · rw [z0] at g1 g2
            refine zgo_kk hs kk I1 hr (z_Wset w6 w7 w8 hq2 (Or.inr (Or.inr ⟨Or.inl rfl, va_cpy f g 0 0 n.toNatClampNeg, by dsimp only; rw [hlen], fun j x hj => ?_⟩)) g1 g2 g3)
            dsimp only at hj
            rw [zcpt hvl] at hj
            unfold va_cpy
            split at hj
            · next q =>
              rw [if_pos ⟨Nat.zero_le _, by omega⟩, Nat.zero_add, Nat.sub_zero]
              exact hf j x hj
            · next q =>
              rw [if_neg (by omega)]
              exact hg j x hj
      · cases hs
    · cases hs
  · cases hs
theorem z_multi {j : Nat} (hX : zX xs sp ty D A y p R s m args meth c) (hdg : decode (zmb y) pc = .ok (.multianewarray j 2, 4)) (hnx : nx = pc + 4) (hl : (Cond.classLink (zon (zmo y)) j "[[I") ∈ zB) (hs : zmulti nx L st h = some (.inl (pc', L', st', h', dc, ds))) (I : zR sp ty D A s.heap nL ads L st h ls str H locs)
    (hcl : cells + dc ≤ R.cells) (hsl : slots + ds ≤ R.slots) (kk : zKK p l e R s m args below meth c cells slots Q sp ty D A s.heap nL ads pc' L' st' h' dc ds) : W p l e R s m args below meth c H locs cells slots Q (F0 m pc ls str) := by
  obtain ⟨hx, hb, hml, hret, hlk, hown, hnm, hts, hK, hA, hSP, -⟩ := hX
  have hAA := hSP.2.2.2.2.2.2.2.2.2.2.2.2.2
  obtain ⟨I1, I2, ws, w1, w2, w3, w4, w5, w6⟩ := I
  unfold zmulti at hs
  split at hs
  · next k n r =>
    split at hs
    · next g =>
      obtain ⟨rfl, rfl⟩ := g
      obtain ⟨_, _, rfl, hv1, _, r9, rfl, hv2, hr⟩ := I2
      cases (show _ = Value.int _ from hv1); cases (show _ = Value.int _ from hv2)
      cases hs
      subst hnx
      have z8 : (8 : Int32).toNatClampNeg = 8 := by decide
      have z20 : (20 : Int32).toNatClampNeg = 20 := by decide
      refine va_mna (X := ws) (L := []) (f := fun _ => .inl (ty 0, 8, .inl (fun _ => 0))) (cy := ty 0) (ty := .int) (z := (8, .inl (fun _ => 0))) hx hb hown (hts _ hl) hAA (hts _ zAi) (hK.2 0 _ rfl).2 hK (by rw [show va_pl [] _ = [] from rfl, List.append_nil]; exact w1) (by rw [show va_pl [] _ = [] from rfl, List.append_nil]; exact w2) w3 hA (by decide) (by decide) z20 z8 (by decide) (by decide) (by decide) (by decide) (by decide) (by omega) (by omega) (fun c => ?_) hdg (fun q r8 cA H1 k1 k2 k3 k4 k5 k6 => ?_)
      · show ({ cls := c, slots := Array.replicate 8 (.int 0), vm := .none } : Cell) = _
        rw [arrV_new]
        rfl
      · have hcA : cA = ty 4 := Option.some.inj ((k3.2 5 _ rfl).2.symm.trans (hK.2 4 _ rfl).2)
        subst hcA
        have e1 : va_pl ([] ++ (List.range 20).map r8) (vr_up (fun _ => .inl (ty 0, 8, .inl (fun _ => 0))) ((List.range 20).map r8) (.inl (ty 0, 8, .inl (fun _ => 0)))) = ((List.range 20).map r8).map (fun a => (a, .inl (ty 0, 8, .inl (fun _ => 0)))) := (vr_rows (L := []) (l := (List.range 20).map r8) (f := fun _ => .inl (ty 0, 8, .inl (fun _ => 0))) (fun a _ z => by cases z)).symm
        rw [e1, List.append_assoc] at k4 k5
        have hal : ads.length = h.length := by rw [← w4, List.length_map, w5]
        have hwn : ∃ wn : va_W, wn = [(q, .inl (ty 4, 20, .inr (.inr (.inr (.inr (fun i => if i < 20 then some (r8 i) else none))))))] ++ ((List.range 20).map r8).map (fun a => ((a, .inl (ty 0, 8, .inl (fun _ => 0))) : Nat × va_E)) := ⟨_, rfl⟩
        obtain ⟨wn, hwn⟩ := hwn
        rw [← hwn] at k4 k5
        have kk9 := kk (wn.map (fun q => q.1)) ls (.ref q :: r9) H1 locs ⟨zLR_mono _ I1, ⟨_, _, rfl, ⟨q, ?_, rfl⟩, zS_mono _ hr⟩, z_Wapp w4 w5 w6 (by rw [hwn]; simp) (fun k c q2 h1 h2 => ?_) k4 k5 k6⟩
        · rw [show cells + 1 + 20 = cells + 21 by omega, show slots + 20 + 20 * 8 = slots + 180 by omega]
          exact kk9
        · rw [← hal, List.getElem?_append_right (Nat.le_refl _), Nat.sub_self, hwn]
          rfl
        · rw [hwn] at h2 ⊢
          cases k with
          | zero =>
            cases h1; cases h2
            refine Or.inr (Or.inr ⟨Or.inr rfl, fun i => if i < 20 then some (r8 i) else none, by simp, fun j x hj => ?_⟩)
            dsimp only at hj
            rw [List.getElem?_map] at hj
            by_cases h9 : j < 20
            · rw [List.getElem?_range h9] at hj
              cases hj
              dsimp only
              rw [if_pos h9]
              refine ⟨r8 j, ?_, rfl⟩
              rw [← hal, List.getElem?_append_right (by omega), show ads.length + 1 + j - ads.length = j + 1 by omega]
              simp [h9]
            · rw [List.getElem?_eq_none (by rw [List.length_range]; omega)] at hj
              cases hj
          | succ k =>
            have h1 : (List.replicate 20 ((100 : Nat), List.replicate 8 (Value.int 0)))[k]? = some c := h1
            have h2 : (((List.range 20).map r8).map (fun a => ((a, .inl (ty 0, 8, .inl (fun _ => 0))) : Nat × va_E)))[k]? = some q2 := h2
            rw [List.eq_of_mem_replicate (List.mem_of_getElem? h1)]
            obtain ⟨a9, -, rfl⟩ := List.mem_map.mp (List.mem_of_getElem? h2)
            refine Or.inr (Or.inl ⟨Or.inl rfl, fun _ => 0, by simp, fun j x hj => ?_⟩)
            exact (List.eq_of_mem_replicate (List.mem_of_getElem? hj))
    · cases hs
  · cases hs
end ZJ
end zg6
section zg7
/-! One step, whatever the instruction: the rows' check, and the lemma. -/
def zlen (i : Instr) : Nat := match i with
  | .iload _ | .lload _ | .dload _ | .aload _ | .istore _ | .lstore _ | .dstore _ | .astore _ | .bipush _ | .ldc _ | .newarray _ => 2
  | .iinc _ _ | .sipush _ | .ldc_w _ | .ldc2_w _ | .ifCond _ _ | .if_icmp _ _ | .goto _ | .getfield _ | .putfield _ | .getstatic _ | .new _ | .anewarray _ | .checkcast _ | .invokestatic _ | .invokevirtual _ | .invokespecial _ | .if_acmp _ _ | .ifnonnull _ => 3
  | .multianewarray _ _ => 4
  | .invokeinterface _ _ => 5
  | .tableswitch _ _ _ _ | .lookupswitch _ _ => 0
  | _ => 1
def zlk (y : Nat) (i : Instr) (pc k yy n c : Nat) : Bool := match i with
  | .ifCond _ off => decide ((pc : Int) + off = (k : Int))
  | .if_icmp _ off => decide ((pc : Int) + off = (k : Int))
  | .goto off => decide ((pc : Int) + off = (k : Int))
  | .ldc j => (decide (k = 0) && decide ((zmo y, j, 5, yy) ∈ zKL)) || (decide (k = 2) && decide (zon (zmo y) = "java/util/Arrays" ∧ j = 110)) || (decide (k = 3) && decide (zon (zmo y) = "ScrubwardModel" ∧ j = 255))
  | .getstatic j => (decide (k = 0) && (decide (zon (zmo y) = "java/lang/AbstractStringBuilder" ∧ j = 18) || decide (zon (zmo y) = "java/lang/String" ∧ j = 38))) || (decide (k = 1) && decide (zon (zmo y) = "java/util/ArrayList" ∧ j = 39))
  | .checkcast j => (decide (k = 100) && decide (zon (zmo y) = "ScrubwardModel" ∧ j = 106)) || (decide (k = 103) && decide (zon (zmo y) = "java/util/Arrays" ∧ j = 110))
  | .if_acmp _ off => decide ((pc : Int) + off = (k : Int))
  | .anewarray j => decide (zon (zmo y) = "java/util/Arrays" ∧ j = 2) || decide (zon (zmo y) = "java/util/ArrayList" ∧ j = 7)
  | .multianewarray j q => decide (zon (zmo y) = "ScrubwardModel" ∧ j = 29 ∧ q = 2)
  | .ldc_w j => decide ((zmo y, j, 5, yy) ∈ zKL)
  | .ldc2_w j => decide ((zmo y, j, k, yy) ∈ zKL)
  | .baload => decide (k = 101 ∨ k = 102)
  | .lookupswitch _ ps => (ps.toList.zip (ps.toList.drop 1)).all (fun (a, next) => decide (a.1 < next.1))
  | .getfield j => decide ((zmo y, j, yy) ∈ zFL)
  | .putfield j => decide ((zmo y, j, yy) ∈ zFL) && (decide ((zFT yy).2.2.2 = false) || (decide ((zmn y).name = "<init>") && decide ((zFT yy).1 = zon (zmo y))))
  | .new j => (decide (k = 9) && decide ((y, pc, j, yy) ∈ zTL) && decide (zmh y = [])) || (decide (k ≠ 9) && decide ((zmo y, j, c) ∈ zCL) && decide (c < 11))
  | .invokestatic j => if k = 12 ∨ k = 13 then decide ((zmo y, j, k) ∈ zXL) else if k = 10 then decide (zon (zmo y) = "java/util/Arrays" ∧ j = 150) else (decide ((zmo y, j, yy) ∈ zSL) && decide (yy < 247) && decide (yy ≠ zlaw) && decide (zmp yy = n))
  | .invokevirtual j => if k = 11 then decide (zon (zmo y) = "java/util/Arrays" ∧ j = 86) else (if k = 6 then decide ((zmo y, j, yy, c) ∈ zUL) else decide ((zmo y, j, yy, c) ∈ zVL)) && decide (yy < 247) && decide (yy ≠ zlaw) && decide (zmp yy = n) && decide (c < 11) && decide (zmh yy = [])
  | .invokeinterface j _ => decide ((zmo y, j, yy) ∈ zNL) && decide (yy < 247) && decide (yy ≠ zlaw) && decide (zmp yy = n) && decide (c = 10) && decide (zmh yy = [])
  | .invokespecial j => if k = 8 then decide ((zmo y, j) ∈ zOL) else if k = 7 then decide ((zmo y, j, yy, c) ∈ zGL) && decide (yy < 247) && decide (yy ≠ zlaw) && decide (zmp yy = n) && decide (c < 11) && decide (zmh yy = []) else decide ((zmo y, j, yy) ∈ zIL) && decide (yy < 247) && decide (yy ≠ zlaw) && decide (zmp yy = n) && decide (zmh yy = []) && decide (zmr yy = none)
  | .ireturn => decide (k = 0 ∧ zmr y = some .int) || decide (k = 1 ∧ zmr y = some .boolean) || decide (k = 2 ∧ zmr y = some .char)
  | .lreturn => decide (zmr y = some .long)
  | .dreturn => decide (zmr y = some .double)
  | .areturn => (match zmr y with
    | some (.object _) => true
    | some (.array _) => true
    | _ => false)
  | .return_ => decide (zmr y = none)
  | _ => true
def zrok (y : Nat) (r : zRow) : Bool := match decode (zmb y) r.1 with
  | .ok (i, len) => decide (i = r.2.1) && decide (r.2.2.1 = r.1 + len) && (decide (zlen i = len) || decide (zlen i = 0)) && zlk y i r.1 r.2.2.2.1 r.2.2.2.2.1 r.2.2.2.2.2.1 r.2.2.2.2.2.2
  | .error _ => false
theorem zrok_ok {y pc nx k yy n c : Nat} {i : Instr} (h : zrok y (pc, i, nx, k, yy, n, c) = true) : ∃ len, decode (zmb y) pc = .ok (i, len) ∧ nx = pc + len ∧ (zlen i = len ∨ zlen i = 0) ∧ zlk y i pc k yy n c = true := by
  unfold zrok at h
  dsimp only at h
  split at h
  · next i' len he =>
    simp only [Bool.and_eq_true, Bool.or_eq_true, decide_eq_true_eq] at h
    obtain ⟨⟨⟨rfl, h2⟩, h3⟩, h4⟩ := h
    exact ⟨len, he, h2, h3, h4⟩
  · cases h
theorem zrok1 {y pc nx k yy n c : Nat} {i : Instr} (h : zrok y (pc, i, nx, k, yy, n, c) = true) (hz : zlen i ≠ 0) : decode (zmb y) pc = .ok (i, zlen i) ∧ nx = pc + zlen i ∧ zlk y i pc k yy n c = true := by
  obtain ⟨len, h1, h2, h3, h4⟩ := zrok_ok h
  have e : zlen i = len := h3.resolve_right hz
  rw [e]
  exact ⟨h1, h2, h4⟩
section ZY
variable {p : Program} {l : Launch} {e : Env} {R : Room} {s : State} {m : MethodId} {args : Array Value} {below : List Frame} {meth : Method} {c : Code} {H : Heap} {locs : List Loc} {cells slots : Nat} {Q : State → Prop}
variable {xs : List Int32} {sp : Nat → Nat} {ty : Nat → ClassId} {D : va_G} {A : Nat → Prop} {ads : List Nat}
variable {y pc nx k yy n c9 pc' dc ds : Nat} {L L' : zL} {st st' str : List Value} {h h' : zH} {ls : Array Slot}
theorem z_fget {idx f ci kd k : Nat} (hX : zX xs sp ty D A y p R s m args meth c) (hl : zFok (zmo y, idx, f)) (hdg : decode (zmb y) pc = .ok (.getfield idx, 3)) {ws : va_W} {j a : Nat} {vs : List Value} {v : Value} {r : List Value} (w1 : va_P D zcl ws H) (hj : ws[j]? = some (a, .inr (ci, vs))) (hf : (zcf ci)[k]? = some (f, kd)) (hv : vs[k]? = some v)
    (kk : W p l e R s m args below meth c H locs cells slots Q (F0 m (pc + 3) ls (v :: r))) : W p l e R s m args below meth c H locs cells slots Q (F0 m pc ls (.ref a :: r)) := by
  obtain ⟨hx, hb, hml, hret, hlk, hown, hnm, hts, hK, hA, hSP, -⟩ := hX
  have hci : ci < 11 := by
    by_cases q : ci < 11
    · exact q
    · rw [zcf_out (by omega)] at hf
      cases hf
  obtain ⟨o1, o2, o3, o4, o5, o6⟩ := zc_ok ci hci
  have hk : k < (zcf ci).length := (List.getElem?_eq_some_iff.mp hf).1
  have hT : zT ci k = zFT f := by
    unfold zT
    rw [List.getD_eq_getElem?_getD, hf]
    rfl
  unfold zFok at hl
  rw [← hT] at hl
  rcases hl with ⟨ref, q1, q2⟩ | ⟨host, q1, q3⟩
  · exact va_get (D := D) (ci := ci) hx hb hts o1 hown hK w1 j hj o6 k hk (hts _ q1) (fun x h9 => by
      rcases q2 with rfl | q2
      · exact h9
      · exact u_same (hts _ q2) x h9) hv hdg kk
  · exact va_getN (D := D) (ci := ci) hx hb hts o1 hown hK w1 j hj o6 k hk (va_Nw.use rfl (hSP.1 _ q1)) (fun x h9 => h9) hv hdg kk
theorem z_fput {idx f ci kd k : Nat} (hX : zX xs sp ty D A y p R s m args meth c) (hl : zFok (zmo y, idx, f)) (hfin : (zFT f).2.2.2 = false ∨ ((zmn y).name = "<init>" ∧ (zFT f).1 = zon (zmo y))) (hdg : decode (zmb y) pc = .ok (.putfield idx, 3)) {ws : va_W} {j a : Nat} {vs : List Value} {v : Value} {r : List Value} (w1 : va_P D zcl ws H) (w2 : va_D A ws) (w3 : va_S A s.heap H locs) (hj : ws[j]? = some (a, .inr (ci, vs))) (hf : (zcf ci)[k]? = some (f, kd)) (hv : ∀ t9, zkt kd t9 → narrow t9 v = v ∧ fits t9 v = true) (hkl : k < vs.length)
    (kk : ∀ (H1 : Heap) (locs1 : List Loc), va_P D zcl (ws.set j (a, .inr (ci, vs.set k v))) H1 → va_D A (ws.set j (a, .inr (ci, vs.set k v))) → va_S A s.heap H1 locs1 → W p l e R s m args below meth c H1 locs1 cells slots Q (F0 m (pc + 3) ls r)) : W p l e R s m args below meth c H locs cells slots Q (F0 m pc ls (v :: .ref a :: r)) := by
  obtain ⟨hx, hb, hml, hret, hlk, hown, hnm, hts, hK, hA, hSP, -⟩ := hX
  have hci : ci < 11 := by
    by_cases q : ci < 11
    · exact q
    · rw [zcf_out (by omega)] at hf
      cases hf
  obtain ⟨o1, o2, o3, o4, o5, o6⟩ := zc_ok ci hci
  have hk : k < (zcf ci).length := (List.getElem?_eq_some_iff.mp hf).1
  have hT : zT ci k = zFT f := by
    unfold zT
    rw [List.getD_eq_getElem?_getD, hf]
    rfl
  have hkt : zkt kd (zty ci k) := by
    have := o4 k hk
    rw [List.getD_eq_getElem?_getD, hf] at this
    exact zktb_ok this
  obtain ⟨g1, g2⟩ := hv _ hkt
  unfold zFok at hl
  rw [← hT] at hl hfin
  rcases hfin with hfin | ⟨hfn, hfd⟩
  · rcases hl with ⟨ref, q1, q2⟩ | ⟨host, q1, q3⟩
    · exact va_put (D := D) (ci := ci) hx hb hts o1 (zty ci) o3 o2 hown hK w1 w2 w3 j hj o6 k hk (hts _ q1) (fun x h9 => by
        rcases q2 with rfl | q2
        · exact h9
        · exact u_same (hts _ q2) x h9) hfin (o3 k hk) g1 g2 hkl hdg kk
    · exact va_putN (D := D) (ci := ci) hx hb hts o1 (zty ci) o3 o2 hown hK w1 w2 w3 j hj o6 k hk (va_Nw.use rfl (hSP.1 _ q1)) (fun x h9 => h9) hfin (o3 k hk) g1 g2 hkl hdg kk
  · by_cases hff : (zT ci k).2.2.2 = true
    · rcases hl with ⟨ref, q1, q2⟩ | ⟨host, q1, q3⟩
      · exact va_putF (D := D) (ci := ci) hx hb hts o1 (zty ci) o3 o2 hown hK w1 w2 w3 j hj o6 k hk (hts _ q1) (fun x h9 => by
          rcases q2 with rfl | q2
          · exact h9
          · exact u_same (hts _ q2) x h9) hff (hnm hfn) hfd (o3 k hk) g1 g2 hkl hdg kk
      · exact absurd hfd q3
    · have hff : (zT ci k).2.2.2 = false := by simpa using hff
      rcases hl with ⟨ref, q1, q2⟩ | ⟨host, q1, q3⟩
      · exact va_put (D := D) (ci := ci) hx hb hts o1 (zty ci) o3 o2 hown hK w1 w2 w3 j hj o6 k hk (hts _ q1) (fun x h9 => by
          rcases q2 with rfl | q2
          · exact h9
          · exact u_same (hts _ q2) x h9) hff (o3 k hk) g1 g2 hkl hdg kk
      · exact va_putN (D := D) (ci := ci) hx hb hts o1 (zty ci) o3 o2 hown hK w1 w2 w3 j hj o6 k hk (va_Nw.use rfl (hSP.1 _ q1)) (fun x h9 => h9) hff (o3 k hk) g1 g2 hkl hdg kk
theorem zcall_ne {q : Nat × zL × List Value × zH × Nat × Nat} : ¬ zcall n yy nx st = some (.inl q) := by
  intro hs
  unfold zcall at hs
  split at hs
  · split at hs <;> cases hs
  · cases hs
theorem zcallV_ne {q : Nat × zL × List Value × zH × Nat × Nat} : ¬ zcallV n c9 yy nx st h = some (.inl q) := by
  intro hs
  unfold zcallV at hs
  split at hs
  · split at hs
    · split at hs
      · split at hs
        · split at hs <;> cases hs
        · cases hs
      · cases hs
    · cases hs
  · cases hs
theorem zcallI_ne {q : Nat × zL × List Value × zH × Nat × Nat} : ¬ zcallI n yy nx st = some (.inl q) := by
  intro hs
  unfold zcallI at hs
  split at hs
  · split at hs
    · split at hs <;> cases hs
    · cases hs
  · cases hs
theorem zirt_ne {q : Nat × zL × List Value × zH × Nat × Nat} : ¬ (match st with
      | [.int v] => if k = 0 ∨ (k = 1 ∧ (v = 0 ∨ v = 1)) ∨ (k = 2 ∧ 0 ≤ v ∧ v ≤ 255) then zret (some (.int v)) else none
      | _ => none) = some (.inl q) := by
  intro hs
  split at hs
  · split at hs <;> cases hs
  · cases hs
theorem zlrt_ne {q : Nat × zL × List Value × zH × Nat × Nat} : ¬ (match st with
      | [.long v] => zret (some (.long v))
      | _ => none) = some (.inl q) := by
  intro hs
  split at hs <;> cases hs
theorem zdrt_ne {q : Nat × zL × List Value × zH × Nat × Nat} : ¬ (match st with
      | [.double v] => zret (some (.double v))
      | _ => none) = some (.inl q) := by
  intro hs
  split at hs <;> cases hs
theorem zart_ne {q : Nat × zL × List Value × zH × Nat × Nat} : ¬ (match st with
      | [.ref v] => zret (some (.ref v))
      | [.retAddr v] => zret (some (.retAddr v))
      | _ => none) = some (.inl q) := by
  intro hs
  split at hs <;> cases hs
theorem zvrt_ne {q : Nat × zL × List Value × zH × Nat × Nat} : ¬ (match st with
      | [] => zret none
      | _ => none) = some (.inl q) := by
  intro hs
  split at hs <;> cases hs
theorem z_mm (f : Int32 → Int32 → Int32) {nL : Nat} {H0 : Heap} (hs : zmm f nx L st h = some (.inl (pc', L', st', h', dc, ds))) (I : zR sp ty D A H0 nL ads L st h ls str H locs) (kk : zKK p l e R s m args below meth c cells slots Q sp ty D A H0 nL ads pc' L' st' h' dc ds)
    (row : ∀ (x y : Int32) (r : List Value), (r.map fun v => v.category).sum ≤ 8 → W p l e R s m args below meth c H locs cells slots Q (F0 m nx ls (.int (f x y) :: r)) → W p l e R s m args below meth c H locs cells slots Q (F0 m pc ls (.int y :: .int x :: r))) : W p l e R s m args below meth c H locs cells slots Q (F0 m pc ls str) := by
  obtain ⟨I1, I2, I3⟩ := I
  unfold zmm at hs
  split at hs
  · split at hs
    · next g =>
      obtain ⟨_, _, rfl, hv, _, _, rfl, hw, hr⟩ := I2
      cases (show _ = Value.int _ from hv); cases (show _ = Value.int _ from hw)
      exact row _ _ _ (by rw [zS_cs hr]; exact g) (zgo_kk hs kk I1 ⟨_, _, rfl, rfl, hr⟩ I3)
    · cases hs
  · cases hs
theorem zkl {o j kd v : Nat} (h : (o, j, kd, v) ∈ zKL) : zKok (o, j, kd, v) := zKL_ok _ h
set_option maxHeartbeats 4000000 in
theorem z_step_ok {i : Instr} (hX : zX xs sp ty D A y p R s m args meth c) (hr : zrok y (pc, i, nx, k, yy, n, c9) = true) (hs : zstep zcf xs pc i nx k yy n c9 L st h = some (.inl (pc', L', st', h', dc, ds))) (I : zR sp ty D A s.heap (zmL y) ads L st h ls str H locs)
    (hcl : cells + dc ≤ R.cells) (hsl : slots + ds ≤ R.slots) (kk : zKK p l e R s m args below meth c cells slots Q sp ty D A s.heap (zmL y) ads pc' L' st' h' dc ds) : W p l e R s m args below meth c H locs cells slots Q (F0 m pc ls str) := by
  have hX0 := hX
  obtain ⟨hx, hb, hml, hret, hlk, hown, hnm, hts, hK, hA, hSP, hRf, hRl⟩ := hX
  have hlsz : c.maxLocals = ls.size := by
    obtain ⟨-, lv, hlv, -⟩ := I.1
    rw [hml, hlv.1]
  cases i with
  | iload j =>
    obtain ⟨hd, rfl, -⟩ := zrok1 hr (Nat.succ_ne_zero _)
    exact z_ldI hs I kk (fun x g w => lv_iload hx hb hd g w)
  | iload_n j =>
    obtain ⟨hd, rfl, -⟩ := zrok1 hr (Nat.succ_ne_zero _)
    exact z_ldI hs I kk (fun x g w => lv_iload_n hx hb hd rfl g w)
  | lload j =>
    obtain ⟨hd, rfl, -⟩ := zrok1 hr (Nat.succ_ne_zero _)
    exact z_ldL hs I kk (fun x g w => lv_lload hx hb hd g w)
  | lload_n j =>
    obtain ⟨hd, rfl, -⟩ := zrok1 hr (Nat.succ_ne_zero _)
    exact z_ldL hs I kk (fun x g w => lv_lload_n hx hb hd rfl g w)
  | dload j =>
    obtain ⟨hd, rfl, -⟩ := zrok1 hr (Nat.succ_ne_zero _)
    exact z_ldD hs I kk (fun x g w => lv_dload hx hb hd g w)
  | aload j =>
    obtain ⟨hd, rfl, -⟩ := zrok1 hr (Nat.succ_ne_zero _)
    exact z_ldA hs I kk (fun x g w => lv_aload hx hb hd g w) (fun g w => lv_aloadN hx hb hd g w)
  | aload_n j =>
    obtain ⟨hd, rfl, -⟩ := zrok1 hr (Nat.succ_ne_zero _)
    exact z_ldA hs I kk (fun x g w => lv_aload_n hx hb hd rfl g w) (fun g w => lv_aload_nN hx hb hd rfl g w)
  | istore j =>
    obtain ⟨hd, rfl, -⟩ := zrok1 hr (Nat.succ_ne_zero _)
    obtain ⟨I1, I2, I3⟩ := I
    have hs : zsI L j (pc + 2) st h = _ := hs
    unfold zsI at hs
    split at hs
    · obtain ⟨_, _, rfl, hv, hr9⟩ := I2
      cases (show _ = Value.int _ from hv)
      exact z_sv1 hs hv I1 hr9 I3 kk (fun lv g1 g2 w => lv_istore hx hb hd g1 g2 rfl w)
    · cases hs
  | istore_n j =>
    obtain ⟨hd, rfl, -⟩ := zrok1 hr (Nat.succ_ne_zero _)
    obtain ⟨I1, I2, I3⟩ := I
    have hs : zsI L j (pc + 1) st h = _ := hs
    unfold zsI at hs
    split at hs
    · obtain ⟨_, _, rfl, hv, hr9⟩ := I2
      cases (show _ = Value.int _ from hv)
      exact z_sv1 hs hv I1 hr9 I3 kk (fun lv g1 g2 w => lv_istore_n hx hb hd rfl g1 g2 rfl w)
    · cases hs
  | astore j =>
    obtain ⟨hd, rfl, -⟩ := zrok1 hr (Nat.succ_ne_zero _)
    obtain ⟨I1, I2, I3⟩ := I
    have hs : zsA L j (pc + 2) st h = _ := hs
    unfold zsA at hs
    split at hs
    · obtain ⟨_, _, rfl, hv, hr9⟩ := I2
      obtain ⟨a, -, rfl⟩ := id hv
      exact z_sv1 hs hv I1 hr9 I3 kk (fun lv g1 g2 w => lv_astore hx hb hd g1 g2 rfl w)
    · obtain ⟨_, _, rfl, hv, hr9⟩ := I2
      obtain ⟨-, rfl⟩ := id hv
      exact z_sv1 hs hv I1 hr9 I3 kk (fun lv g1 g2 w => lv_astore hx hb hd g1 g2 rfl w)
    · cases hs
  | astore_n j =>
    obtain ⟨hd, rfl, -⟩ := zrok1 hr (Nat.succ_ne_zero _)
    obtain ⟨I1, I2, I3⟩ := I
    have hs : zsA L j (pc + 1) st h = _ := hs
    unfold zsA at hs
    split at hs
    · obtain ⟨_, _, rfl, hv, hr9⟩ := I2
      obtain ⟨a, -, rfl⟩ := id hv
      exact z_sv1 hs hv I1 hr9 I3 kk (fun lv g1 g2 w => lv_astore_n hx hb hd rfl g1 g2 rfl w)
    · obtain ⟨_, _, rfl, hv, hr9⟩ := I2
      obtain ⟨-, rfl⟩ := id hv
      exact z_sv1 hs hv I1 hr9 I3 kk (fun lv g1 g2 w => lv_astore_n hx hb hd rfl g1 g2 rfl w)
    · cases hs
  | lstore j =>
    obtain ⟨hd, rfl, -⟩ := zrok1 hr (Nat.succ_ne_zero _)
    obtain ⟨I1, I2, I3⟩ := I
    have hs : zsL L j (pc + 2) st h = _ := hs
    unfold zsL at hs
    split at hs
    · obtain ⟨_, _, rfl, hv, hr9⟩ := I2
      cases (show _ = Value.long _ from hv)
      exact z_sv2 hs hv I1 hr9 I3 kk (fun lv g1 g2 w => lv_lstore hx hb hd g1 g2 rfl w)
    · cases hs
  | lstore_n j =>
    obtain ⟨hd, rfl, -⟩ := zrok1 hr (Nat.succ_ne_zero _)
    obtain ⟨I1, I2, I3⟩ := I
    have hs : zsL L j (pc + 1) st h = _ := hs
    unfold zsL at hs
    split at hs
    · obtain ⟨_, _, rfl, hv, hr9⟩ := I2
      cases (show _ = Value.long _ from hv)
      exact z_sv2 hs hv I1 hr9 I3 kk (fun lv g1 g2 w => lv_lstore_n hx hb hd rfl g1 g2 rfl w)
    · cases hs
  | dstore j =>
    obtain ⟨hd, rfl, -⟩ := zrok1 hr (Nat.succ_ne_zero _)
    obtain ⟨I1, I2, I3⟩ := I
    have hs : zsD L j (pc + 2) st h = _ := hs
    unfold zsD at hs
    split at hs
    · obtain ⟨_, _, rfl, hv, hr9⟩ := I2
      cases (show _ = Value.double _ from hv)
      exact z_sv2 hs hv I1 hr9 I3 kk (fun lv g1 g2 w => lv_dstore hx hb hd g1 g2 rfl w)
    · cases hs
  | iinc j z =>
    obtain ⟨hd, rfl, -⟩ := zrok1 hr (Nat.succ_ne_zero _)
    obtain ⟨I1, I2, I3⟩ := I
    have hs : zinc L j z (pc + 3) st h = _ := hs
    unfold zinc at hs
    split at hs
    · next x hx9 =>
      obtain ⟨h0, lv0, g0, g9⟩ := id I1
      obtain ⟨v', hv, hin⟩ := g9 j _ hx9
      cases (show _ = Value.int _ from hv)
      obtain ⟨L1, e1, e2⟩ : ∃ L1, zst1 (.int (x + Int32.ofInt z)) j L = some L1 ∧ zgo (pc + 3) L1 st h = some (.inl (pc', L', st', h', dc, ds)) := by
        unfold zsv1 at hs
        split at hs
        · next L1 h1 => exact ⟨L1, h1, hs⟩
        · cases hs
      obtain ⟨q1, q2, q3, q4⟩ := zst1_spec e1
      obtain ⟨kx, hkx⟩ := List.getElem?_of_mem hin
      refine lv_iinc (v := x + Int32.ofInt z) hx hb hd g0 hkx rfl (by omega) rfl (fun ls' g => zgo_kk e2 kk ⟨by omega, _, g, fun j2 w hj => ?_⟩ I2 I3)
      by_cases e9 : j2 = j
      · subst e9
        rw [q3] at hj
        cases hj
        exact ⟨_, rfl, List.mem_cons_self⟩
      · obtain ⟨r1, r2⟩ := q4 j2 w e9 hj
        obtain ⟨w', a, b⟩ := g9 j2 w r1
        refine ⟨w', a, List.mem_cons_of_mem _ (List.mem_filter.mpr ⟨b, ?_⟩)⟩
        have hc := zV_cat a
        by_cases e3 : j2 + 1 = j
        · rw [r2 e3] at hc
          simp [e9, hc]
        · simp [e9, e3]
    · cases hs
  | iconst z =>
    obtain ⟨hd, rfl, -⟩ := zrok1 hr (Nat.succ_ne_zero _)
    exact z_pu (v := .int (Int32.ofInt z)) (v' := .int (Int32.ofInt z)) rfl hs I kk (fun w => lv_iconst hx hb hd rfl w)
  | bipush z =>
    obtain ⟨hd, rfl, -⟩ := zrok1 hr (Nat.succ_ne_zero _)
    exact z_pu (v := .int (Int8.ofInt z).toInt32) (v' := .int (Int8.ofInt z).toInt32) rfl hs I kk (fun w => lv_bipush hx hb hd rfl w)
  | sipush z =>
    obtain ⟨hd, rfl, -⟩ := zrok1 hr (Nat.succ_ne_zero _)
    exact z_pu (v := .int (Int16.ofInt z).toInt32) (v' := .int (Int16.ofInt z).toInt32) rfl hs I kk (fun w => lv_sipush hx hb hd rfl w)
  | lconst z =>
    obtain ⟨hd, rfl, -⟩ := zrok1 hr (Nat.succ_ne_zero _)
    exact z_pu (v := .long (Int64.ofNat z)) (v' := .long (Int64.ofNat z)) rfl hs I kk (fun w => lv_lconst hx hb hd rfl w)
  | aconst_null =>
    obtain ⟨hd, rfl, -⟩ := zrok1 hr (Nat.succ_ne_zero _)
    exact z_pu (v := .null) (v' := .null) rfl hs I kk (fun w => lv_null hx hb hd w)
  | ldc j =>
    obtain ⟨hd, rfl, hl⟩ := zrok1 hr (Nat.succ_ne_zero _)
    replace hs : (if k = 0 then zpu L (.int (Int32.ofNat yy)) (pc + 2) st h else if k = 2 then zpu L (.retAddr 2) (pc + 2) st h else if k = 3 then zpu L (.retAddr 3) (pc + 2) st h else none) = some (.inl (pc', L', st', h', dc, ds)) := hs
    replace hl : ((decide (k = 0) && decide ((zmo y, j, 5, yy) ∈ zKL)) || (decide (k = 2) && decide (zon (zmo y) = "java/util/Arrays" ∧ j = 110)) || (decide (k = 3) && decide (zon (zmo y) = "ScrubwardModel" ∧ j = 255))) = true := hl
    simp only [Bool.and_eq_true, Bool.or_eq_true, decide_eq_true_eq] at hl
    rcases hl with (⟨rfl, hl⟩ | ⟨rfl, ho, rfl⟩) | ⟨rfl, ho, rfl⟩
    · rw [if_pos rfl] at hs
      exact z_pu (v := .int (Int32.ofNat yy)) (v' := .int (Int32.ofNat yy)) rfl hs I kk (fun w => lv_ldc hx hb hown (hts _ (zkl hl)) hd w)
    · rw [if_neg (by decide), if_pos rfl] at hs
      rw [ho] at hown
      exact z_pu (v := .retAddr 2) (v' := .ref (sp 2)) ⟨by decide, rfl⟩ hs I kk (fun w => va_ldcM hx hb hown (hts _ zj_ldc) hSP.2.2.2.2.2.2.2.2.2.2.1 hd w)
    · rw [if_neg (by decide), if_neg (by decide), if_pos rfl] at hs
      rw [ho] at hown
      exact z_pu (v := .retAddr 3) (v' := .ref (sp 3)) ⟨by decide, rfl⟩ hs I kk (fun w => va_ldcS hx hb hown hSP.2.2.2.2.2.2.2.2.2.2.2.2.1 hd w)
  | getstatic j =>
    obtain ⟨hd, rfl, hl⟩ := zrok1 hr (Nat.succ_ne_zero _)
    replace hs : (if k = 0 then zpu L (.int 1) (pc + 3) st h else if k = 1 then zpu L (.retAddr 1) (pc + 3) st h else none) = some (.inl (pc', L', st', h', dc, ds)) := hs
    replace hl : ((decide (k = 0) && (decide (zon (zmo y) = "java/lang/AbstractStringBuilder" ∧ j = 18) || decide (zon (zmo y) = "java/lang/String" ∧ j = 38))) || (decide (k = 1) && decide (zon (zmo y) = "java/util/ArrayList" ∧ j = 39))) = true := hl
    simp only [Bool.and_eq_true, Bool.or_eq_true, decide_eq_true_eq] at hl
    obtain ⟨wsS, wS1, wS2, hS9, -⟩ := id I.2.2
    rcases hl with ⟨rfl, ⟨ho, rfl⟩ | ⟨ho, rfl⟩⟩ | ⟨rfl, ho, rfl⟩
    · rw [if_pos rfl] at hs
      rw [ho] at hown
      exact z_pu (v := .int 1) (v' := .int 1) rfl hs I kk (fun w => va_gets hx hb hSP.2.2.2.2.2.2.2.1 hS9 hown (hts _ zj_gs1) (fun x h9 => h9) hd w)
    · rw [if_pos rfl] at hs
      rw [ho] at hown
      exact z_pu (v := .int 1) (v' := .int 1) rfl hs I kk (fun w => va_gets hx hb hSP.2.2.2.2.2.2.2.1 hS9 hown (hts _ zj_gs2) (fun x h9 => h9) hd w)
    · rw [if_neg (by decide), if_pos rfl] at hs
      rw [ho] at hown
      exact z_pu (v := .retAddr 1) (v' := .ref (sp 1)) ⟨by decide, rfl⟩ hs I kk (fun w => va_gets hx hb hSP.2.2.2.2.2.2.2.2.1 hS9 hown (hts _ zj_gs3) (fun x h9 => h9) hd w)
  | checkcast j =>
    obtain ⟨hd, rfl, hl⟩ := zrok1 hr (Nat.succ_ne_zero _)
    replace hl : ((decide (k = 100) && decide (zon (zmo y) = "ScrubwardModel" ∧ j = 106)) || (decide (k = 103) && decide (zon (zmo y) = "java/util/Arrays" ∧ j = 110))) = true := hl
    simp only [Bool.and_eq_true, Bool.or_eq_true, decide_eq_true_eq] at hl
    rcases hl with ⟨rfl, ho, rfl⟩ | ⟨rfl, ho, rfl⟩
    · rw [ho] at hown
      exact z_chk (k := 100) (by decide) hs I kk (fun ws q0 a x r g1 g2 w => va_castA (D := D) hx hb hown (hts _ zj_chk) g1 q0 g2 (hK.2 0 _ rfl).2 hd w)
    · rw [ho] at hown
      obtain ⟨_, _, _, _, _, g9⟩ := (hK.2 3 _ rfl).2
      exact z_chk (k := 103) (by decide) hs I kk (fun ws q0 a x r g1 g2 w => va_castA (D := D) hx hb hown (hts _ zj_ldc) g1 q0 g2 g9 hd w)
  | if_acmp q off =>
    obtain ⟨hd, e, hl⟩ := zrok1 hr (Nat.succ_ne_zero _)
    exact z_acmp hx hb hd e (of_decide_eq_true hl) hs I kk
  | ldc_w j =>
    obtain ⟨hd, rfl, hl⟩ := zrok1 hr (Nat.succ_ne_zero _)
    have hs : (if k = 0 then zpu L (.int (Int32.ofNat yy)) (pc + 3) st h else none) = some (.inl (pc', L', st', h', dc, ds)) := hs
    split at hs
    · next hk0 =>
      have hl := zkl (of_decide_eq_true (show decide ((zmo y, j, 5, yy) ∈ zKL) = true from hl))
      exact z_pu (v := .int (Int32.ofNat yy)) (v' := .int (Int32.ofNat yy)) rfl hs I kk (fun w => lv_ldcw hx hb hown (hts _ hl) hd w)
    · cases hs
  | ldc2_w j =>
    obtain ⟨hd, rfl, hl⟩ := zrok1 hr (Nat.succ_ne_zero _)
    have hs : (if k = 0 then zpu L (.long (Int64.ofNat yy)) (pc + 3) st h else if k = 1 then zpu L (.double (UInt64.ofNat yy)) (pc + 3) st h else none) = some (.inl (pc', L', st', h', dc, ds)) := hs
    have hl := zkl (of_decide_eq_true (show decide ((zmo y, j, k, yy) ∈ zKL) = true from hl))
    split at hs
    · next hk0 =>
      subst hk0
      exact z_pu (v := .long (Int64.ofNat yy)) (v' := .long (Int64.ofNat yy)) rfl hs I kk (fun w => lv_ldc2 hx hb hown (hts _ hl) hd w)
    · split at hs
      · next hk0 =>
        subst hk0
        exact z_pu (v := .double (UInt64.ofNat yy)) (v' := .double (UInt64.ofNat yy)) rfl hs I kk (fun w => lv_ldc2d hx hb hown (hts _ hl) hd w)
      · cases hs
  | iadd =>
    obtain ⟨hd, rfl, -⟩ := zrok1 hr (Nat.succ_ne_zero _)
    exact z_bin _ hs I kk (fun x y r w => lv_iadd hx hb hd w)
  | isub =>
    obtain ⟨hd, rfl, -⟩ := zrok1 hr (Nat.succ_ne_zero _)
    exact z_bin _ hs I kk (fun x y r w => lv_isub hx hb hd w)
  | imul =>
    obtain ⟨hd, rfl, -⟩ := zrok1 hr (Nat.succ_ne_zero _)
    exact z_bin _ hs I kk (fun x y r w => lv_imul hx hb hd w)
  | iand =>
    obtain ⟨hd, rfl, -⟩ := zrok1 hr (Nat.succ_ne_zero _)
    exact z_bin _ hs I kk (fun x y r w => lv_iand hx hb hd w)
  | ior =>
    obtain ⟨hd, rfl, -⟩ := zrok1 hr (Nat.succ_ne_zero _)
    exact z_bin _ hs I kk (fun x y r w => lv_ior hx hb hd w)
  | ixor =>
    obtain ⟨hd, rfl, -⟩ := zrok1 hr (Nat.succ_ne_zero _)
    exact z_bin _ hs I kk (fun x y r w => lv_ixor hx hb hd w)
  | ishl =>
    obtain ⟨hd, rfl, -⟩ := zrok1 hr (Nat.succ_ne_zero _)
    exact z_bin _ hs I kk (fun x y r w => lv_ishl hx hb hd w)
  | ishr =>
    obtain ⟨hd, rfl, -⟩ := zrok1 hr (Nat.succ_ne_zero _)
    exact z_bin _ hs I kk (fun x y r w => lv_ishr hx hb hd w)
  | iushr =>
    obtain ⟨hd, rfl, -⟩ := zrok1 hr (Nat.succ_ne_zero _)
    exact z_bin _ hs I kk (fun x y r w => lv_iushr hx hb hd rfl w)
  | idiv =>
    obtain ⟨hd, rfl, -⟩ := zrok1 hr (Nat.succ_ne_zero _)
    exact z_div _ hs I kk (fun x y r g w => lv_idiv hx hb hd g w)
  | irem =>
    obtain ⟨hd, rfl, -⟩ := zrok1 hr (Nat.succ_ne_zero _)
    exact z_div _ hs I kk (fun x y r g w => lv_irem hx hb hd g w)
  | ineg =>
    obtain ⟨hd, rfl, -⟩ := zrok1 hr (Nat.succ_ne_zero _)
    exact z_un (fun x => .int (-x)) (fun _ => rfl) hs I kk (fun x r w => lv_ineg hx hb hd w)
  | i2l =>
    obtain ⟨hd, rfl, -⟩ := zrok1 hr (Nat.succ_ne_zero _)
    exact z_un (fun x => .long x.toInt64) (fun _ => rfl) hs I kk (fun x r w => lv_i2l hx hb hd rfl w)
  | i2b =>
    obtain ⟨hd, rfl, -⟩ := zrok1 hr (Nat.succ_ne_zero _)
    exact z_un (fun x => .int x.toInt8.toInt32) (fun _ => rfl) hs I kk (fun x r w => lv_i2b hx hb hd rfl w)
  | i2c =>
    obtain ⟨hd, rfl, -⟩ := zrok1 hr (Nat.succ_ne_zero _)
    exact z_un (fun x => .int (x.toUInt32 % 65536).toInt32) (fun _ => rfl) hs I kk (fun x r w => lv_i2c hx hb hd rfl w)
  | i2d =>
    obtain ⟨hd, rfl, -⟩ := zrok1 hr (Nat.succ_ne_zero _)
    exact z_un (fun x => .double (FP.i2d x)) (fun _ => rfl) hs I kk (fun x r w => lv_i2d hx hb hd w)
  | lcmp =>
    obtain ⟨hd, rfl, -⟩ := zrok1 hr (Nat.succ_ne_zero _)
    exact z_lcmp hs I kk (fun x y r w => W.lcmp hx hb hd w)
  | ladd =>
    obtain ⟨hd, rfl, -⟩ := zrok1 hr (Nat.succ_ne_zero _)
    exact z_binL _ hs I kk (fun x y r w => lv_ladd hx hb hd w)
  | lmul =>
    obtain ⟨hd, rfl, -⟩ := zrok1 hr (Nat.succ_ne_zero _)
    exact z_binL _ hs I kk (fun x y r w => lv_lmul hx hb hd w)
  | ddiv =>
    obtain ⟨hd, rfl, -⟩ := zrok1 hr (Nat.succ_ne_zero _)
    exact z_binD _ hs I kk (fun x y r g w => lv_ddiv hx hb hd g w)
  | dmul =>
    obtain ⟨hd, rfl, -⟩ := zrok1 hr (Nat.succ_ne_zero _)
    exact z_binD _ hs I kk (fun x y r g w => lv_dmul hx hb hd g w)
  | d2l =>
    obtain ⟨hd, rfl, -⟩ := zrok1 hr (Nat.succ_ne_zero _)
    exact z_d2l hs I kk (fun x r w => lv_d2l hx hb hd w)
  | dup =>
    obtain ⟨hd, rfl, -⟩ := zrok1 hr (Nat.succ_ne_zero _)
    exact z_dup hs I kk (fun v r g w => lv_dup hx hb hd g w)
  | pop =>
    obtain ⟨hd, rfl, -⟩ := zrok1 hr (Nat.succ_ne_zero _)
    exact z_pop hs I kk (fun v r g w => lv_pop hx hb hd g w)
  | pop2 =>
    obtain ⟨hd, rfl, -⟩ := zrok1 hr (Nat.succ_ne_zero _)
    exact z_pop2 hs I kk (fun v r g w => lv_pop2_2 hx hb hd g w)
  | dup_x1 =>
    obtain ⟨hd, rfl, -⟩ := zrok1 hr (Nat.succ_ne_zero _)
    exact z_dupx1 hs I kk (fun v w r g g2 k9 => lv_dup_x1 hx hb hd g g2 k9)
  | dup2 =>
    obtain ⟨hd, rfl, -⟩ := zrok1 hr (Nat.succ_ne_zero _)
    exact z_dup2 hs I kk (fun v w r g g2 k9 => lv_dup2_11 hx hb hd g g2 k9)
  | ifCond q off =>
    obtain ⟨hd, rfl, hl⟩ := zrok1 hr (Nat.succ_ne_zero _)
    have ht := of_decide_eq_true (show decide ((pc : Int) + off = (k : Int)) = true from hl)
    obtain ⟨I1, I2, I3⟩ := I
    have hs : zif q k (pc + 3) L st h = _ := hs
    unfold zif at hs
    split at hs
    · obtain ⟨_, _, rfl, hv, hr9⟩ := I2
      cases (show _ = Value.int _ from hv)
      refine z_br hs I1 hr9 I3 kk ?_
      cases q with
      | eq => exact fun a b => lv_if_eq hx hb hd ht a b
      | ne => exact fun a b => lv_if_ne hx hb hd ht a b
      | lt => exact fun a b => lv_if_lt hx hb hd ht a b
      | ge => exact fun a b => lv_if_ge hx hb hd ht a b
      | gt => exact fun a b => lv_if_gt hx hb hd ht a b
      | le => exact fun a b => lv_if_le hx hb hd ht a b
    · cases hs
  | if_icmp q off =>
    obtain ⟨hd, rfl, hl⟩ := zrok1 hr (Nat.succ_ne_zero _)
    have ht := of_decide_eq_true (show decide ((pc : Int) + off = (k : Int)) = true from hl)
    obtain ⟨I1, I2, I3⟩ := I
    have hs : zicmp q k (pc + 3) L st h = _ := hs
    unfold zicmp at hs
    split at hs
    · obtain ⟨_, _, rfl, hv, _, _, rfl, hw, hr9⟩ := I2
      cases (show _ = Value.int _ from hv); cases (show _ = Value.int _ from hw)
      refine z_br hs I1 hr9 I3 kk ?_
      cases q with
      | eq => exact fun a b => lv_icmp_eq hx hb hd ht a b
      | ne => exact fun a b => lv_icmp_ne hx hb hd ht a b
      | lt => exact fun a b => lv_icmp_lt hx hb hd ht a b
      | ge => exact fun a b => lv_icmp_ge hx hb hd ht a b
      | gt => exact fun a b => lv_icmp_gt hx hb hd ht a b
      | le => exact fun a b => lv_icmp_le hx hb hd ht a b
    · cases hs
  | goto off =>
    obtain ⟨hd, rfl, hl⟩ := zrok1 hr (Nat.succ_ne_zero _)
    have ht := of_decide_eq_true (show decide ((pc : Int) + off = (k : Int)) = true from hl)
    exact z_goto hs I kk (fun w => lv_goto hx hb hd ht w)
  | tableswitch d lo hi os =>
    obtain ⟨len, hd, -, -, -⟩ := zrok_ok hr
    obtain ⟨I1, I2, I3⟩ := I
    have hs : ztab pc d lo hi os L st h = _ := hs
    unfold ztab at hs
    split at hs
    · obtain ⟨_, _, rfl, hv, hr9⟩ := I2
      cases (show _ = Value.int _ from hv)
      split at hs
      · next g =>
        obtain ⟨tg, ht, w⟩ := z_off hs I1 hr9 I3 kk
        exact lv_tableOut hx hb hd g ht w
      · next g =>
        split at hs
        · next o ho =>
          obtain ⟨tg, ht, w⟩ := z_off hs I1 hr9 I3 kk
          exact lv_tableIn hx hb hd (fun q => g (Or.inl q)) (fun q => g (Or.inr q)) ho ht w
        · cases hs
    · cases hs
  | lookupswitch d ps =>
    obtain ⟨len, hd, -, -, hl⟩ := zrok_ok hr
    obtain ⟨I1, I2, I3⟩ := I
    have hs : zlook pc d ps L st h = _ := hs
    unfold zlook at hs
    split at hs
    · obtain ⟨_, _, rfl, hv, hr9⟩ := I2
      cases (show _ = Value.int _ from hv)
      obtain ⟨tg, ht, w⟩ := z_off hs I1 hr9 I3 kk
      exact lv_lookup hx hb hd hl rfl ht w
    · cases hs
  | iaload =>
    obtain ⟨hd, rfl, -⟩ := zrok1 hr (Nat.succ_ne_zero _)
    exact z_ialoadX hs I kk (fun ws k a n f i r g1 g2 g3 w => va_iald (D := D) hx hb hK g1 k 0 g2 rfl g3 hd w) (fun i r g1 g2 w => va_sld hx hb hSP.2.2.2.1.1 hSP.2.2.2.1.2.1 hSP.2.2.2.1.2.2 g1 g2 hd w)
  | iastore =>
    obtain ⟨hd, rfl, -⟩ := zrok1 hr (Nat.succ_ne_zero _)
    exact z_ast (g := some) (Or.inl rfl) hs I kk (fun ws k a n f i x z r g0 g1 g2 g3 g4 g5 w => by
      cases g0
      exact va_iast (D := D) hx hb hK g1 g2 g3 k 0 g4 rfl g5 hd w)
  | baload =>
    obtain ⟨hd, rfl, hl⟩ := zrok1 hr (Nat.succ_ne_zero _)
    have hk2 := of_decide_eq_true (show decide (k = 101 ∨ k = 102) = true from hl)
    rcases hk2 with rfl | rfl
    · exact z_ald (t := 101) (Or.inr (Or.inl rfl)) hs I kk (fun ws k a n f i r g1 g2 g3 w => va_zald (D := D) hx hb hK g1 k 1 g2 rfl g3 hd w)
    · exact z_ald (t := 102) (Or.inr (Or.inr rfl)) hs I kk (fun ws k a n f i r g1 g2 g3 w => va_bald (D := D) hx hb hK g1 k 2 g2 rfl g3 hd w)
  | bastore =>
    obtain ⟨hd, rfl, -⟩ := zrok1 hr (Nat.succ_ne_zero _)
    have hs : (if k = 101 then zast 101 (fun x => if x = 0 ∨ x = 1 then some x else none) (pc + 1) L st h else zast 102 (fun x => some x.toInt8.toInt32) (pc + 1) L st h) = some (.inl (pc', L', st', h', dc, ds)) := hs
    split at hs
    · refine z_ast (t := 101) (Or.inr (Or.inl rfl)) hs I kk (fun ws k a n f i x z r g0 g1 g2 g3 g4 g5 w => ?_)
      have g0 : (if x = 0 ∨ x = 1 then some x else none) = some z := g0
      split at g0
      · next q =>
        cases g0
        have e9 : vp_nar .boolean x = x := by rcases q with rfl | rfl <;> rfl
        refine va_zast (D := D) hx hb hK g1 g2 g3 k 1 g4 rfl g5 hd ?_
        rw [e9]
        exact w
      · cases g0
    · refine z_ast (t := 102) (Or.inr (Or.inr rfl)) hs I kk (fun ws k a n f i x z r g0 g1 g2 g3 g4 g5 w => ?_)
      cases g0
      refine va_bast (D := D) hx hb hK g1 g2 g3 k 2 g4 rfl g5 hd ?_
      rw [vp_nar_byte]
      exact w
  | aaload =>
    obtain ⟨hd, rfl, -⟩ := zrok1 hr (Nat.succ_ne_zero _)
    refine z_aald hs I kk (fun ws t k a n f i r ht g1 g2 g3 w => ?_)
    have hlt : i.toNatClampNeg < n := Nat.not_le.mp fun q => g3 (Or.inr q)
    rcases ht with rfl | rfl
    · exact va_aldq (D := D) hx hb hK g1 k 3 g2 rfl g3 hd w
    · exact W.aald (v := va_rf (f i.toNatClampNeg)) (ty := .array .int) hx hb (g1 k _ g2) ((hK.2 4 _ rfl).1 n (fun j => va_rf (f j))) rfl (fun q => by cases q) (by show ¬ (i < 0 ∨ (arrV _ _ _).slots.size ≤ _); rw [arrV_size]; exact g3) (by show (arrV _ _ _).slots[_]? = _; rw [arrV_read _ _ hlt]) rfl rfl hd w
  | arraylength =>
    obtain ⟨hd, rfl, -⟩ := zrok1 hr (Nat.succ_ne_zero _)
    refine z_alen hSP hs I kk (fun ws t k a x r h1 h2 g1 g2 w => ?_) (fun r g w => va_slen hx hb hSP.2.2.2.1.1 hSP.2.2.2.1.2.1 hSP.2.2.2.1.2.2 g hd w) (fun r g w => ?_)
    · obtain ⟨t9, e9⟩ : ∃ t9, (ztys ty)[t - 100]? = some (ty (t - 100), t9) := by
        rcases (show t = 100 ∨ t = 101 ∨ t = 102 ∨ t = 103 ∨ t = 104 by omega) with rfl | rfl | rfl | rfl | rfl <;> exact ⟨_, rfl⟩
      exact va_alen (D := D) hx hb hK g1 k (t - 100) g2 e9 rfl hd w
    · exact va_tlen (N := 0) (t := sp 1) hx hb hSP.2.2.2.2.2.2.2.2.2.1 g rfl hd w
  | newarray t =>
    obtain ⟨hd, e, -⟩ := zrok1 hr (Nat.succ_ne_zero _)
    exact z_newa hX0 hd e hs I hcl hsl kk
  | getfield j =>
    obtain ⟨hd, rfl, hl⟩ := zrok1 hr (Nat.succ_ne_zero _)
    have hl := zFL_ok _ (of_decide_eq_true (show decide ((zmo y, j, yy) ∈ zFL) = true from hl))
    exact z_get hs I kk (fun ws j a ci kd vs v r g1 g2 g3 g4 w => z_fget hX0 hl hd g1 g2 g3 g4 w)
  | putfield j =>
    obtain ⟨hd, rfl, hl⟩ := zrok1 hr (Nat.succ_ne_zero _)
    have hl : (decide ((zmo y, j, yy) ∈ zFL) && (decide ((zFT yy).2.2.2 = false) || (decide ((zmn y).name = "<init>") && decide ((zFT yy).1 = zon (zmo y))))) = true := hl
    simp only [Bool.and_eq_true, Bool.or_eq_true, decide_eq_true_eq] at hl
    exact z_put hs I kk (fun ws j a ci kd vs v r g1 g2 g3 g4 g5 g6 g7 w => z_fput hX0 (zFL_ok _ hl.1) hl.2 hd g1 g2 g3 g4 g5 g6 g7 w)
  | new j =>
    obtain ⟨hd, e, hl⟩ := zrok1 hr (Nat.succ_ne_zero _)
    have hs : (if k = 9 then (if zcs st ≤ 8 then some (.inr (.inr (.inr yy, 1, 6))) else none) else znew zcf c9 nx L st h) = some (.inl (pc', L', st', h', dc, ds)) := hs
    have hl : ((decide (k = 9) && decide ((y, pc, j, yy) ∈ zTL) && decide (zmh y = [])) || (decide (k ≠ 9) && decide ((zmo y, j, c9) ∈ zCL) && decide (c9 < 11))) = true := hl
    simp only [Bool.and_eq_true, Bool.or_eq_true, decide_eq_true_eq] at hl
    split at hs
    · split at hs <;> cases hs
    · next g =>
      have hl := hl.resolve_left (fun q => g q.1.1)
      exact z_new hX0 hl.2 (zCL_ok _ hl.1.2) hd e hs I hcl hsl kk
  | invokestatic j =>
    obtain ⟨hd, rfl, hl⟩ := zrok1 hr (Nat.succ_ne_zero _)
    replace hs : (if k = 10 then zcopy (pc + 3) L st h else if k = 12 then zmm (fun x y => if x < y then y else x) (pc + 3) L st h else if k = 13 then zmm (fun x y => if y < x then y else x) (pc + 3) L st h else zcall n yy (pc + 3) st) = some (.inl (pc', L', st', h', dc, ds)) := hs
    replace hl : (if k = 12 ∨ k = 13 then decide ((zmo y, j, k) ∈ zXL) else if k = 10 then decide (zon (zmo y) = "java/util/Arrays" ∧ j = 150) else (decide ((zmo y, j, yy) ∈ zSL) && decide (yy < 247) && decide (yy ≠ zlaw) && decide (zmp yy = n))) = true := hl
    split at hs
    · next q9 =>
      subst q9
      rw [if_neg (by decide), if_pos rfl] at hl
      obtain ⟨ho, rfl⟩ := of_decide_eq_true hl
      exact z_copy hX0 hd rfl (by rw [ho]; exact zj_cp1) hlsz hs I kk
    · split at hs
      · next q1 q =>
        subst q
        replace hl : zXok (zmo y, j, 12) := zXL_ok _ (of_decide_eq_true hl)
        obtain ⟨l1, l2, l3, l4⟩ := (show Jvm.Cond.methodLink (zon (zmo y)) j Lib.Math.max.name ∈ zB ∧ Jvm.Cond.static Lib.Math.max.name ∈ zB ∧ Jvm.Cond.initialized "java/lang/Math" ∈ zB ∧ Jvm.Cond.code Lib.Math.max.name Lib.Math.max.code 2 (some .int) ∈ zB from hl)
        refine z_mm _ hs I kk (fun x y r g w => va_mmax hx hb hlsz hown (hts _ l1) (hts _ l2) (hts _ l3) (hts _ l4) (by omega) (by omega) (by omega) (by omega) hd w)
      · split at hs
        · next q1 q2 q =>
          subst q
          replace hl : zXok (zmo y, j, 13) := zXL_ok _ (of_decide_eq_true hl)
          obtain ⟨l1, l2, l3, l4⟩ := (show Jvm.Cond.methodLink (zon (zmo y)) j Lib.Math.min.name ∈ zB ∧ Jvm.Cond.static Lib.Math.min.name ∈ zB ∧ Jvm.Cond.initialized "java/lang/Math" ∈ zB ∧ Jvm.Cond.code Lib.Math.min.name Lib.Math.min.code 2 (some .int) ∈ zB from hl)
          refine z_mm _ hs I kk (fun x y r g w => va_mmin hx hb hlsz hown (hts _ l1) (hts _ l2) (hts _ l3) (hts _ l4) (by omega) (by omega) (by omega) (by omega) hd w)
        · exact absurd hs zcall_ne
  | invokespecial j =>
    obtain ⟨hd, rfl, hl⟩ := zrok1 hr (Nat.succ_ne_zero _)
    replace hs : (if k = 8 then zoi (pc + 3) L st h else if k = 7 then zcallV n c9 yy (pc + 3) st h else zcallI n yy (pc + 3) st) = some (.inl (pc', L', st', h', dc, ds)) := hs
    replace hl : (if k = 8 then decide ((zmo y, j) ∈ zOL) else if k = 7 then decide ((zmo y, j, yy, c9) ∈ zGL) && decide (yy < 247) && decide (yy ≠ zlaw) && decide (zmp yy = n) && decide (c9 < 11) && decide (zmh yy = []) else decide ((zmo y, j, yy) ∈ zIL) && decide (yy < 247) && decide (yy ≠ zlaw) && decide (zmp yy = n) && decide (zmh yy = []) && decide (zmr yy = none)) = true := hl
    split at hs
    · next q =>
      rw [if_pos q] at hl
      have hl := zOL_ok _ (of_decide_eq_true hl)
      obtain ⟨I1, I2, I3⟩ := I
      unfold zoi at hs
      split at hs
      · split at hs
        · next g =>
          obtain ⟨_, _, rfl, hv, hr9⟩ := I2
          obtain ⟨a, -, rfl⟩ := id hv
          exact W.objInit hx hb hown (hts _ hl) (hts _ zOi1) (hts _ zOi2) (g := F0 m pc ls _) rfl hlsz.symm rfl hd (by omega) (by show 2 * 0 + _ + 12 ≤ _; rw [zS_cs hr9]; omega) (zgo_kk hs kk I1 hr9 I3)
        · cases hs
      · cases hs
    · split at hs
      · exact absurd hs zcallV_ne
      · exact absurd hs zcallI_ne
  | invokevirtual j =>
    obtain ⟨hd, e, hl⟩ := zrok1 hr (Nat.succ_ne_zero _)
    replace hs : (if k = 11 then zgetc nx L st h else zcallV n c9 yy nx st h) = some (.inl (pc', L', st', h', dc, ds)) := hs
    replace hl : (if k = 11 then decide (zon (zmo y) = "java/util/Arrays" ∧ j = 86) else (if k = 6 then decide ((zmo y, j, yy, c9) ∈ zUL) else decide ((zmo y, j, yy, c9) ∈ zVL)) && decide (yy < 247) && decide (yy ≠ zlaw) && decide (zmp yy = n) && decide (c9 < 11) && decide (zmh yy = [])) = true := hl
    split at hs
    · next q9 =>
      rw [if_pos q9] at hl
      obtain ⟨ho, rfl⟩ := of_decide_eq_true hl
      exact z_getc hX0 hd e (by rw [ho]; exact zj_gc1) hlsz hs I kk
    · exact absurd hs zcallV_ne
  | invokeinterface j q => exact absurd hs zcallV_ne
  | aastore =>
    obtain ⟨hd, rfl, -⟩ := zrok1 hr (Nat.succ_ne_zero _)
    exact z_aast hs I kk (fun ws k k2 a b n n2 f f2 i r g1 g2 g3 g4 g5 g6 w => va_astqM (D := D) hx hb hK g1 g2 g3 k 3 g4 rfl (z_any hK hSP.2.2.2.2.1 g1 g5) g6 hd w)
  | anewarray j =>
    obtain ⟨hd, e, hl⟩ := zrok1 hr (Nat.succ_ne_zero _)
    replace hl : (decide (zon (zmo y) = "java/util/Arrays" ∧ j = 2) || decide (zon (zmo y) = "java/util/ArrayList" ∧ j = 7)) = true := hl
    simp only [Bool.or_eq_true, decide_eq_true_eq] at hl
    refine z_newq hX0 hd e ?_ hs I hcl hsl kk
    rcases hl with ⟨ho, rfl⟩ | ⟨ho, rfl⟩
    · rw [ho]
      exact zj_an1
    · rw [ho]
      exact zj_an2
  | multianewarray j q =>
    obtain ⟨hd, e, hl⟩ := zrok1 hr (Nat.succ_ne_zero _)
    obtain ⟨ho, rfl, rfl⟩ := of_decide_eq_true (show decide (zon (zmo y) = "ScrubwardModel" ∧ j = 29 ∧ q = 2) = true from hl)
    exact z_multi hX0 hd e (by rw [ho]; exact zj_mn) hs I hcl hsl kk
  | ireturn => exact absurd hs zirt_ne
  | lreturn => exact absurd hs zlrt_ne
  | dreturn => exact absurd hs zdrt_ne
  | areturn => exact absurd hs zart_ne
  | return_ => exact absurd hs zvrt_ne
  | _ => exact absurd hs (by intro q; cases (show none = some _ from q))
end ZY
end zg7
section zg8
def zc_X0_init : List zRow := [(0, .aload_n 0, 1, 0, 0, 0, 0), (1, .invokespecial 3, 4, 8, 0, 0, 0), (4, .aload_n 0, 5, 0, 0, 0, 0), (5, .new 9, 8, 0, 0, 0, 2), (8, .dup, 9, 0, 0, 0, 0), (9, .bipush 16, 11, 0, 0, 0, 0), (11, .invokespecial 11, 14, 0, 24, 1, 0), (14, .putfield 14, 17, 0, 0, 0, 0), (17, .aload_n 0, 18, 0, 0, 0, 0), (18, .new 9, 21, 0, 0, 0, 2), (21, .dup, 22, 0, 0, 0, 0), (22, .bipush 64, 24, 0, 0, 0, 0), (24, .invokespecial 11, 27, 0, 24, 1, 0), (27, .putfield 20, 30, 1, 1, 0, 0), (30, .return_, 31, 0, 0, 0, 0)]
def zc_X0_isDataColumn : List zRow := [(0, .iload_n 0, 1, 0, 0, 0, 0), (1, .invokestatic 23, 4, 0, 229, 1, 0), (4, .istore_n 1, 5, 0, 0, 0, 0), (5, .iload_n 1, 6, 0, 0, 0, 0), (6, .iconst 3, 7, 0, 0, 0, 0), (7, .if_icmp .lt 14, 10, 21, 0, 0, 0), (10, .iload_n 1, 11, 0, 0, 0, 0), (11, .iconst 2, 12, 0, 0, 0, 0), (12, .irem, 13, 0, 0, 0, 0), (13, .iconst 1, 14, 0, 0, 0, 0), (14, .if_icmp .ne 7, 17, 21, 0, 0, 0), (17, .iconst 1, 18, 0, 0, 0, 0), (18, .goto 4, 21, 22, 0, 0, 0), (21, .iconst 0, 22, 0, 0, 0, 0), (22, .ireturn, 23, 1, 0, 0, 0)]
def zc_X0_dataColumnsOf : List zRow := [(0, .iconst 0, 1, 0, 0, 0, 0), (1, .istore_n 1, 2, 0, 0, 0, 0), (2, .iconst 1, 3, 0, 0, 0, 0), (3, .istore_n 2, 4, 0, 0, 0, 0), (4, .iload_n 2, 5, 0, 0, 0, 0), (5, .iconst 1, 6, 0, 0, 0, 0), (6, .iload_n 0, 7, 0, 0, 0, 0), (7, .ishl, 8, 0, 0, 0, 0), (8, .if_icmp .ge 19, 11, 27, 0, 0, 0), (11, .iload_n 2, 12, 0, 0, 0, 0), (12, .invokestatic 29, 15, 0, 1, 1, 0), (15, .ifCond .eq 6, 18, 21, 0, 0, 0), (18, .iinc 1 1, 21, 0, 0, 0, 0), (21, .iinc 2 1, 24, 0, 0, 0, 0), (24, .goto (-20), 27, 4, 0, 0, 0), (27, .iload_n 1, 28, 0, 0, 0, 0), (28, .ireturn, 29, 0, 0, 0, 0)]
def zc_X0_make : List zRow := [(0, .aload_n 0, 1, 0, 0, 0, 0), (1, .iload_n 1, 2, 0, 0, 0, 0), (2, .putfield 33, 5, 2, 2, 0, 0), (5, .aload_n 0, 6, 0, 0, 0, 0), (6, .iload_n 2, 7, 0, 0, 0, 0), (7, .putfield 37, 10, 3, 3, 0, 0), (10, .aload_n 0, 11, 0, 0, 0, 0), (11, .iload_n 1, 12, 0, 0, 0, 0), (12, .iload_n 2, 13, 0, 0, 0, 0), (13, .iadd, 14, 0, 0, 0, 0), (14, .putfield 40, 17, 4, 4, 0, 0), (17, .aload_n 0, 18, 0, 0, 0, 0), (18, .invokevirtual 43, 21, 0, 4, 0, 0), (21, .iconst 0, 22, 0, 0, 0, 0), (22, .istore_n 3, 23, 0, 0, 0, 0), (23, .iload_n 3, 24, 0, 0, 0, 0), (24, .iload_n 2, 25, 0, 0, 0, 0), (25, .if_icmp .ge 22, 28, 47, 0, 0, 0), (28, .aload_n 0, 29, 0, 0, 0, 0), (29, .getfield 14, 32, 0, 0, 0, 0), (32, .iload_n 1, 33, 0, 0, 0, 0), (33, .iload_n 3, 34, 0, 0, 0, 0), (34, .iadd, 35, 0, 0, 0, 0), (35, .iconst 1, 36, 0, 0, 0, 0), (36, .iload_n 3, 37, 0, 0, 0, 0), (37, .ishl, 38, 0, 0, 0, 0), (38, .invokevirtual 46, 41, 0, 26, 2, 2), (41, .iinc 3 1, 44, 0, 0, 0, 0), (44, .goto (-21), 47, 23, 0, 0, 0), (47, .aload_n 0, 48, 0, 0, 0, 0), (48, .getfield 20, 51, 1, 1, 0, 0), (51, .iconst (-1), 52, 0, 0, 0, 0), (52, .invokevirtual 50, 55, 0, 27, 1, 2), (55, .aload_n 0, 56, 0, 0, 0, 0), (56, .getfield 20, 59, 1, 1, 0, 0), (59, .iconst 0, 60, 0, 0, 0, 0), (60, .iconst 0, 61, 0, 0, 0, 0), (61, .invokevirtual 46, 64, 0, 26, 2, 2), (64, .iconst 0, 65, 0, 0, 0, 0), (65, .istore_n 3, 66, 0, 0, 0, 0), (66, .iload_n 3, 67, 0, 0, 0, 0), (67, .aload_n 0, 68, 0, 0, 0, 0), (68, .getfield 40, 71, 4, 4, 0, 0), (71, .if_icmp .ge 27, 74, 98, 0, 0, 0), (74, .aload_n 0, 75, 0, 0, 0, 0), (75, .getfield 20, 78, 1, 1, 0, 0), (78, .aload_n 0, 79, 0, 0, 0, 0), (79, .getfield 14, 82, 0, 0, 0, 0), (82, .iload_n 3, 83, 0, 0, 0, 0), (83, .invokevirtual 53, 86, 0, 25, 1, 2), (86, .iconst 1, 87, 0, 0, 0, 0), (87, .iload_n 3, 88, 0, 0, 0, 0), (88, .ishl, 89, 0, 0, 0, 0), (89, .invokevirtual 46, 92, 0, 26, 2, 2), (92, .iinc 3 1, 95, 0, 0, 0, 0), (95, .goto (-29), 98, 66, 0, 0, 0), (98, .return_, 99, 0, 0, 0, 0)]
def zc_X0_makeDataColumns : List zRow := [(0, .iconst 0, 1, 0, 0, 0, 0), (1, .istore_n 1, 2, 0, 0, 0, 0), (2, .iconst 3, 3, 0, 0, 0, 0), (3, .istore_n 2, 4, 0, 0, 0, 0), (4, .iload_n 2, 5, 0, 0, 0, 0), (5, .aload_n 0, 6, 0, 0, 0, 0), (6, .getfield 37, 9, 3, 3, 0, 0), (9, .if_icmp .gt 55, 12, 64, 0, 0, 0), (12, .iconst 1, 13, 0, 0, 0, 0), (13, .istore_n 3, 14, 0, 0, 0, 0), (14, .iload_n 3, 15, 0, 0, 0, 0), (15, .iconst 1, 16, 0, 0, 0, 0), (16, .aload_n 0, 17, 0, 0, 0, 0), (17, .getfield 37, 20, 3, 3, 0, 0), (20, .ishl, 21, 0, 0, 0, 0), (21, .if_icmp .ge 37, 24, 58, 0, 0, 0), (24, .iload_n 1, 25, 0, 0, 0, 0), (25, .aload_n 0, 26, 0, 0, 0, 0), (26, .getfield 33, 29, 2, 2, 0, 0), (29, .if_icmp .ge 29, 32, 58, 0, 0, 0), (32, .iload_n 3, 33, 0, 0, 0, 0), (33, .invokestatic 23, 36, 0, 229, 1, 0), (36, .iload_n 2, 37, 0, 0, 0, 0), (37, .if_icmp .ne 15, 40, 52, 0, 0, 0), (40, .aload_n 0, 41, 0, 0, 0, 0), (41, .getfield 14, 44, 0, 0, 0, 0), (44, .iload_n 1, 45, 0, 0, 0, 0), (45, .iload_n 3, 46, 0, 0, 0, 0), (46, .invokevirtual 46, 49, 0, 26, 2, 2), (49, .iinc 1 1, 52, 0, 0, 0, 0), (52, .iinc 3 1, 55, 0, 0, 0, 0), (55, .goto (-41), 58, 14, 0, 0, 0), (58, .iinc 2 2, 61, 0, 0, 0, 0), (61, .goto (-57), 64, 4, 0, 0, 0), (64, .return_, 65, 0, 0, 0, 0)]
def zc_X0_words : List zRow := [(0, .iconst 1, 1, 0, 0, 0, 0), (1, .aload_n 0, 2, 0, 0, 0, 0), (2, .getfield 40, 5, 4, 4, 0, 0), (5, .ishl, 6, 0, 0, 0, 0), (6, .ireturn, 7, 0, 0, 0, 0)]
def zc_X0_dataMask : List zRow := [(0, .iconst 1, 1, 0, 0, 0, 0), (1, .aload_n 0, 2, 0, 0, 0, 0), (2, .getfield 33, 5, 2, 2, 0, 0), (5, .ishl, 6, 0, 0, 0, 0), (6, .iconst 1, 7, 0, 0, 0, 0), (7, .isub, 8, 0, 0, 0, 0), (8, .ireturn, 9, 0, 0, 0, 0)]
def zc_X0_hasBit : List zRow := [(0, .iload_n 1, 1, 0, 0, 0, 0), (1, .ifCond .lt 15, 4, 16, 0, 0, 0), (4, .iload_n 1, 5, 0, 0, 0, 0), (5, .aload_n 0, 6, 0, 0, 0, 0), (6, .getfield 40, 9, 4, 4, 0, 0), (9, .if_icmp .ge 7, 12, 16, 0, 0, 0), (12, .iconst 1, 13, 0, 0, 0, 0), (13, .goto 4, 16, 17, 0, 0, 0), (16, .iconst 0, 17, 0, 0, 0, 0), (17, .ireturn, 18, 1, 0, 0, 0)]
def zc_X0_syndromeOf : List zRow := [(0, .iconst 0, 1, 0, 0, 0, 0), (1, .istore_n 2, 2, 0, 0, 0, 0), (2, .iconst 0, 3, 0, 0, 0, 0), (3, .istore_n 3, 4, 0, 0, 0, 0), (4, .iload_n 3, 5, 0, 0, 0, 0), (5, .aload_n 0, 6, 0, 0, 0, 0), (6, .getfield 40, 9, 4, 4, 0, 0), (9, .if_icmp .ge 29, 12, 38, 0, 0, 0), (12, .iload_n 1, 13, 0, 0, 0, 0), (13, .iload_n 3, 14, 0, 0, 0, 0), (14, .ishr, 15, 0, 0, 0, 0), (15, .iconst 1, 16, 0, 0, 0, 0), (16, .iand, 17, 0, 0, 0, 0), (17, .iconst 1, 18, 0, 0, 0, 0), (18, .if_icmp .ne 14, 21, 32, 0, 0, 0), (21, .iload_n 2, 22, 0, 0, 0, 0), (22, .aload_n 0, 23, 0, 0, 0, 0), (23, .getfield 14, 26, 0, 0, 0, 0), (26, .iload_n 3, 27, 0, 0, 0, 0), (27, .invokevirtual 53, 30, 0, 25, 1, 2), (30, .ixor, 31, 0, 0, 0, 0), (31, .istore_n 2, 32, 0, 0, 0, 0), (32, .iinc 3 1, 35, 0, 0, 0, 0), (35, .goto (-31), 38, 4, 0, 0, 0), (38, .iload_n 2, 39, 0, 0, 0, 0), (39, .ireturn, 40, 0, 0, 0, 0)]
def zc_X0_turnOf : List zRow := [(0, .aload_n 0, 1, 0, 0, 0, 0), (1, .getfield 20, 4, 1, 1, 0, 0), (4, .aload_n 0, 5, 0, 0, 0, 0), (5, .iload_n 1, 6, 0, 0, 0, 0), (6, .invokevirtual 56, 9, 0, 8, 1, 0), (9, .invokevirtual 53, 12, 0, 25, 1, 2), (12, .ireturn, 13, 0, 0, 0, 0)]
def zc_X0_isClean : List zRow := [(0, .aload_n 0, 1, 0, 0, 0, 0), (1, .iload_n 1, 2, 0, 0, 0, 0), (2, .invokevirtual 56, 5, 0, 8, 1, 0), (5, .ifCond .ne 7, 8, 12, 0, 0, 0), (8, .iconst 1, 9, 0, 0, 0, 0), (9, .goto 4, 12, 13, 0, 0, 0), (12, .iconst 0, 13, 0, 0, 0, 0), (13, .ireturn, 14, 1, 0, 0, 0)]
def zc_X0_verdictOf : List zRow := [(0, .aload_n 0, 1, 0, 0, 0, 0), (1, .iload_n 1, 2, 0, 0, 0, 0), (2, .invokevirtual 59, 5, 0, 9, 1, 0), (5, .istore_n 2, 6, 0, 0, 0, 0), (6, .iload_n 2, 7, 0, 0, 0, 0), (7, .ifCond .ne 5, 10, 12, 0, 0, 0), (10, .iconst 0, 11, 0, 0, 0, 0), (11, .ireturn, 12, 0, 0, 0, 0), (12, .iload_n 2, 13, 0, 0, 0, 0), (13, .iconst (-1), 14, 0, 0, 0, 0), (14, .if_icmp .ne 7, 17, 21, 0, 0, 0), (17, .iconst 2, 18, 0, 0, 0, 0), (18, .goto 4, 21, 22, 0, 0, 0), (21, .iconst 1, 22, 0, 0, 0, 0), (22, .ireturn, 23, 0, 0, 0, 0)]
def zc_X0_bitOf : List zRow := [(0, .iload_n 0, 1, 0, 0, 0, 0), (1, .ifCond .eq 8, 4, 9, 0, 0, 0), (4, .iload_n 0, 5, 0, 0, 0, 0), (5, .iconst (-1), 6, 0, 0, 0, 0), (6, .if_icmp .ne 7, 9, 13, 0, 0, 0), (9, .iconst (-1), 10, 0, 0, 0, 0), (10, .goto 9, 13, 19, 0, 0, 0), (13, .iload_n 0, 14, 0, 0, 0, 0), (14, .iconst 1, 15, 0, 0, 0, 0), (15, .isub, 16, 0, 0, 0, 0), (16, .invokestatic 23, 19, 0, 229, 1, 0), (19, .ireturn, 20, 0, 0, 0, 0)]
def zc_X0_dataOf : List zRow := [(0, .aload_n 0, 1, 0, 0, 0, 0), (1, .iload_n 1, 2, 0, 0, 0, 0), (2, .invokevirtual 59, 5, 0, 9, 1, 0), (5, .istore_n 2, 6, 0, 0, 0, 0), (6, .iload_n 2, 7, 0, 0, 0, 0), (7, .iconst (-1), 8, 0, 0, 0, 0), (8, .if_icmp .ne 7, 11, 15, 0, 0, 0), (11, .iconst (-1), 12, 0, 0, 0, 0), (12, .goto 11, 15, 23, 0, 0, 0), (15, .iload_n 1, 16, 0, 0, 0, 0), (16, .iload_n 2, 17, 0, 0, 0, 0), (17, .ixor, 18, 0, 0, 0, 0), (18, .aload_n 0, 19, 0, 0, 0, 0), (19, .invokevirtual 62, 22, 0, 6, 0, 0), (22, .iand, 23, 0, 0, 0, 0), (23, .ireturn, 24, 0, 0, 0, 0)]
def zc_X0_wordOf : List zRow := [(0, .iload_n 1, 1, 0, 0, 0, 0), (1, .aload_n 0, 2, 0, 0, 0, 0), (2, .iload_n 1, 3, 0, 0, 0, 0), (3, .invokevirtual 56, 6, 0, 8, 1, 0), (6, .aload_n 0, 7, 0, 0, 0, 0), (7, .getfield 33, 10, 2, 2, 0, 0), (10, .ishl, 11, 0, 0, 0, 0), (11, .ior, 12, 0, 0, 0, 0), (12, .ireturn, 13, 0, 0, 0, 0)]
def zc_X0_wronglyMended : List zRow := [(0, .iconst 0, 1, 0, 0, 0, 0), (1, .istore_n 2, 2, 0, 0, 0, 0), (2, .iconst 0, 3, 0, 0, 0, 0), (3, .istore_n 3, 4, 0, 0, 0, 0), (4, .iload_n 3, 5, 0, 0, 0, 0), (5, .aload_n 0, 6, 0, 0, 0, 0), (6, .getfield 40, 9, 4, 4, 0, 0), (9, .if_icmp .ge 76, 12, 85, 0, 0, 0), (12, .iload_n 3, 13, 0, 0, 0, 0), (13, .iconst 1, 14, 0, 0, 0, 0), (14, .iadd, 15, 0, 0, 0, 0), (15, .istore 4, 17, 0, 0, 0, 0), (17, .iload 4, 19, 0, 0, 0, 0), (19, .aload_n 0, 20, 0, 0, 0, 0), (20, .getfield 40, 23, 4, 4, 0, 0), (23, .if_icmp .ge 56, 26, 79, 0, 0, 0), (26, .aload_n 0, 27, 0, 0, 0, 0), (27, .getfield 14, 30, 0, 0, 0, 0), (30, .iload_n 3, 31, 0, 0, 0, 0), (31, .invokevirtual 53, 34, 0, 25, 1, 2), (34, .aload_n 0, 35, 0, 0, 0, 0), (35, .getfield 14, 38, 0, 0, 0, 0), (38, .iload 4, 40, 0, 0, 0, 0), (40, .invokevirtual 53, 43, 0, 25, 1, 2), (43, .ixor, 44, 0, 0, 0, 0), (44, .istore 5, 46, 0, 0, 0, 0), (46, .iload_n 2, 47, 0, 0, 0, 0), (47, .iload_n 1, 48, 0, 0, 0, 0), (48, .iconst 2, 49, 0, 0, 0, 0), (49, .if_icmp .ne 12, 52, 61, 0, 0, 0), (52, .aload_n 0, 53, 0, 0, 0, 0), (53, .iload 5, 55, 0, 0, 0, 0), (55, .invokevirtual 66, 58, 0, 17, 1, 0), (58, .goto 13, 61, 71, 0, 0, 0), (61, .aload_n 0, 62, 0, 0, 0, 0), (62, .iload 5, 64, 0, 0, 0, 0), (64, .iload 4, 66, 0, 0, 0, 0), (66, .iconst 1, 67, 0, 0, 0, 0), (67, .iadd, 68, 0, 0, 0, 0), (68, .invokevirtual 69, 71, 0, 16, 2, 0), (71, .iadd, 72, 0, 0, 0, 0), (72, .istore_n 2, 73, 0, 0, 0, 0), (73, .iinc 4 1, 76, 0, 0, 0, 0), (76, .goto (-59), 79, 17, 0, 0, 0), (79, .iinc 3 1, 82, 0, 0, 0, 0), (82, .goto (-78), 85, 4, 0, 0, 0), (85, .iload_n 2, 86, 0, 0, 0, 0), (86, .ireturn, 87, 0, 0, 0, 0)]
def zc_X0_thirdBits : List zRow := [(0, .iconst 0, 1, 0, 0, 0, 0), (1, .istore_n 3, 2, 0, 0, 0, 0), (2, .iload_n 2, 3, 0, 0, 0, 0), (3, .istore 4, 5, 0, 0, 0, 0), (5, .iload 4, 7, 0, 0, 0, 0), (7, .aload_n 0, 8, 0, 0, 0, 0), (8, .getfield 40, 11, 4, 4, 0, 0), (11, .if_icmp .ge 27, 14, 38, 0, 0, 0), (14, .iload_n 3, 15, 0, 0, 0, 0), (15, .aload_n 0, 16, 0, 0, 0, 0), (16, .iload_n 1, 17, 0, 0, 0, 0), (17, .aload_n 0, 18, 0, 0, 0, 0), (18, .getfield 14, 21, 0, 0, 0, 0), (21, .iload 4, 23, 0, 0, 0, 0), (23, .invokevirtual 53, 26, 0, 25, 1, 2), (26, .ixor, 27, 0, 0, 0, 0), (27, .invokevirtual 66, 30, 0, 17, 1, 0), (30, .iadd, 31, 0, 0, 0, 0), (31, .istore_n 3, 32, 0, 0, 0, 0), (32, .iinc 4 1, 35, 0, 0, 0, 0), (35, .goto (-30), 38, 5, 0, 0, 0), (38, .iload_n 3, 39, 0, 0, 0, 0), (39, .ireturn, 40, 0, 0, 0, 0)]
def zc_X0_oneIfMended : List zRow := [(0, .aload_n 0, 1, 0, 0, 0, 0), (1, .getfield 20, 4, 1, 1, 0, 0), (4, .iload_n 1, 5, 0, 0, 0, 0), (5, .invokevirtual 53, 8, 0, 25, 1, 2), (8, .ifCond .le 7, 11, 15, 0, 0, 0), (11, .iconst 1, 12, 0, 0, 0, 0), (12, .goto 4, 15, 16, 0, 0, 0), (15, .iconst 0, 16, 0, 0, 0, 0), (16, .ireturn, 17, 0, 0, 0, 0)]
def zc_X0_isInOrder : List zRow := [(0, .iconst 0, 1, 0, 0, 0, 0), (1, .istore_n 1, 2, 0, 0, 0, 0), (2, .iload_n 1, 3, 0, 0, 0, 0), (3, .aload_n 0, 4, 0, 0, 0, 0), (4, .getfield 40, 7, 4, 4, 0, 0), (7, .if_icmp .ge 66, 10, 73, 0, 0, 0), (10, .aload_n 0, 11, 0, 0, 0, 0), (11, .getfield 14, 14, 0, 0, 0, 0), (14, .iload_n 1, 15, 0, 0, 0, 0), (15, .invokevirtual 53, 18, 0, 25, 1, 2), (18, .invokestatic 23, 21, 0, 229, 1, 0), (21, .iconst 2, 22, 0, 0, 0, 0), (22, .irem, 23, 0, 0, 0, 0), (23, .ifCond .ne 5, 26, 28, 0, 0, 0), (26, .iconst 0, 27, 0, 0, 0, 0), (27, .ireturn, 28, 1, 0, 0, 0), (28, .iload_n 1, 29, 0, 0, 0, 0), (29, .iconst 1, 30, 0, 0, 0, 0), (30, .iadd, 31, 0, 0, 0, 0), (31, .istore_n 2, 32, 0, 0, 0, 0), (32, .iload_n 2, 33, 0, 0, 0, 0), (33, .aload_n 0, 34, 0, 0, 0, 0), (34, .getfield 40, 37, 4, 4, 0, 0), (37, .if_icmp .ge 30, 40, 67, 0, 0, 0), (40, .aload_n 0, 41, 0, 0, 0, 0), (41, .getfield 14, 44, 0, 0, 0, 0), (44, .iload_n 1, 45, 0, 0, 0, 0), (45, .invokevirtual 53, 48, 0, 25, 1, 2), (48, .aload_n 0, 49, 0, 0, 0, 0), (49, .getfield 14, 52, 0, 0, 0, 0), (52, .iload_n 2, 53, 0, 0, 0, 0), (53, .invokevirtual 53, 56, 0, 25, 1, 2), (56, .if_icmp .ne 5, 59, 61, 0, 0, 0), (59, .iconst 0, 60, 0, 0, 0, 0), (60, .ireturn, 61, 1, 0, 0, 0), (61, .iinc 2 1, 64, 0, 0, 0, 0), (64, .goto (-32), 67, 32, 0, 0, 0), (67, .iinc 1 1, 70, 0, 0, 0, 0), (70, .goto (-68), 73, 2, 0, 0, 0), (73, .iconst 1, 74, 0, 0, 0, 0), (74, .ireturn, 75, 1, 0, 0, 0)]
def zc_X1_init : List zRow := [(0, .aload_n 0, 1, 0, 0, 0, 0), (1, .invokespecial 3, 4, 8, 0, 0, 0), (4, .aload_n 0, 5, 0, 0, 0, 0), (5, .new 9, 8, 0, 0, 0, 2), (8, .dup, 9, 0, 0, 0, 0), (9, .bipush 24, 11, 0, 0, 0, 0), (11, .invokespecial 11, 14, 0, 24, 1, 0), (14, .putfield 14, 17, 0, 5, 0, 0), (17, .aload_n 0, 18, 0, 0, 0, 0), (18, .new 9, 21, 0, 0, 0, 2), (21, .dup, 22, 0, 0, 0, 0), (22, .bipush 24, 24, 0, 0, 0, 0), (24, .invokespecial 11, 27, 0, 24, 1, 0), (27, .putfield 20, 30, 1, 6, 0, 0), (30, .aload_n 0, 31, 0, 0, 0, 0), (31, .new 9, 34, 0, 0, 0, 2), (34, .dup, 35, 0, 0, 0, 0), (35, .bipush 24, 37, 0, 0, 0, 0), (37, .invokespecial 11, 40, 0, 24, 1, 0), (40, .putfield 23, 43, 2, 7, 0, 0), (43, .return_, 44, 0, 0, 0, 0)]
def zc_X1_isFull : List zRow := [(0, .aload_n 0, 1, 0, 0, 0, 0), (1, .getfield 26, 4, 3, 8, 0, 0), (4, .bipush 24, 6, 0, 0, 0, 0), (6, .if_icmp .lt 7, 9, 13, 0, 0, 0), (9, .iconst 1, 10, 0, 0, 0, 0), (10, .goto 4, 13, 14, 0, 0, 0), (13, .iconst 0, 14, 0, 0, 0, 0), (14, .ireturn, 15, 1, 0, 0, 0)]
def zc_X1_add : List zRow := [(0, .aload_n 0, 1, 0, 0, 0, 0), (1, .invokevirtual 30, 4, 0, 20, 0, 1), (4, .ifCond .eq 4, 7, 8, 0, 0, 0), (7, .return_, 8, 0, 0, 0, 0), (8, .aload_n 0, 9, 0, 0, 0, 0), (9, .getfield 14, 12, 0, 5, 0, 0), (12, .aload_n 0, 13, 0, 0, 0, 0), (13, .getfield 26, 16, 3, 8, 0, 0), (16, .iload_n 1, 17, 0, 0, 0, 0), (17, .invokevirtual 34, 20, 0, 26, 2, 2), (20, .aload_n 0, 21, 0, 0, 0, 0), (21, .getfield 20, 24, 1, 6, 0, 0), (24, .aload_n 0, 25, 0, 0, 0, 0), (25, .getfield 26, 28, 3, 8, 0, 0), (28, .iload_n 2, 29, 0, 0, 0, 0), (29, .invokevirtual 34, 32, 0, 26, 2, 2), (32, .aload_n 0, 33, 0, 0, 0, 0), (33, .getfield 23, 36, 2, 7, 0, 0), (36, .aload_n 0, 37, 0, 0, 0, 0), (37, .getfield 26, 40, 3, 8, 0, 0), (40, .iload_n 3, 41, 0, 0, 0, 0), (41, .invokevirtual 34, 44, 0, 26, 2, 2), (44, .aload_n 0, 45, 0, 0, 0, 0), (45, .dup, 46, 0, 0, 0, 0), (46, .getfield 26, 49, 3, 8, 0, 0), (49, .iconst 1, 50, 0, 0, 0, 0), (50, .iadd, 51, 0, 0, 0, 0), (51, .putfield 26, 54, 3, 8, 0, 0), (54, .return_, 55, 0, 0, 0, 0)]
def zc_X1_keepBitsBelow : List zRow := [(0, .aload_n 0, 1, 0, 0, 0, 0), (1, .getfield 26, 4, 3, 8, 0, 0), (4, .istore_n 2, 5, 0, 0, 0, 0), (5, .aload_n 0, 6, 0, 0, 0, 0), (6, .iconst 0, 7, 0, 0, 0, 0), (7, .putfield 26, 10, 3, 8, 0, 0), (10, .iconst 0, 11, 0, 0, 0, 0), (11, .istore_n 3, 12, 0, 0, 0, 0), (12, .iload_n 3, 13, 0, 0, 0, 0), (13, .iload_n 2, 14, 0, 0, 0, 0), (14, .if_icmp .ge 51, 17, 65, 0, 0, 0), (17, .aload_n 0, 18, 0, 0, 0, 0), (18, .getfield 20, 21, 1, 6, 0, 0), (21, .iload_n 3, 22, 0, 0, 0, 0), (22, .invokevirtual 38, 25, 0, 25, 1, 2), (25, .iconst 1, 26, 0, 0, 0, 0), (26, .iload_n 1, 27, 0, 0, 0, 0), (27, .ishl, 28, 0, 0, 0, 0), (28, .if_icmp .ge 31, 31, 59, 0, 0, 0), (31, .aload_n 0, 32, 0, 0, 0, 0), (32, .aload_n 0, 33, 0, 0, 0, 0), (33, .getfield 14, 36, 0, 5, 0, 0), (36, .iload_n 3, 37, 0, 0, 0, 0), (37, .invokevirtual 38, 40, 0, 25, 1, 2), (40, .aload_n 0, 41, 0, 0, 0, 0), (41, .getfield 20, 44, 1, 6, 0, 0), (44, .iload_n 3, 45, 0, 0, 0, 0), (45, .invokevirtual 38, 48, 0, 25, 1, 2), (48, .aload_n 0, 49, 0, 0, 0, 0), (49, .getfield 23, 52, 2, 7, 0, 0), (52, .iload_n 3, 53, 0, 0, 0, 0), (53, .invokevirtual 38, 56, 0, 25, 1, 2), (56, .invokevirtual 42, 59, 0, 21, 3, 1), (59, .iinc 3 1, 62, 0, 0, 0, 0), (62, .goto (-50), 65, 12, 0, 0, 0), (65, .return_, 66, 0, 0, 0, 0)]
def zc_X1_countIn : List zRow := [(0, .iconst 0, 1, 0, 0, 0, 0), (1, .istore_n 3, 2, 0, 0, 0, 0), (2, .iconst 0, 3, 0, 0, 0, 0), (3, .istore 4, 5, 0, 0, 0, 0), (5, .iload 4, 7, 0, 0, 0, 0), (7, .aload_n 0, 8, 0, 0, 0, 0), (8, .getfield 26, 11, 3, 8, 0, 0), (11, .if_icmp .ge 38, 14, 49, 0, 0, 0), (14, .aload_n 0, 15, 0, 0, 0, 0), (15, .getfield 14, 18, 0, 5, 0, 0), (18, .iload 4, 20, 0, 0, 0, 0), (20, .invokevirtual 38, 23, 0, 25, 1, 2), (23, .iload_n 1, 24, 0, 0, 0, 0), (24, .if_icmp .lt 19, 27, 43, 0, 0, 0), (27, .aload_n 0, 28, 0, 0, 0, 0), (28, .getfield 14, 31, 0, 5, 0, 0), (31, .iload 4, 33, 0, 0, 0, 0), (33, .invokevirtual 38, 36, 0, 25, 1, 2), (36, .iload_n 2, 37, 0, 0, 0, 0), (37, .if_icmp .ge 6, 40, 43, 0, 0, 0), (40, .iinc 3 1, 43, 0, 0, 0, 0), (43, .iinc 4 1, 46, 0, 0, 0, 0), (46, .goto (-41), 49, 5, 0, 0, 0), (49, .iload_n 3, 50, 0, 0, 0, 0), (50, .ireturn, 51, 0, 0, 0, 0)]
def zc_X2_init : List zRow := [(0, .aload_n 0, 1, 0, 0, 0, 0), (1, .invokespecial 1, 4, 8, 0, 0, 0), (4, .aload_n 0, 5, 0, 0, 0, 0), (5, .iload_n 1, 6, 0, 0, 0, 0), (6, .ifCond .ge 7, 9, 13, 0, 0, 0), (9, .iconst 0, 10, 0, 0, 0, 0), (10, .goto 4, 13, 14, 0, 0, 0), (13, .iload_n 1, 14, 0, 0, 0, 0), (14, .newarray .int, 16, 0, 0, 0, 0), (16, .putfield 7, 19, 0, 9, 0, 0), (19, .return_, 20, 0, 0, 0, 0)]
def zc_X2_get : List zRow := [(0, .iload_n 1, 1, 0, 0, 0, 0), (1, .ifCond .lt 21, 4, 22, 0, 0, 0), (4, .iload_n 1, 5, 0, 0, 0, 0), (5, .aload_n 0, 6, 0, 0, 0, 0), (6, .getfield 7, 9, 0, 9, 0, 0), (9, .arraylength, 10, 0, 0, 0, 0), (10, .if_icmp .ge 12, 13, 22, 0, 0, 0), (13, .aload_n 0, 14, 0, 0, 0, 0), (14, .getfield 7, 17, 0, 9, 0, 0), (17, .iload_n 1, 18, 0, 0, 0, 0), (18, .iaload, 19, 0, 0, 0, 0), (19, .goto 4, 22, 23, 0, 0, 0), (22, .iconst 0, 23, 0, 0, 0, 0), (23, .ireturn, 24, 0, 0, 0, 0)]
def zc_X2_set : List zRow := [(0, .iload_n 1, 1, 0, 0, 0, 0), (1, .ifCond .lt 19, 4, 20, 0, 0, 0), (4, .iload_n 1, 5, 0, 0, 0, 0), (5, .aload_n 0, 6, 0, 0, 0, 0), (6, .getfield 7, 9, 0, 9, 0, 0), (9, .arraylength, 10, 0, 0, 0, 0), (10, .if_icmp .ge 10, 13, 20, 0, 0, 0), (13, .aload_n 0, 14, 0, 0, 0, 0), (14, .getfield 7, 17, 0, 9, 0, 0), (17, .iload_n 1, 18, 0, 0, 0, 0), (18, .iload_n 2, 19, 0, 0, 0, 0), (19, .iastore, 20, 0, 0, 0, 0), (20, .return_, 21, 0, 0, 0, 0)]
def zc_X2_fill : List zRow := [(0, .iconst 0, 1, 0, 0, 0, 0), (1, .istore_n 2, 2, 0, 0, 0, 0), (2, .iload_n 2, 3, 0, 0, 0, 0), (3, .aload_n 0, 4, 0, 0, 0, 0), (4, .getfield 7, 7, 0, 9, 0, 0), (7, .arraylength, 8, 0, 0, 0, 0), (8, .if_icmp .ge 16, 11, 24, 0, 0, 0), (11, .aload_n 0, 12, 0, 0, 0, 0), (12, .getfield 7, 15, 0, 9, 0, 0), (15, .iload_n 2, 16, 0, 0, 0, 0), (16, .iload_n 1, 17, 0, 0, 0, 0), (17, .iastore, 18, 0, 0, 0, 0), (18, .iinc 2 1, 21, 0, 0, 0, 0), (21, .goto (-19), 24, 2, 0, 0, 0), (24, .return_, 25, 0, 0, 0, 0)]
def zc_X2_sum : List zRow := [(0, .iconst 0, 1, 0, 0, 0, 0), (1, .istore_n 1, 2, 0, 0, 0, 0), (2, .iconst 0, 3, 0, 0, 0, 0), (3, .istore_n 2, 4, 0, 0, 0, 0), (4, .iload_n 2, 5, 0, 0, 0, 0), (5, .aload_n 0, 6, 0, 0, 0, 0), (6, .getfield 7, 9, 0, 9, 0, 0), (9, .arraylength, 10, 0, 0, 0, 0), (10, .if_icmp .ge 18, 13, 28, 0, 0, 0), (13, .iload_n 1, 14, 0, 0, 0, 0), (14, .aload_n 0, 15, 0, 0, 0, 0), (15, .getfield 7, 18, 0, 9, 0, 0), (18, .iload_n 2, 19, 0, 0, 0, 0), (19, .iaload, 20, 0, 0, 0, 0), (20, .iadd, 21, 0, 0, 0, 0), (21, .istore_n 1, 22, 0, 0, 0, 0), (22, .iinc 2 1, 25, 0, 0, 0, 0), (25, .goto (-21), 28, 4, 0, 0, 0), (28, .iload_n 1, 29, 0, 0, 0, 0), (29, .ireturn, 30, 0, 0, 0, 0)]
def zc_X3_init : List zRow := [(0, .aload_n 0, 1, 0, 0, 0, 0), (1, .invokespecial 3, 4, 8, 0, 0, 0), (4, .aload_n 0, 5, 0, 0, 0, 0), (5, .new 9, 8, 0, 0, 0, 2), (8, .dup, 9, 0, 0, 0, 0), (9, .bipush 40, 11, 0, 0, 0, 0), (11, .invokespecial 11, 14, 0, 24, 1, 0), (14, .putfield 14, 17, 0, 10, 0, 0), (17, .aload_n 0, 18, 0, 0, 0, 0), (18, .new 9, 21, 0, 0, 0, 2), (21, .dup, 22, 0, 0, 0, 0), (22, .bipush 40, 24, 0, 0, 0, 0), (24, .invokespecial 11, 27, 0, 24, 1, 0), (27, .putfield 20, 30, 1, 11, 0, 0), (30, .aload_n 0, 31, 0, 0, 0, 0), (31, .new 9, 34, 0, 0, 0, 2), (34, .dup, 35, 0, 0, 0, 0), (35, .bipush 40, 37, 0, 0, 0, 0), (37, .invokespecial 11, 40, 0, 24, 1, 0), (40, .putfield 23, 43, 2, 12, 0, 0), (43, .return_, 44, 0, 0, 0, 0)]
def zc_X3_empty : List zRow := [(0, .aload_n 0, 1, 0, 0, 0, 0), (1, .iconst 0, 2, 0, 0, 0, 0), (2, .putfield 26, 5, 3, 13, 0, 0), (5, .return_, 6, 0, 0, 0, 0)]
def zc_X3_add : List zRow := [(0, .iload_n 2, 1, 0, 0, 0, 0), (1, .iconst (-1), 2, 0, 0, 0, 0), (2, .if_icmp .ne 16, 5, 18, 0, 0, 0), (5, .aload_n 0, 6, 0, 0, 0, 0), (6, .dup, 7, 0, 0, 0, 0), (7, .getfield 30, 10, 5, 15, 0, 0), (10, .iconst 1, 11, 0, 0, 0, 0), (11, .iadd, 12, 0, 0, 0, 0), (12, .putfield 30, 15, 5, 15, 0, 0), (15, .goto 13, 18, 28, 0, 0, 0), (18, .aload_n 0, 19, 0, 0, 0, 0), (19, .dup, 20, 0, 0, 0, 0), (20, .getfield 33, 23, 4, 14, 0, 0), (23, .iconst 1, 24, 0, 0, 0, 0), (24, .iadd, 25, 0, 0, 0, 0), (25, .putfield 33, 28, 4, 14, 0, 0), (28, .aload_n 0, 29, 0, 0, 0, 0), (29, .getfield 26, 32, 3, 13, 0, 0), (32, .bipush 40, 34, 0, 0, 0, 0), (34, .if_icmp .ge 49, 37, 83, 0, 0, 0), (37, .aload_n 0, 38, 0, 0, 0, 0), (38, .getfield 14, 41, 0, 10, 0, 0), (41, .aload_n 0, 42, 0, 0, 0, 0), (42, .getfield 26, 45, 3, 13, 0, 0), (45, .iload_n 1, 46, 0, 0, 0, 0), (46, .invokevirtual 36, 49, 0, 26, 2, 2), (49, .aload_n 0, 50, 0, 0, 0, 0), (50, .getfield 20, 53, 1, 11, 0, 0), (53, .aload_n 0, 54, 0, 0, 0, 0), (54, .getfield 26, 57, 3, 13, 0, 0), (57, .iload_n 2, 58, 0, 0, 0, 0), (58, .invokevirtual 36, 61, 0, 26, 2, 2), (61, .aload_n 0, 62, 0, 0, 0, 0), (62, .getfield 23, 65, 2, 12, 0, 0), (65, .aload_n 0, 66, 0, 0, 0, 0), (66, .getfield 26, 69, 3, 13, 0, 0), (69, .iload_n 3, 70, 0, 0, 0, 0), (70, .invokevirtual 36, 73, 0, 26, 2, 2), (73, .aload_n 0, 74, 0, 0, 0, 0), (74, .dup, 75, 0, 0, 0, 0), (75, .getfield 26, 78, 3, 13, 0, 0), (78, .iconst 1, 79, 0, 0, 0, 0), (79, .iadd, 80, 0, 0, 0, 0), (80, .putfield 26, 83, 3, 13, 0, 0), (83, .return_, 84, 0, 0, 0, 0)]
def zc_X3_guiltyOf : List zRow := [(0, .iload_n 2, 1, 0, 0, 0, 0), (1, .iconst 4, 2, 0, 0, 0, 0), (2, .if_icmp .ne 9, 5, 11, 0, 0, 0), (5, .aload_n 0, 6, 0, 0, 0, 0), (6, .iload_n 1, 7, 0, 0, 0, 0), (7, .invokevirtual 40, 10, 0, 35, 1, 3), (10, .ireturn, 11, 0, 0, 0, 0), (11, .iload_n 2, 12, 0, 0, 0, 0), (12, .iconst 1, 13, 0, 0, 0, 0), (13, .if_icmp .ne 8, 16, 21, 0, 0, 0), (16, .bipush 16, 18, 0, 0, 0, 0), (18, .goto 5, 21, 23, 0, 0, 0), (21, .bipush 8, 23, 0, 0, 0, 0), (23, .istore_n 3, 24, 0, 0, 0, 0), (24, .iconst 0, 25, 0, 0, 0, 0), (25, .istore 4, 27, 0, 0, 0, 0), (27, .iload 4, 29, 0, 0, 0, 0), (29, .iload_n 3, 30, 0, 0, 0, 0), (30, .if_icmp .ge 23, 33, 53, 0, 0, 0), (33, .aload_n 0, 34, 0, 0, 0, 0), (34, .iload_n 1, 35, 0, 0, 0, 0), (35, .iload_n 2, 36, 0, 0, 0, 0), (36, .iload 4, 38, 0, 0, 0, 0), (38, .invokevirtual 44, 41, 0, 33, 3, 3), (41, .ifCond .eq 6, 44, 47, 0, 0, 0), (44, .iload 4, 46, 0, 0, 0, 0), (46, .ireturn, 47, 0, 0, 0, 0), (47, .iinc 4 1, 50, 0, 0, 0, 0), (50, .goto (-23), 53, 27, 0, 0, 0), (53, .iconst (-1), 54, 0, 0, 0, 0), (54, .ireturn, 55, 0, 0, 0, 0)]
def zc_X3_isGuilty : List zRow := [(0, .iconst 0, 1, 0, 0, 0, 0), (1, .istore 4, 3, 0, 0, 0, 0), (3, .iconst 0, 4, 0, 0, 0, 0), (4, .istore 5, 6, 0, 0, 0, 0), (6, .iload 5, 8, 0, 0, 0, 0), (8, .aload_n 0, 9, 0, 0, 0, 0), (9, .getfield 26, 12, 3, 13, 0, 0), (12, .if_icmp .ge 90, 15, 102, 0, 0, 0), (15, .aload_n 0, 16, 0, 0, 0, 0), (16, .getfield 14, 19, 0, 10, 0, 0), (19, .iload 5, 21, 0, 0, 0, 0), (21, .invokevirtual 48, 24, 0, 25, 1, 2), (24, .bipush 64, 26, 0, 0, 0, 0), (26, .irem, 27, 0, 0, 0, 0), (27, .bipush 8, 29, 0, 0, 0, 0), (29, .idiv, 30, 0, 0, 0, 0), (30, .istore 6, 32, 0, 0, 0, 0), (32, .aload_n 0, 33, 0, 0, 0, 0), (33, .getfield 14, 36, 0, 10, 0, 0), (36, .iload 5, 38, 0, 0, 0, 0), (38, .invokevirtual 48, 41, 0, 25, 1, 2), (41, .bipush 8, 43, 0, 0, 0, 0), (43, .irem, 44, 0, 0, 0, 0), (44, .istore 7, 46, 0, 0, 0, 0), (46, .aload_n 0, 47, 0, 0, 0, 0), (47, .iload_n 1, 48, 0, 0, 0, 0), (48, .iload 5, 50, 0, 0, 0, 0), (50, .invokevirtual 51, 53, 0, 37, 2, 3), (53, .ifCond .eq 43, 56, 96, 0, 0, 0), (56, .iload_n 2, 57, 0, 0, 0, 0), (57, .aload_n 0, 58, 0, 0, 0, 0), (58, .getfield 20, 61, 1, 11, 0, 0), (61, .iload 5, 63, 0, 0, 0, 0), (63, .invokevirtual 48, 66, 0, 25, 1, 2), (66, .iload 6, 68, 0, 0, 0, 0), (68, .iload 7, 70, 0, 0, 0, 0), (70, .invokestatic 55, 73, 0, 34, 4, 0), (73, .iload_n 3, 74, 0, 0, 0, 0), (74, .if_icmp .ne 22, 77, 96, 0, 0, 0), (77, .iload 4, 79, 0, 0, 0, 0), (79, .iconst 1, 80, 0, 0, 0, 0), (80, .iload_n 2, 81, 0, 0, 0, 0), (81, .iconst 2, 82, 0, 0, 0, 0), (82, .if_icmp .ne 8, 85, 90, 0, 0, 0), (85, .iload 7, 87, 0, 0, 0, 0), (87, .goto 5, 90, 92, 0, 0, 0), (90, .iload 6, 92, 0, 0, 0, 0), (92, .ishl, 93, 0, 0, 0, 0), (93, .ior, 94, 0, 0, 0, 0), (94, .istore 4, 96, 0, 0, 0, 0), (96, .iinc 5 1, 99, 0, 0, 0, 0), (99, .goto (-93), 102, 6, 0, 0, 0), (102, .iload 4, 104, 0, 0, 0, 0), (104, .invokestatic 59, 107, 0, 229, 1, 0), (107, .iconst 3, 108, 0, 0, 0, 0), (108, .if_icmp .lt 7, 111, 115, 0, 0, 0), (111, .iconst 1, 112, 0, 0, 0, 0), (112, .goto 4, 115, 116, 0, 0, 0), (115, .iconst 0, 116, 0, 0, 0, 0), (116, .ireturn, 117, 1, 0, 0, 0)]
def zc_X3_suspectOf : List zRow := [(0, .iload_n 0, 1, 0, 0, 0, 0), (1, .iconst 3, 2, 0, 0, 0, 0), (2, .if_icmp .ne 5, 5, 7, 0, 0, 0), (5, .iload_n 3, 6, 0, 0, 0, 0), (6, .ireturn, 7, 0, 0, 0, 0), (7, .iload_n 0, 8, 0, 0, 0, 0), (8, .iconst 2, 9, 0, 0, 0, 0), (9, .if_icmp .ne 7, 12, 16, 0, 0, 0), (12, .iload_n 2, 13, 0, 0, 0, 0), (13, .goto 4, 16, 17, 0, 0, 0), (16, .iload_n 1, 17, 0, 0, 0, 0), (17, .ireturn, 18, 0, 0, 0, 0)]
def zc_X3_guiltyCell : List zRow := [(0, .iconst (-1), 1, 0, 0, 0, 0), (1, .istore_n 2, 2, 0, 0, 0, 0), (2, .iconst 0, 3, 0, 0, 0, 0), (3, .istore_n 3, 4, 0, 0, 0, 0), (4, .iload_n 3, 5, 0, 0, 0, 0), (5, .aload_n 0, 6, 0, 0, 0, 0), (6, .getfield 26, 9, 3, 13, 0, 0), (9, .if_icmp .ge 62, 12, 71, 0, 0, 0), (12, .aload_n 0, 13, 0, 0, 0, 0), (13, .getfield 14, 16, 0, 10, 0, 0), (16, .iload_n 3, 17, 0, 0, 0, 0), (17, .invokevirtual 48, 20, 0, 25, 1, 2), (20, .istore 4, 22, 0, 0, 0, 0), (22, .iload_n 2, 23, 0, 0, 0, 0), (23, .iconst (-1), 24, 0, 0, 0, 0), (24, .if_icmp .eq 9, 27, 33, 0, 0, 0), (27, .iload 4, 29, 0, 0, 0, 0), (29, .iload_n 2, 30, 0, 0, 0, 0), (30, .if_icmp .ge 7, 33, 37, 0, 0, 0), (33, .iconst 1, 34, 0, 0, 0, 0), (34, .goto 4, 37, 38, 0, 0, 0), (37, .iconst 0, 38, 0, 0, 0, 0), (38, .istore 5, 40, 0, 0, 0, 0), (40, .iload 5, 42, 0, 0, 0, 0), (42, .ifCond .eq 23, 45, 65, 0, 0, 0), (45, .aload_n 0, 46, 0, 0, 0, 0), (46, .iload_n 1, 47, 0, 0, 0, 0), (47, .iload_n 3, 48, 0, 0, 0, 0), (48, .invokevirtual 51, 51, 0, 37, 2, 3), (51, .ifCond .eq 14, 54, 65, 0, 0, 0), (54, .aload_n 0, 55, 0, 0, 0, 0), (55, .iload_n 3, 56, 0, 0, 0, 0), (56, .invokevirtual 64, 59, 0, 36, 1, 3), (59, .ifCond .eq 6, 62, 65, 0, 0, 0), (62, .iload 4, 64, 0, 0, 0, 0), (64, .istore_n 2, 65, 0, 0, 0, 0), (65, .iinc 3 1, 68, 0, 0, 0, 0), (68, .goto (-64), 71, 4, 0, 0, 0), (71, .iload_n 2, 72, 0, 0, 0, 0), (72, .ireturn, 73, 0, 0, 0, 0)]
def zc_X3_isToldAgain : List zRow := [(0, .iload_n 1, 1, 0, 0, 0, 0), (1, .iconst 1, 2, 0, 0, 0, 0), (2, .iadd, 3, 0, 0, 0, 0), (3, .istore_n 2, 4, 0, 0, 0, 0), (4, .iload_n 2, 5, 0, 0, 0, 0), (5, .aload_n 0, 6, 0, 0, 0, 0), (6, .getfield 26, 9, 3, 13, 0, 0), (9, .if_icmp .ge 49, 12, 58, 0, 0, 0), (12, .aload_n 0, 13, 0, 0, 0, 0), (13, .getfield 14, 16, 0, 10, 0, 0), (16, .iload_n 2, 17, 0, 0, 0, 0), (17, .invokevirtual 48, 20, 0, 25, 1, 2), (20, .aload_n 0, 21, 0, 0, 0, 0), (21, .getfield 14, 24, 0, 10, 0, 0), (24, .iload_n 1, 25, 0, 0, 0, 0), (25, .invokevirtual 48, 28, 0, 25, 1, 2), (28, .if_icmp .ne 24, 31, 52, 0, 0, 0), (31, .aload_n 0, 32, 0, 0, 0, 0), (32, .getfield 20, 35, 1, 11, 0, 0), (35, .iload_n 2, 36, 0, 0, 0, 0), (36, .invokevirtual 48, 39, 0, 25, 1, 2), (39, .aload_n 0, 40, 0, 0, 0, 0), (40, .getfield 20, 43, 1, 11, 0, 0), (43, .iload_n 1, 44, 0, 0, 0, 0), (44, .invokevirtual 48, 47, 0, 25, 1, 2), (47, .if_icmp .ne 5, 50, 52, 0, 0, 0), (50, .iconst 1, 51, 0, 0, 0, 0), (51, .ireturn, 52, 1, 0, 0, 0), (52, .iinc 2 1, 55, 0, 0, 0, 0), (55, .goto (-51), 58, 4, 0, 0, 0), (58, .iconst 0, 59, 0, 0, 0, 0), (59, .ireturn, 60, 1, 0, 0, 0)]
def zc_X3_isMendedIn : List zRow := [(0, .aload_n 0, 1, 0, 0, 0, 0), (1, .getfield 20, 4, 1, 11, 0, 0), (4, .iload_n 2, 5, 0, 0, 0, 0), (5, .invokevirtual 48, 8, 0, 25, 1, 2), (8, .iconst (-1), 9, 0, 0, 0, 0), (9, .if_icmp .eq 22, 12, 31, 0, 0, 0), (12, .aload_n 0, 13, 0, 0, 0, 0), (13, .getfield 14, 16, 0, 10, 0, 0), (16, .iload_n 2, 17, 0, 0, 0, 0), (17, .invokevirtual 48, 20, 0, 25, 1, 2), (20, .bipush 64, 22, 0, 0, 0, 0), (22, .idiv, 23, 0, 0, 0, 0), (23, .iload_n 1, 24, 0, 0, 0, 0), (24, .if_icmp .ne 7, 27, 31, 0, 0, 0), (27, .iconst 1, 28, 0, 0, 0, 0), (28, .goto 4, 31, 32, 0, 0, 0), (31, .iconst 0, 32, 0, 0, 0, 0), (32, .ireturn, 33, 1, 0, 0, 0)]
def zc_X3_isInOrder : List zRow := [(0, .aload_n 0, 1, 0, 0, 0, 0), (1, .getfield 26, 4, 3, 13, 0, 0), (4, .bipush 40, 6, 0, 0, 0, 0), (6, .if_icmp .gt 23, 9, 29, 0, 0, 0), (9, .aload_n 0, 10, 0, 0, 0, 0), (10, .getfield 26, 13, 3, 13, 0, 0), (13, .aload_n 0, 14, 0, 0, 0, 0), (14, .getfield 33, 17, 4, 14, 0, 0), (17, .aload_n 0, 18, 0, 0, 0, 0), (18, .getfield 30, 21, 5, 15, 0, 0), (21, .iadd, 22, 0, 0, 0, 0), (22, .if_icmp .gt 7, 25, 29, 0, 0, 0), (25, .iconst 1, 26, 0, 0, 0, 0), (26, .goto 4, 29, 30, 0, 0, 0), (29, .iconst 0, 30, 0, 0, 0, 0), (30, .ireturn, 31, 1, 0, 0, 0)]
def zc_X4_init : List zRow := [(0, .aload_n 0, 1, 0, 0, 0, 0), (1, .invokespecial 3, 4, 8, 0, 0, 0), (4, .aload_n 0, 5, 0, 0, 0, 0), (5, .new 9, 8, 0, 0, 0, 2), (8, .dup, 9, 0, 0, 0, 0), (9, .sipush 160, 12, 0, 0, 0, 0), (12, .invokespecial 11, 15, 0, 24, 1, 0), (15, .putfield 14, 18, 0, 16, 0, 0), (18, .aload_n 0, 19, 0, 0, 0, 0), (19, .new 9, 22, 0, 0, 0, 2), (22, .dup, 23, 0, 0, 0, 0), (23, .bipush 20, 25, 0, 0, 0, 0), (25, .invokespecial 11, 28, 0, 24, 1, 0), (28, .putfield 20, 31, 1, 17, 0, 0), (31, .aload_n 0, 32, 0, 0, 0, 0), (32, .new 9, 35, 0, 0, 0, 2), (35, .dup, 36, 0, 0, 0, 0), (36, .bipush 20, 38, 0, 0, 0, 0), (38, .invokespecial 11, 41, 0, 24, 1, 0), (41, .putfield 23, 44, 2, 18, 0, 0), (44, .aload_n 0, 45, 0, 0, 0, 0), (45, .new 9, 48, 0, 0, 0, 2), (48, .dup, 49, 0, 0, 0, 0), (49, .sipush 160, 52, 0, 0, 0, 0), (52, .invokespecial 11, 55, 0, 24, 1, 0), (55, .putfield 26, 58, 3, 19, 0, 0), (58, .aload_n 0, 59, 0, 0, 0, 0), (59, .new 29, 62, 0, 0, 0, 1), (62, .dup, 63, 0, 0, 0, 0), (63, .invokespecial 31, 66, 0, 19, 0, 0), (66, .putfield 32, 69, 4, 20, 0, 0), (69, .aload_n 0, 70, 0, 0, 0, 0), (70, .new 29, 73, 0, 0, 0, 1), (73, .dup, 74, 0, 0, 0, 0), (74, .invokespecial 31, 77, 0, 19, 0, 0), (77, .putfield 36, 80, 5, 21, 0, 0), (80, .aload_n 0, 81, 0, 0, 0, 0), (81, .bipush 16, 83, 0, 0, 0, 0), (83, .putfield 39, 86, 8, 24, 0, 0), (86, .aload_n 0, 87, 0, 0, 0, 0), (87, .bipush 20, 89, 0, 0, 0, 0), (89, .putfield 43, 92, 9, 25, 0, 0), (92, .aload_n 0, 93, 0, 0, 0, 0), (93, .iconst 5, 94, 0, 0, 0, 0), (94, .putfield 46, 97, 10, 26, 0, 0), (97, .return_, 98, 0, 0, 0, 0)]
def zc_X4_wipe : List zRow := [(0, .aload_n 0, 1, 0, 0, 0, 0), (1, .iload_n 1, 2, 0, 0, 0, 0), (2, .putfield 49, 5, 6, 22, 0, 0), (5, .aload_n 0, 6, 0, 0, 0, 0), (6, .getfield 32, 9, 4, 20, 0, 0), (9, .aload_n 0, 10, 0, 0, 0, 0), (10, .getfield 49, 13, 6, 22, 0, 0), (13, .invokevirtual 52, 16, 0, 22, 1, 1), (16, .aload_n 0, 17, 0, 0, 0, 0), (17, .getfield 36, 20, 5, 21, 0, 0), (20, .aload_n 0, 21, 0, 0, 0, 0), (21, .getfield 49, 24, 6, 22, 0, 0), (24, .invokevirtual 52, 27, 0, 22, 1, 1), (27, .aload_n 0, 28, 0, 0, 0, 0), (28, .getfield 20, 31, 1, 17, 0, 0), (31, .iconst 0, 32, 0, 0, 0, 0), (32, .invokevirtual 55, 35, 0, 27, 1, 2), (35, .iconst 0, 36, 0, 0, 0, 0), (36, .istore_n 2, 37, 0, 0, 0, 0), (37, .iload_n 2, 38, 0, 0, 0, 0), (38, .sipush 160, 41, 0, 0, 0, 0), (41, .if_icmp .ge 15, 44, 56, 0, 0, 0), (44, .aload_n 0, 45, 0, 0, 0, 0), (45, .iload_n 2, 46, 0, 0, 0, 0), (46, .iconst 0, 47, 0, 0, 0, 0), (47, .invokevirtual 58, 50, 0, 41, 2, 4), (50, .iinc 2 1, 53, 0, 0, 0, 0), (53, .goto (-16), 56, 37, 0, 0, 0), (56, .return_, 57, 0, 0, 0, 0)]
def zc_X4_put : List zRow := [(0, .aload_n 0, 1, 0, 0, 0, 0), (1, .getfield 14, 4, 0, 16, 0, 0), (4, .iload_n 1, 5, 0, 0, 0, 0), (5, .aload_n 0, 6, 0, 0, 0, 0), (6, .iload_n 1, 7, 0, 0, 0, 0), (7, .iload_n 2, 8, 0, 0, 0, 0), (8, .invokevirtual 62, 11, 0, 42, 2, 4), (11, .invokevirtual 66, 14, 0, 26, 2, 2), (14, .return_, 15, 0, 0, 0, 0)]
def zc_X4_asStuck : List zRow := [(0, .iload_n 2, 1, 0, 0, 0, 0), (1, .istore_n 3, 2, 0, 0, 0, 0), (2, .iconst 0, 3, 0, 0, 0, 0), (3, .istore 4, 5, 0, 0, 0, 0), (5, .iload 4, 7, 0, 0, 0, 0), (7, .aload_n 0, 8, 0, 0, 0, 0), (8, .getfield 32, 11, 4, 20, 0, 0), (11, .getfield 69, 14, 3, 8, 0, 0), (14, .if_icmp .ge 69, 17, 83, 0, 0, 0), (17, .aload_n 0, 18, 0, 0, 0, 0), (18, .getfield 32, 21, 4, 20, 0, 0), (21, .getfield 72, 24, 0, 5, 0, 0), (24, .iload 4, 26, 0, 0, 0, 0), (26, .invokevirtual 75, 29, 0, 25, 1, 2), (29, .iload_n 1, 30, 0, 0, 0, 0), (30, .if_icmp .ne 47, 33, 77, 0, 0, 0), (33, .aload_n 0, 34, 0, 0, 0, 0), (34, .getfield 32, 37, 4, 20, 0, 0), (37, .getfield 79, 40, 1, 6, 0, 0), (40, .iload 4, 42, 0, 0, 0, 0), (42, .invokevirtual 75, 45, 0, 25, 1, 2), (45, .istore 5, 47, 0, 0, 0, 0), (47, .aload_n 0, 48, 0, 0, 0, 0), (48, .getfield 32, 51, 4, 20, 0, 0), (51, .getfield 82, 54, 2, 7, 0, 0), (54, .iload 4, 56, 0, 0, 0, 0), (56, .invokevirtual 75, 59, 0, 25, 1, 2), (59, .iconst 1, 60, 0, 0, 0, 0), (60, .if_icmp .ne 10, 63, 70, 0, 0, 0), (63, .iload_n 3, 64, 0, 0, 0, 0), (64, .iload 5, 66, 0, 0, 0, 0), (66, .ior, 67, 0, 0, 0, 0), (67, .goto 9, 70, 76, 0, 0, 0), (70, .iload_n 3, 71, 0, 0, 0, 0), (71, .iload 5, 73, 0, 0, 0, 0), (73, .iconst (-1), 74, 0, 0, 0, 0), (74, .ixor, 75, 0, 0, 0, 0), (75, .iand, 76, 0, 0, 0, 0), (76, .istore_n 3, 77, 0, 0, 0, 0), (77, .iinc 4 1, 80, 0, 0, 0, 0), (80, .goto (-75), 83, 5, 0, 0, 0), (83, .iload_n 3, 84, 0, 0, 0, 0), (84, .ireturn, 85, 0, 0, 0, 0)]
def zc_X4_open : List zRow := [(0, .aload_n 0, 1, 0, 0, 0, 0), (1, .getfield 20, 4, 1, 17, 0, 0), (4, .iload_n 1, 5, 0, 0, 0, 0), (5, .invokevirtual 75, 8, 0, 25, 1, 2), (8, .iconst 1, 9, 0, 0, 0, 0), (9, .iadd, 10, 0, 0, 0, 0), (10, .istore_n 2, 11, 0, 0, 0, 0), (11, .aload_n 0, 12, 0, 0, 0, 0), (12, .getfield 20, 15, 1, 17, 0, 0), (15, .iload_n 1, 16, 0, 0, 0, 0), (16, .iload_n 2, 17, 0, 0, 0, 0), (17, .invokevirtual 66, 20, 0, 26, 2, 2), (20, .aload_n 0, 21, 0, 0, 0, 0), (21, .getfield 23, 24, 2, 18, 0, 0), (24, .iload_n 1, 25, 0, 0, 0, 0), (25, .aload_n 0, 26, 0, 0, 0, 0), (26, .getfield 85, 29, 7, 23, 0, 0), (29, .invokevirtual 66, 32, 0, 26, 2, 2), (32, .aload_n 0, 33, 0, 0, 0, 0), (33, .getfield 43, 36, 9, 25, 0, 0), (36, .ifCond .le 41, 39, 77, 0, 0, 0), (39, .iload_n 2, 40, 0, 0, 0, 0), (40, .aload_n 0, 41, 0, 0, 0, 0), (41, .getfield 43, 44, 9, 25, 0, 0), (44, .irem, 45, 0, 0, 0, 0), (45, .ifCond .ne 32, 48, 77, 0, 0, 0), (48, .iload_n 1, 49, 0, 0, 0, 0), (49, .bipush 10, 51, 0, 0, 0, 0), (51, .irem, 52, 0, 0, 0, 0), (52, .istore_n 3, 53, 0, 0, 0, 0), (53, .iload_n 3, 54, 0, 0, 0, 0), (54, .ifCond .le 10, 57, 64, 0, 0, 0), (57, .aload_n 0, 58, 0, 0, 0, 0), (58, .iload_n 1, 59, 0, 0, 0, 0), (59, .iconst 1, 60, 0, 0, 0, 0), (60, .isub, 61, 0, 0, 0, 0), (61, .invokevirtual 88, 64, 0, 44, 1, 4), (64, .iload_n 3, 65, 0, 0, 0, 0), (65, .bipush 9, 67, 0, 0, 0, 0), (67, .if_icmp .ge 10, 70, 77, 0, 0, 0), (70, .aload_n 0, 71, 0, 0, 0, 0), (71, .iload_n 1, 72, 0, 0, 0, 0), (72, .iconst 1, 73, 0, 0, 0, 0), (73, .iadd, 74, 0, 0, 0, 0), (74, .invokevirtual 88, 77, 0, 44, 1, 4), (77, .return_, 78, 0, 0, 0, 0)]
def zc_X4_turnDrawnBit : List zRow := [(0, .iload_n 1, 1, 0, 0, 0, 0), (1, .bipush 8, 3, 0, 0, 0, 0), (3, .imul, 4, 0, 0, 0, 0), (4, .aload_n 0, 5, 0, 0, 0, 0), (5, .invokevirtual 91, 8, 0, 45, 0, 4), (8, .bipush 8, 10, 0, 0, 0, 0), (10, .irem, 11, 0, 0, 0, 0), (11, .iadd, 12, 0, 0, 0, 0), (12, .istore_n 2, 13, 0, 0, 0, 0), (13, .aload_n 0, 14, 0, 0, 0, 0), (14, .invokevirtual 91, 17, 0, 45, 0, 4), (17, .istore_n 3, 18, 0, 0, 0, 0), (18, .aload_n 0, 19, 0, 0, 0, 0), (19, .getfield 49, 22, 6, 22, 0, 0), (22, .ifCond .le 12, 25, 34, 0, 0, 0), (25, .iload_n 3, 26, 0, 0, 0, 0), (26, .aload_n 0, 27, 0, 0, 0, 0), (27, .getfield 49, 30, 6, 22, 0, 0), (30, .irem, 31, 0, 0, 0, 0), (31, .goto 4, 34, 35, 0, 0, 0), (34, .iconst 0, 35, 0, 0, 0, 0), (35, .istore 4, 37, 0, 0, 0, 0), (37, .aload_n 0, 38, 0, 0, 0, 0), (38, .iload_n 2, 39, 0, 0, 0, 0), (39, .aload_n 0, 40, 0, 0, 0, 0), (40, .getfield 14, 43, 0, 16, 0, 0), (43, .iload_n 2, 44, 0, 0, 0, 0), (44, .invokevirtual 75, 47, 0, 25, 1, 2), (47, .iconst 1, 48, 0, 0, 0, 0), (48, .iload 4, 50, 0, 0, 0, 0), (50, .ishl, 51, 0, 0, 0, 0), (51, .ixor, 52, 0, 0, 0, 0), (52, .invokevirtual 58, 55, 0, 41, 2, 4), (55, .return_, 56, 0, 0, 0, 0)]
def zc_X4_draw : List zRow := [(0, .aload_n 0, 1, 0, 0, 0, 0), (1, .getfield 46, 4, 10, 26, 0, 0), (4, .istore_n 1, 5, 0, 0, 0, 0), (5, .aload_n 0, 6, 0, 0, 0, 0), (6, .bipush 17, 8, 0, 0, 0, 0), (8, .iload_n 1, 9, 0, 0, 0, 0), (9, .imul, 10, 0, 0, 0, 0), (10, .bipush 43, 12, 0, 0, 0, 0), (12, .iadd, 13, 0, 0, 0, 0), (13, .sipush 251, 16, 0, 0, 0, 0), (16, .irem, 17, 0, 0, 0, 0), (17, .putfield 46, 20, 10, 26, 0, 0), (20, .aload_n 0, 21, 0, 0, 0, 0), (21, .dup, 22, 0, 0, 0, 0), (22, .getfield 95, 25, 11, 27, 0, 0), (25, .iconst 1, 26, 0, 0, 0, 0), (26, .iadd, 27, 0, 0, 0, 0), (27, .putfield 95, 30, 11, 27, 0, 0), (30, .iload_n 1, 31, 0, 0, 0, 0), (31, .ireturn, 32, 0, 0, 0, 0)]
def zc_X4_beginTick : List zRow := [(0, .aload_n 0, 1, 0, 0, 0, 0), (1, .dup, 2, 0, 0, 0, 0), (2, .getfield 85, 5, 7, 23, 0, 0), (5, .iconst 1, 6, 0, 0, 0, 0), (6, .iadd, 7, 0, 0, 0, 0), (7, .putfield 85, 10, 7, 23, 0, 0), (10, .iconst 0, 11, 0, 0, 0, 0), (11, .istore_n 1, 12, 0, 0, 0, 0), (12, .iload_n 1, 13, 0, 0, 0, 0), (13, .aload_n 0, 14, 0, 0, 0, 0), (14, .getfield 36, 17, 5, 21, 0, 0), (17, .getfield 69, 20, 3, 8, 0, 0), (20, .if_icmp .ge 78, 23, 98, 0, 0, 0), (23, .aload_n 0, 24, 0, 0, 0, 0), (24, .getfield 36, 27, 5, 21, 0, 0), (27, .getfield 72, 30, 0, 5, 0, 0), (30, .iload_n 1, 31, 0, 0, 0, 0), (31, .invokevirtual 75, 34, 0, 25, 1, 2), (34, .istore_n 2, 35, 0, 0, 0, 0), (35, .aload_n 0, 36, 0, 0, 0, 0), (36, .getfield 85, 39, 7, 23, 0, 0), (39, .aload_n 0, 40, 0, 0, 0, 0), (40, .getfield 23, 43, 2, 18, 0, 0), (43, .iload_n 2, 44, 0, 0, 0, 0), (44, .bipush 8, 46, 0, 0, 0, 0), (46, .idiv, 47, 0, 0, 0, 0), (47, .invokevirtual 75, 50, 0, 25, 1, 2), (50, .isub, 51, 0, 0, 0, 0), (51, .aload_n 0, 52, 0, 0, 0, 0), (52, .getfield 36, 55, 5, 21, 0, 0), (55, .getfield 82, 58, 2, 7, 0, 0), (58, .iload_n 1, 59, 0, 0, 0, 0), (59, .invokevirtual 75, 62, 0, 25, 1, 2), (62, .if_icmp .lt 30, 65, 92, 0, 0, 0), (65, .aload_n 0, 66, 0, 0, 0, 0), (66, .iload_n 2, 67, 0, 0, 0, 0), (67, .aload_n 0, 68, 0, 0, 0, 0), (68, .getfield 14, 71, 0, 16, 0, 0), (71, .iload_n 2, 72, 0, 0, 0, 0), (72, .invokevirtual 75, 75, 0, 25, 1, 2), (75, .aload_n 0, 76, 0, 0, 0, 0), (76, .getfield 36, 79, 5, 21, 0, 0), (79, .getfield 79, 82, 1, 6, 0, 0), (82, .iload_n 1, 83, 0, 0, 0, 0), (83, .invokevirtual 75, 86, 0, 25, 1, 2), (86, .iconst (-1), 87, 0, 0, 0, 0), (87, .ixor, 88, 0, 0, 0, 0), (88, .iand, 89, 0, 0, 0, 0), (89, .invokevirtual 58, 92, 0, 41, 2, 4), (92, .iinc 1 1, 95, 0, 0, 0, 0), (95, .goto (-83), 98, 12, 0, 0, 0), (98, .aload_n 0, 99, 0, 0, 0, 0), (99, .aload_n 0, 100, 0, 0, 0, 0), (100, .getfield 85, 103, 7, 23, 0, 0), (103, .invokevirtual 98, 106, 0, 47, 1, 4), (106, .ifCond .eq 22, 109, 128, 0, 0, 0), (109, .aload_n 0, 110, 0, 0, 0, 0), (110, .getfield 20, 113, 1, 17, 0, 0), (113, .iconst 0, 114, 0, 0, 0, 0), (114, .invokevirtual 55, 117, 0, 27, 1, 2), (117, .aload_n 0, 118, 0, 0, 0, 0), (118, .getfield 23, 121, 2, 18, 0, 0), (121, .aload_n 0, 122, 0, 0, 0, 0), (122, .getfield 85, 125, 7, 23, 0, 0), (125, .invokevirtual 55, 128, 0, 27, 1, 2), (128, .return_, 129, 0, 0, 0, 0)]
def zc_X4_isRefreshedAt : List zRow := [(0, .aload_n 0, 1, 0, 0, 0, 0), (1, .getfield 39, 4, 8, 24, 0, 0), (4, .ifCond .le 16, 7, 20, 0, 0, 0), (7, .iload_n 1, 8, 0, 0, 0, 0), (8, .aload_n 0, 9, 0, 0, 0, 0), (9, .getfield 39, 12, 8, 24, 0, 0), (12, .irem, 13, 0, 0, 0, 0), (13, .ifCond .ne 7, 16, 20, 0, 0, 0), (16, .iconst 1, 17, 0, 0, 0, 0), (17, .goto 4, 20, 21, 0, 0, 0), (20, .iconst 0, 21, 0, 0, 0, 0), (21, .ireturn, 22, 1, 0, 0, 0)]
def zc_X4_leaksWithin : List zRow := [(0, .aload_n 0, 1, 0, 0, 0, 0), (1, .getfield 26, 4, 3, 19, 0, 0), (4, .iconst 0, 5, 0, 0, 0, 0), (5, .invokevirtual 55, 8, 0, 27, 1, 2), (8, .iconst 0, 9, 0, 0, 0, 0), (9, .istore_n 2, 10, 0, 0, 0, 0), (10, .iconst 0, 11, 0, 0, 0, 0), (11, .istore_n 3, 12, 0, 0, 0, 0), (12, .iload_n 3, 13, 0, 0, 0, 0), (13, .aload_n 0, 14, 0, 0, 0, 0), (14, .getfield 36, 17, 5, 21, 0, 0), (17, .getfield 69, 20, 3, 8, 0, 0), (20, .if_icmp .ge 106, 23, 126, 0, 0, 0), (23, .aload_n 0, 24, 0, 0, 0, 0), (24, .getfield 36, 27, 5, 21, 0, 0), (27, .getfield 72, 30, 0, 5, 0, 0), (30, .iload_n 3, 31, 0, 0, 0, 0), (31, .invokevirtual 75, 34, 0, 25, 1, 2), (34, .istore 4, 36, 0, 0, 0, 0), (36, .aload_n 0, 37, 0, 0, 0, 0), (37, .getfield 36, 40, 5, 21, 0, 0), (40, .getfield 79, 43, 1, 6, 0, 0), (43, .iload_n 3, 44, 0, 0, 0, 0), (44, .invokevirtual 75, 47, 0, 25, 1, 2), (47, .istore 5, 49, 0, 0, 0, 0), (49, .aload_n 0, 50, 0, 0, 0, 0), (50, .getfield 26, 53, 3, 19, 0, 0), (53, .iload 4, 55, 0, 0, 0, 0), (55, .invokevirtual 75, 58, 0, 25, 1, 2), (58, .iload 5, 60, 0, 0, 0, 0), (60, .iand, 61, 0, 0, 0, 0), (61, .ifCond .eq 7, 64, 68, 0, 0, 0), (64, .iconst 1, 65, 0, 0, 0, 0), (65, .goto 4, 68, 69, 0, 0, 0), (68, .iconst 0, 69, 0, 0, 0, 0), (69, .istore 6, 71, 0, 0, 0, 0), (71, .iload 6, 73, 0, 0, 0, 0), (73, .ifCond .ne 47, 76, 120, 0, 0, 0), (76, .aload_n 0, 77, 0, 0, 0, 0), (77, .iload 4, 79, 0, 0, 0, 0), (79, .iload 5, 81, 0, 0, 0, 0), (81, .invokevirtual 102, 84, 0, 49, 2, 4), (84, .ifCond .eq 36, 87, 120, 0, 0, 0), (87, .aload_n 0, 88, 0, 0, 0, 0), (88, .iload_n 3, 89, 0, 0, 0, 0), (89, .iload_n 1, 90, 0, 0, 0, 0), (90, .invokevirtual 106, 93, 0, 50, 2, 4), (93, .ifCond .eq 27, 96, 120, 0, 0, 0), (96, .aload_n 0, 97, 0, 0, 0, 0), (97, .getfield 26, 100, 3, 19, 0, 0), (100, .iload 4, 102, 0, 0, 0, 0), (102, .aload_n 0, 103, 0, 0, 0, 0), (103, .getfield 26, 106, 3, 19, 0, 0), (106, .iload 4, 108, 0, 0, 0, 0), (108, .invokevirtual 75, 111, 0, 25, 1, 2), (111, .iload 5, 113, 0, 0, 0, 0), (113, .ior, 114, 0, 0, 0, 0), (114, .invokevirtual 66, 117, 0, 26, 2, 2), (117, .iinc 2 1, 120, 0, 0, 0, 0), (120, .iinc 3 1, 123, 0, 0, 0, 0), (123, .goto (-111), 126, 12, 0, 0, 0), (126, .iload_n 2, 127, 0, 0, 0, 0), (127, .ireturn, 128, 0, 0, 0, 0)]
def zc_X4_isLeakable : List zRow := [(0, .aload_n 0, 1, 0, 0, 0, 0), (1, .getfield 14, 4, 0, 16, 0, 0), (4, .iload_n 1, 5, 0, 0, 0, 0), (5, .invokevirtual 75, 8, 0, 25, 1, 2), (8, .istore_n 3, 9, 0, 0, 0, 0), (9, .iload_n 3, 10, 0, 0, 0, 0), (10, .iload_n 2, 11, 0, 0, 0, 0), (11, .iand, 12, 0, 0, 0, 0), (12, .ifCond .eq 22, 15, 34, 0, 0, 0), (15, .aload_n 0, 16, 0, 0, 0, 0), (16, .iload_n 1, 17, 0, 0, 0, 0), (17, .iload_n 3, 18, 0, 0, 0, 0), (18, .iload_n 2, 19, 0, 0, 0, 0), (19, .iconst (-1), 20, 0, 0, 0, 0), (20, .ixor, 21, 0, 0, 0, 0), (21, .iand, 22, 0, 0, 0, 0), (22, .invokevirtual 62, 25, 0, 42, 2, 4), (25, .iload_n 2, 26, 0, 0, 0, 0), (26, .iand, 27, 0, 0, 0, 0), (27, .ifCond .ne 7, 30, 34, 0, 0, 0), (30, .iconst 1, 31, 0, 0, 0, 0), (31, .goto 4, 34, 35, 0, 0, 0), (34, .iconst 0, 35, 0, 0, 0, 0), (35, .ireturn, 36, 1, 0, 0, 0)]
def zc_X4_isOverWithin : List zRow := [(0, .aload_n 0, 1, 0, 0, 0, 0), (1, .getfield 23, 4, 2, 18, 0, 0), (4, .aload_n 0, 5, 0, 0, 0, 0), (5, .getfield 36, 8, 5, 21, 0, 0), (8, .getfield 72, 11, 0, 5, 0, 0), (11, .iload_n 1, 12, 0, 0, 0, 0), (12, .invokevirtual 75, 15, 0, 25, 1, 2), (15, .bipush 8, 17, 0, 0, 0, 0), (17, .idiv, 18, 0, 0, 0, 0), (18, .invokevirtual 75, 21, 0, 25, 1, 2), (21, .istore_n 3, 22, 0, 0, 0, 0), (22, .aload_n 0, 23, 0, 0, 0, 0), (23, .getfield 85, 26, 7, 23, 0, 0), (26, .iconst 1, 27, 0, 0, 0, 0), (27, .iadd, 28, 0, 0, 0, 0), (28, .istore 4, 30, 0, 0, 0, 0), (30, .iload 4, 32, 0, 0, 0, 0), (32, .aload_n 0, 33, 0, 0, 0, 0), (33, .getfield 85, 36, 7, 23, 0, 0), (36, .iload_n 2, 37, 0, 0, 0, 0), (37, .iadd, 38, 0, 0, 0, 0), (38, .if_icmp .gt 41, 41, 79, 0, 0, 0), (41, .iload 4, 43, 0, 0, 0, 0), (43, .iload_n 3, 44, 0, 0, 0, 0), (44, .isub, 45, 0, 0, 0, 0), (45, .aload_n 0, 46, 0, 0, 0, 0), (46, .getfield 36, 49, 5, 21, 0, 0), (49, .getfield 82, 52, 2, 7, 0, 0), (52, .iload_n 1, 53, 0, 0, 0, 0), (53, .invokevirtual 75, 56, 0, 25, 1, 2), (56, .if_icmp .lt 5, 59, 61, 0, 0, 0), (59, .iconst 1, 60, 0, 0, 0, 0), (60, .ireturn, 61, 1, 0, 0, 0), (61, .aload_n 0, 62, 0, 0, 0, 0), (62, .iload 4, 64, 0, 0, 0, 0), (64, .invokevirtual 98, 67, 0, 47, 1, 4), (67, .ifCond .eq 6, 70, 73, 0, 0, 0), (70, .iload 4, 72, 0, 0, 0, 0), (72, .istore_n 3, 73, 0, 0, 0, 0), (73, .iinc 4 1, 76, 0, 0, 0, 0), (76, .goto (-46), 79, 30, 0, 0, 0), (79, .iconst 0, 80, 0, 0, 0, 0), (80, .ireturn, 81, 1, 0, 0, 0)]
def zc_X4_isInOrder : List zRow := [(0, .iconst 0, 1, 0, 0, 0, 0), (1, .istore_n 1, 2, 0, 0, 0, 0), (2, .iload_n 1, 3, 0, 0, 0, 0), (3, .bipush 20, 5, 0, 0, 0, 0), (5, .if_icmp .ge 22, 8, 27, 0, 0, 0), (8, .aload_n 0, 9, 0, 0, 0, 0), (9, .getfield 20, 12, 1, 17, 0, 0), (12, .iload_n 1, 13, 0, 0, 0, 0), (13, .invokevirtual 75, 16, 0, 25, 1, 2), (16, .ifCond .ge 5, 19, 21, 0, 0, 0), (19, .iconst 0, 20, 0, 0, 0, 0), (20, .ireturn, 21, 1, 0, 0, 0), (21, .iinc 1 1, 24, 0, 0, 0, 0), (24, .goto (-22), 27, 2, 0, 0, 0), (27, .iconst 0, 28, 0, 0, 0, 0), (28, .istore_n 1, 29, 0, 0, 0, 0), (29, .iload_n 1, 30, 0, 0, 0, 0), (30, .aload_n 0, 31, 0, 0, 0, 0), (31, .getfield 32, 34, 4, 20, 0, 0), (34, .getfield 69, 37, 3, 8, 0, 0), (37, .if_icmp .ge 47, 40, 84, 0, 0, 0), (40, .aload_n 0, 41, 0, 0, 0, 0), (41, .getfield 32, 44, 4, 20, 0, 0), (44, .getfield 72, 47, 0, 5, 0, 0), (47, .iload_n 1, 48, 0, 0, 0, 0), (48, .invokevirtual 75, 51, 0, 25, 1, 2), (51, .istore_n 2, 52, 0, 0, 0, 0), (52, .aload_n 0, 53, 0, 0, 0, 0), (53, .iload_n 2, 54, 0, 0, 0, 0), (54, .aload_n 0, 55, 0, 0, 0, 0), (55, .getfield 14, 58, 0, 16, 0, 0), (58, .iload_n 2, 59, 0, 0, 0, 0), (59, .invokevirtual 75, 62, 0, 25, 1, 2), (62, .invokevirtual 62, 65, 0, 42, 2, 4), (65, .aload_n 0, 66, 0, 0, 0, 0), (66, .getfield 14, 69, 0, 16, 0, 0), (69, .iload_n 2, 70, 0, 0, 0, 0), (70, .invokevirtual 75, 73, 0, 25, 1, 2), (73, .if_icmp .eq 5, 76, 78, 0, 0, 0), (76, .iconst 0, 77, 0, 0, 0, 0), (77, .ireturn, 78, 1, 0, 0, 0), (78, .iinc 1 1, 81, 0, 0, 0, 0), (81, .goto (-52), 84, 29, 0, 0, 0), (84, .iconst 1, 85, 0, 0, 0, 0), (85, .ireturn, 86, 1, 0, 0, 0)]
def zc_X5_init : List zRow := [(0, .aload_n 0, 1, 0, 0, 0, 0), (1, .invokespecial 3, 4, 8, 0, 0, 0), (4, .aload_n 0, 5, 0, 0, 0, 0), (5, .new 9, 8, 0, 0, 0, 0), (8, .dup, 9, 0, 0, 0, 0), (9, .invokespecial 11, 12, 0, 0, 0, 0), (12, .putfield 12, 15, 0, 28, 0, 0), (15, .aload_n 0, 16, 0, 0, 0, 0), (16, .new 16, 19, 0, 0, 0, 4), (19, .dup, 20, 0, 0, 0, 0), (20, .invokespecial 18, 23, 0, 39, 0, 0), (23, .putfield 19, 26, 1, 29, 0, 0), (26, .aload_n 0, 27, 0, 0, 0, 0), (27, .new 23, 30, 0, 0, 0, 3), (30, .dup, 31, 0, 0, 0, 0), (31, .invokespecial 25, 34, 0, 29, 0, 0), (34, .putfield 26, 37, 2, 30, 0, 0), (37, .aload_n 0, 38, 0, 0, 0, 0), (38, .new 30, 41, 0, 0, 0, 2), (41, .dup, 42, 0, 0, 0, 0), (42, .bipush 16, 44, 0, 0, 0, 0), (44, .invokespecial 32, 47, 0, 24, 1, 0), (47, .putfield 35, 50, 3, 31, 0, 0), (50, .aload_n 0, 51, 0, 0, 0, 0), (51, .new 30, 54, 0, 0, 0, 2), (54, .dup, 55, 0, 0, 0, 0), (55, .iconst 2, 56, 0, 0, 0, 0), (56, .invokespecial 32, 59, 0, 24, 1, 0), (59, .putfield 39, 62, 4, 32, 0, 0), (62, .aload_n 0, 63, 0, 0, 0, 0), (63, .new 30, 66, 0, 0, 0, 2), (66, .dup, 67, 0, 0, 0, 0), (67, .sipush 128, 70, 0, 0, 0, 0), (70, .invokespecial 32, 73, 0, 24, 1, 0), (73, .putfield 42, 76, 5, 33, 0, 0), (76, .aload_n 0, 77, 0, 0, 0, 0), (77, .new 30, 80, 0, 0, 0, 2), (80, .dup, 81, 0, 0, 0, 0), (81, .sipush 128, 84, 0, 0, 0, 0), (84, .invokespecial 32, 87, 0, 24, 1, 0), (87, .putfield 45, 90, 6, 34, 0, 0), (90, .iconst 0, 91, 0, 0, 0, 0), (91, .istore_n 1, 92, 0, 0, 0, 0), (92, .iload_n 1, 93, 0, 0, 0, 0), (93, .bipush 16, 95, 0, 0, 0, 0), (95, .if_icmp .ge 21, 98, 116, 0, 0, 0), (98, .aload_n 0, 99, 0, 0, 0, 0), (99, .getfield 35, 102, 3, 31, 0, 0), (102, .iload_n 1, 103, 0, 0, 0, 0), (103, .iload_n 1, 104, 0, 0, 0, 0), (104, .bipush 8, 106, 0, 0, 0, 0), (106, .irem, 107, 0, 0, 0, 0), (107, .invokevirtual 48, 110, 0, 26, 2, 2), (110, .iinc 1 1, 113, 0, 0, 0, 0), (113, .goto (-21), 116, 92, 0, 0, 0), (116, .aload_n 0, 117, 0, 0, 0, 0), (117, .getfield 12, 120, 0, 28, 0, 0), (120, .bipush 8, 122, 0, 0, 0, 0), (122, .iconst 5, 123, 0, 0, 0, 0), (123, .invokevirtual 52, 126, 0, 3, 2, 0), (126, .aload_n 0, 127, 0, 0, 0, 0), (127, .getfield 19, 130, 1, 29, 0, 0), (130, .aload_n 0, 131, 0, 0, 0, 0), (131, .getfield 12, 134, 0, 28, 0, 0), (134, .getfield 55, 137, 4, 4, 0, 0), (137, .invokevirtual 59, 140, 0, 40, 1, 4), (140, .return_, 141, 0, 0, 0, 0)]
def zc_X5_code : List zRow := [(0, .iload_n 1, 1, 0, 0, 0, 0), (1, .iconst 4, 2, 0, 0, 0, 0), (2, .if_icmp .lt 9, 5, 11, 0, 0, 0), (5, .iload_n 1, 6, 0, 0, 0, 0), (6, .bipush 10, 8, 0, 0, 0, 0), (8, .if_icmp .le 13, 11, 21, 0, 0, 0), (11, .new 62, 14, 9, 0, 0, 0), (14, .dup, 15, 0, 0, 0, 0), (20, .athrow, 21, 0, 0, 0, 0), (21, .iload_n 2, 22, 0, 0, 0, 0), (22, .iconst 4, 23, 0, 0, 0, 0), (23, .if_icmp .lt 9, 26, 32, 0, 0, 0), (26, .iload_n 2, 27, 0, 0, 0, 0), (27, .bipush 6, 29, 0, 0, 0, 0), (29, .if_icmp .le 13, 32, 42, 0, 0, 0), (32, .new 62, 35, 9, 0, 0, 0), (35, .dup, 36, 0, 0, 0, 0), (41, .athrow, 42, 0, 0, 0, 0), (42, .iload_n 2, 43, 0, 0, 0, 0), (43, .invokestatic 71, 46, 0, 2, 1, 0), (46, .iload_n 1, 47, 0, 0, 0, 0), (47, .if_icmp .ge 13, 50, 60, 0, 0, 0), (50, .new 62, 53, 9, 0, 0, 0), (53, .dup, 54, 0, 0, 0, 0), (59, .athrow, 60, 0, 0, 0, 0), (60, .aload_n 0, 61, 0, 0, 0, 0), (61, .getfield 12, 64, 0, 28, 0, 0), (64, .iload_n 1, 65, 0, 0, 0, 0), (65, .iload_n 2, 66, 0, 0, 0, 0), (66, .invokevirtual 52, 69, 0, 3, 2, 0), (69, .aload_n 0, 70, 0, 0, 0, 0), (70, .getfield 19, 73, 1, 29, 0, 0), (73, .aload_n 0, 74, 0, 0, 0, 0), (74, .getfield 12, 77, 0, 28, 0, 0), (77, .getfield 55, 80, 4, 4, 0, 0), (80, .invokevirtual 59, 83, 0, 40, 1, 4), (83, .aload_n 0, 84, 0, 0, 0, 0), (84, .getfield 42, 87, 5, 33, 0, 0), (87, .iconst 0, 88, 0, 0, 0, 0), (88, .invokevirtual 77, 91, 0, 27, 1, 2), (91, .aload_n 0, 92, 0, 0, 0, 0), (92, .getfield 26, 95, 2, 30, 0, 0), (95, .invokevirtual 80, 98, 0, 30, 0, 3), (98, .aload_n 0, 99, 0, 0, 0, 0), (99, .getfield 12, 102, 0, 28, 0, 0), (102, .getfield 55, 105, 4, 4, 0, 0), (105, .ireturn, 106, 0, 0, 0, 0)]
def zc_X5_write : List zRow := [(0, .iload_n 1, 1, 0, 0, 0, 0), (1, .invokestatic 83, 4, 0, 82, 1, 0), (4, .aload_n 0, 5, 0, 0, 0, 0), (5, .iload_n 2, 6, 0, 0, 0, 0), (6, .invokevirtual 86, 9, 0, 86, 1, 5), (9, .aload_n 0, 10, 0, 0, 0, 0), (10, .iload_n 1, 11, 0, 0, 0, 0), (11, .invokevirtual 89, 14, 0, 87, 1, 5), (14, .aload_n 0, 15, 0, 0, 0, 0), (15, .iload_n 1, 16, 0, 0, 0, 0), (16, .iload_n 2, 17, 0, 0, 0, 0), (17, .invokevirtual 92, 20, 0, 101, 2, 5), (20, .iload_n 1, 21, 0, 0, 0, 0), (21, .invokestatic 95, 24, 0, 89, 1, 0), (24, .istore_n 3, 25, 0, 0, 0, 0), (25, .aload_n 0, 26, 0, 0, 0, 0), (26, .getfield 98, 29, 9, 37, 0, 0), (29, .ifCond .eq 17, 32, 46, 0, 0, 0), (32, .aload_n 0, 33, 0, 0, 0, 0), (33, .iload_n 3, 34, 0, 0, 0, 0), (34, .invokevirtual 102, 37, 0, 96, 1, 5), (37, .ifCond .ne 9, 40, 46, 0, 0, 0), (40, .aload_n 0, 41, 0, 0, 0, 0), (41, .iload_n 3, 42, 0, 0, 0, 0), (42, .iload_n 2, 43, 0, 0, 0, 0), (43, .invokevirtual 92, 46, 0, 101, 2, 5), (46, .aload_n 0, 47, 0, 0, 0, 0), (47, .iload_n 1, 48, 0, 0, 0, 0), (48, .invokevirtual 106, 51, 0, 92, 1, 5), (51, .ireturn, 52, 0, 0, 0, 0)]
def zc_X5_read : List zRow := [(0, .iload_n 1, 1, 0, 0, 0, 0), (1, .invokestatic 83, 4, 0, 82, 1, 0), (4, .aload_n 0, 5, 0, 0, 0, 0), (5, .iload_n 1, 6, 0, 0, 0, 0), (6, .invokevirtual 89, 9, 0, 87, 1, 5), (9, .aload_n 0, 10, 0, 0, 0, 0), (10, .getfield 19, 13, 1, 29, 0, 0), (13, .aload_n 0, 14, 0, 0, 0, 0), (14, .iload_n 1, 15, 0, 0, 0, 0), (15, .invokevirtual 109, 18, 0, 90, 1, 5), (18, .invokevirtual 112, 21, 0, 43, 1, 4), (21, .aload_n 0, 22, 0, 0, 0, 0), (22, .iload_n 1, 23, 0, 0, 0, 0), (23, .invokevirtual 115, 26, 0, 97, 1, 5), (26, .istore_n 2, 27, 0, 0, 0, 0), (27, .aload_n 0, 28, 0, 0, 0, 0), (28, .iload_n 1, 29, 0, 0, 0, 0), (29, .invokevirtual 118, 32, 0, 95, 1, 5), (32, .ifCond .ne 12, 35, 44, 0, 0, 0), (35, .aload_n 0, 36, 0, 0, 0, 0), (36, .iload_n 1, 37, 0, 0, 0, 0), (37, .aload_n 0, 38, 0, 0, 0, 0), (38, .getfield 121, 41, 8, 36, 0, 0), (41, .invokevirtual 124, 44, 0, 103, 2, 5), (44, .iload_n 2, 45, 0, 0, 0, 0), (45, .iconst (-1), 46, 0, 0, 0, 0), (46, .if_icmp .ne 11, 49, 57, 0, 0, 0), (49, .aload_n 0, 50, 0, 0, 0, 0), (50, .iload_n 1, 51, 0, 0, 0, 0), (51, .invokevirtual 128, 54, 0, 104, 1, 5), (54, .goto 4, 57, 58, 0, 0, 0), (57, .iload_n 2, 58, 0, 0, 0, 0), (58, .ireturn, 59, 0, 0, 0, 0)]
def zc_X5_ray : List zRow := [(0, .iload_n 1, 1, 0, 0, 0, 0), (1, .invokestatic 83, 4, 0, 82, 1, 0), (4, .iload_n 2, 5, 0, 0, 0, 0), (5, .iconst 1, 6, 0, 0, 0, 0), (6, .if_icmp .lt 14, 9, 20, 0, 0, 0), (9, .iload_n 2, 10, 0, 0, 0, 0), (10, .aload_n 0, 11, 0, 0, 0, 0), (11, .getfield 12, 14, 0, 28, 0, 0), (14, .invokevirtual 131, 17, 0, 5, 0, 0), (17, .if_icmp .lt 13, 20, 30, 0, 0, 0), (20, .new 62, 23, 9, 0, 0, 0), (23, .dup, 24, 0, 0, 0, 0), (29, .athrow, 30, 0, 0, 0, 0), (30, .aload_n 0, 31, 0, 0, 0, 0), (31, .getfield 19, 34, 1, 29, 0, 0), (34, .aload_n 0, 35, 0, 0, 0, 0), (35, .iload_n 1, 36, 0, 0, 0, 0), (36, .invokevirtual 137, 39, 0, 91, 1, 5), (39, .aload_n 0, 40, 0, 0, 0, 0), (40, .iload_n 1, 41, 0, 0, 0, 0), (41, .invokevirtual 106, 44, 0, 92, 1, 5), (44, .iload_n 2, 45, 0, 0, 0, 0), (45, .ixor, 46, 0, 0, 0, 0), (46, .invokevirtual 140, 49, 0, 41, 2, 4), (49, .aload_n 0, 50, 0, 0, 0, 0), (50, .iload_n 1, 51, 0, 0, 0, 0), (51, .invokevirtual 106, 54, 0, 92, 1, 5), (54, .ireturn, 55, 0, 0, 0, 0)]
def zc_X5_stick : List zRow := [(0, .iload_n 1, 1, 0, 0, 0, 0), (1, .invokestatic 83, 4, 0, 82, 1, 0), (4, .aload_n 0, 5, 0, 0, 0, 0), (5, .getfield 12, 8, 0, 28, 0, 0), (8, .iload_n 2, 9, 0, 0, 0, 0), (9, .invokevirtual 143, 12, 0, 7, 1, 0), (12, .ifCond .ne 13, 15, 25, 0, 0, 0), (15, .new 62, 18, 9, 0, 0, 0), (18, .dup, 19, 0, 0, 0, 0), (24, .athrow, 25, 0, 0, 0, 0), (25, .aload_n 0, 26, 0, 0, 0, 0), (26, .getfield 19, 29, 1, 29, 0, 0), (29, .getfield 148, 32, 4, 20, 0, 0), (32, .invokevirtual 152, 35, 0, 20, 0, 1), (35, .ifCond .eq 13, 38, 48, 0, 0, 0), (38, .new 158, 41, 9, 2, 0, 0), (41, .dup, 42, 0, 0, 0, 0), (47, .athrow, 48, 0, 0, 0, 0), (48, .aload_n 0, 49, 0, 0, 0, 0), (49, .getfield 19, 52, 1, 29, 0, 0), (52, .getfield 148, 55, 4, 20, 0, 0), (55, .aload_n 0, 56, 0, 0, 0, 0), (56, .iload_n 1, 57, 0, 0, 0, 0), (57, .invokevirtual 137, 60, 0, 91, 1, 5), (60, .iconst 1, 61, 0, 0, 0, 0), (61, .iload_n 2, 62, 0, 0, 0, 0), (62, .ishl, 63, 0, 0, 0, 0), (63, .iload_n 3, 64, 0, 0, 0, 0), (64, .ifCond .eq 7, 67, 71, 0, 0, 0), (67, .iconst 1, 68, 0, 0, 0, 0), (68, .goto 4, 71, 72, 0, 0, 0), (71, .iconst 0, 72, 0, 0, 0, 0), (72, .invokevirtual 163, 75, 0, 21, 3, 1), (75, .aload_n 0, 76, 0, 0, 0, 0), (76, .getfield 19, 79, 1, 29, 0, 0), (79, .aload_n 0, 80, 0, 0, 0, 0), (80, .iload_n 1, 81, 0, 0, 0, 0), (81, .invokevirtual 137, 84, 0, 91, 1, 5), (84, .aload_n 0, 85, 0, 0, 0, 0), (85, .iload_n 1, 86, 0, 0, 0, 0), (86, .invokevirtual 106, 89, 0, 92, 1, 5), (89, .invokevirtual 140, 92, 0, 41, 2, 4), (92, .aload_n 0, 93, 0, 0, 0, 0), (93, .getfield 19, 96, 1, 29, 0, 0), (96, .getfield 148, 99, 4, 20, 0, 0), (99, .getfield 167, 102, 3, 8, 0, 0), (102, .ireturn, 103, 0, 0, 0, 0)]
def zc_X5_weak : List zRow := [(0, .iload_n 1, 1, 0, 0, 0, 0), (1, .invokestatic 83, 4, 0, 82, 1, 0), (4, .aload_n 0, 5, 0, 0, 0, 0), (5, .getfield 12, 8, 0, 28, 0, 0), (8, .iload_n 2, 9, 0, 0, 0, 0), (9, .invokevirtual 143, 12, 0, 7, 1, 0), (12, .ifCond .ne 13, 15, 25, 0, 0, 0), (15, .new 62, 18, 9, 0, 0, 0), (18, .dup, 19, 0, 0, 0, 0), (24, .athrow, 25, 0, 0, 0, 0), (25, .iload_n 3, 26, 0, 0, 0, 0), (26, .iconst 1, 27, 0, 0, 0, 0), (27, .if_icmp .lt 9, 30, 36, 0, 0, 0), (30, .iload_n 3, 31, 0, 0, 0, 0), (31, .bipush 60, 33, 0, 0, 0, 0), (33, .if_icmp .le 13, 36, 46, 0, 0, 0), (36, .new 62, 39, 9, 0, 0, 0), (39, .dup, 40, 0, 0, 0, 0), (45, .athrow, 46, 0, 0, 0, 0), (46, .aload_n 0, 47, 0, 0, 0, 0), (47, .getfield 19, 50, 1, 29, 0, 0), (50, .getfield 172, 53, 5, 21, 0, 0), (53, .invokevirtual 152, 56, 0, 20, 0, 1), (56, .ifCond .eq 13, 59, 69, 0, 0, 0), (59, .new 158, 62, 9, 2, 0, 0), (62, .dup, 63, 0, 0, 0, 0), (68, .athrow, 69, 0, 0, 0, 0), (69, .aload_n 0, 70, 0, 0, 0, 0), (70, .getfield 19, 73, 1, 29, 0, 0), (73, .getfield 172, 76, 5, 21, 0, 0), (76, .aload_n 0, 77, 0, 0, 0, 0), (77, .iload_n 1, 78, 0, 0, 0, 0), (78, .invokevirtual 137, 81, 0, 91, 1, 5), (81, .iconst 1, 82, 0, 0, 0, 0), (82, .iload_n 2, 83, 0, 0, 0, 0), (83, .ishl, 84, 0, 0, 0, 0), (84, .iload_n 3, 85, 0, 0, 0, 0), (85, .invokevirtual 163, 88, 0, 21, 3, 1), (88, .aload_n 0, 89, 0, 0, 0, 0), (89, .getfield 19, 92, 1, 29, 0, 0), (92, .getfield 172, 95, 5, 21, 0, 0), (95, .getfield 167, 98, 3, 8, 0, 0), (98, .ireturn, 99, 0, 0, 0, 0)]
def zc_X5_hammer : List zRow := [(0, .iload_n 1, 1, 0, 0, 0, 0), (1, .iload_n 2, 2, 0, 0, 0, 0), (2, .invokestatic 177, 5, 0, 84, 2, 0), (5, .iload_n 3, 6, 0, 0, 0, 0), (6, .iconst 1, 7, 0, 0, 0, 0), (7, .if_icmp .lt 9, 10, 16, 0, 0, 0), (10, .iload_n 3, 11, 0, 0, 0, 0), (11, .bipush 100, 13, 0, 0, 0, 0), (13, .if_icmp .le 13, 16, 26, 0, 0, 0), (16, .new 62, 19, 9, 0, 0, 0), (19, .dup, 20, 0, 0, 0, 0), (25, .athrow, 26, 0, 0, 0, 0), (26, .aload_n 0, 27, 0, 0, 0, 0), (27, .iload_n 1, 28, 0, 0, 0, 0), (28, .iload_n 2, 29, 0, 0, 0, 0), (29, .invokestatic 182, 32, 0, 88, 2, 0), (32, .invokevirtual 109, 35, 0, 90, 1, 5), (35, .istore 4, 37, 0, 0, 0, 0), (37, .iconst 0, 38, 0, 0, 0, 0), (38, .istore 5, 40, 0, 0, 0, 0), (40, .iload 5, 42, 0, 0, 0, 0), (42, .iload_n 3, 43, 0, 0, 0, 0), (43, .if_icmp .ge 18, 46, 61, 0, 0, 0), (46, .aload_n 0, 47, 0, 0, 0, 0), (47, .getfield 19, 50, 1, 29, 0, 0), (50, .iload 4, 52, 0, 0, 0, 0), (52, .invokevirtual 112, 55, 0, 43, 1, 4), (55, .iinc 5 1, 58, 0, 0, 0, 0), (58, .goto (-18), 61, 40, 0, 0, 0), (61, .aload_n 0, 62, 0, 0, 0, 0), (62, .getfield 19, 65, 1, 29, 0, 0), (65, .getfield 186, 68, 1, 17, 0, 0), (68, .iload 4, 70, 0, 0, 0, 0), (70, .invokevirtual 189, 73, 0, 25, 1, 2), (73, .ireturn, 74, 0, 0, 0, 0)]
def zc_X5_run : List zRow := [(0, .iload_n 1, 1, 0, 0, 0, 0), (1, .iconst 1, 2, 0, 0, 0, 0), (2, .if_icmp .lt 9, 5, 11, 0, 0, 0), (5, .iload_n 1, 6, 0, 0, 0, 0), (6, .bipush 100, 8, 0, 0, 0, 0), (8, .if_icmp .le 13, 11, 21, 0, 0, 0), (11, .new 62, 14, 9, 0, 0, 0), (14, .dup, 15, 0, 0, 0, 0), (20, .athrow, 21, 0, 0, 0, 0), (21, .iload_n 2, 22, 0, 0, 0, 0), (22, .iconst 2, 23, 0, 0, 0, 0), (23, .if_icmp .lt 9, 26, 32, 0, 0, 0), (26, .iload_n 2, 27, 0, 0, 0, 0), (27, .bipush 100, 29, 0, 0, 0, 0), (29, .if_icmp .le 13, 32, 42, 0, 0, 0), (32, .new 62, 35, 9, 0, 0, 0), (35, .dup, 36, 0, 0, 0, 0), (41, .athrow, 42, 0, 0, 0, 0), (42, .iload_n 3, 43, 0, 0, 0, 0), (43, .ifCond .lt 9, 46, 52, 0, 0, 0), (46, .iload_n 3, 47, 0, 0, 0, 0), (47, .bipush 8, 49, 0, 0, 0, 0), (49, .if_icmp .le 13, 52, 62, 0, 0, 0), (52, .new 62, 55, 9, 0, 0, 0), (55, .dup, 56, 0, 0, 0, 0), (61, .athrow, 62, 0, 0, 0, 0), (62, .aload_n 0, 63, 0, 0, 0, 0), (63, .getfield 198, 66, 7, 35, 0, 0), (66, .istore 6, 68, 0, 0, 0, 0), (68, .aload_n 0, 69, 0, 0, 0, 0), (69, .getfield 19, 72, 1, 29, 0, 0), (72, .iload_n 1, 73, 0, 0, 0, 0), (73, .putfield 201, 76, 8, 24, 0, 0), (76, .aload_n 0, 77, 0, 0, 0, 0), (77, .getfield 19, 80, 1, 29, 0, 0), (80, .iload_n 2, 81, 0, 0, 0, 0), (81, .putfield 204, 84, 9, 25, 0, 0), (84, .aload_n 0, 85, 0, 0, 0, 0), (85, .iload_n 3, 86, 0, 0, 0, 0), (86, .putfield 198, 89, 7, 35, 0, 0), (89, .aload_n 0, 90, 0, 0, 0, 0), (90, .iload 4, 92, 0, 0, 0, 0), (92, .putfield 121, 95, 8, 36, 0, 0), (95, .aload_n 0, 96, 0, 0, 0, 0), (96, .iload 5, 98, 0, 0, 0, 0), (98, .putfield 98, 101, 9, 37, 0, 0), (101, .iload 6, 103, 0, 0, 0, 0), (103, .ireturn, 104, 0, 0, 0, 0)]
def zc_X5_spare : List zRow := [(0, .iload_n 1, 1, 0, 0, 0, 0), (1, .iload_n 2, 2, 0, 0, 0, 0), (2, .invokestatic 177, 5, 0, 84, 2, 0), (5, .aload_n 0, 6, 0, 0, 0, 0), (6, .getfield 39, 9, 4, 32, 0, 0), (9, .iload_n 1, 10, 0, 0, 0, 0), (10, .invokevirtual 189, 13, 0, 25, 1, 2), (13, .istore_n 3, 14, 0, 0, 0, 0), (14, .iload_n 3, 15, 0, 0, 0, 0), (15, .iconst 2, 16, 0, 0, 0, 0), (16, .if_icmp .lt 13, 19, 29, 0, 0, 0), (19, .new 158, 22, 9, 2, 0, 0), (22, .dup, 23, 0, 0, 0, 0), (28, .athrow, 29, 0, 0, 0, 0), (29, .aload_n 0, 30, 0, 0, 0, 0), (30, .iload_n 1, 31, 0, 0, 0, 0), (31, .iload_n 2, 32, 0, 0, 0, 0), (32, .bipush 8, 34, 0, 0, 0, 0), (34, .iload_n 3, 35, 0, 0, 0, 0), (35, .iadd, 36, 0, 0, 0, 0), (36, .invokevirtual 209, 39, 0, 106, 3, 5), (39, .aload_n 0, 40, 0, 0, 0, 0), (40, .getfield 39, 43, 4, 32, 0, 0), (43, .iload_n 1, 44, 0, 0, 0, 0), (44, .iload_n 3, 45, 0, 0, 0, 0), (45, .iconst 1, 46, 0, 0, 0, 0), (46, .iadd, 47, 0, 0, 0, 0), (47, .invokevirtual 48, 50, 0, 26, 2, 2), (50, .iload_n 3, 51, 0, 0, 0, 0), (51, .iconst 1, 52, 0, 0, 0, 0), (52, .iadd, 53, 0, 0, 0, 0), (53, .ireturn, 54, 0, 0, 0, 0)]
def zc_X5_retire : List zRow := [(0, .iload_n 1, 1, 0, 0, 0, 0), (1, .invokestatic 83, 4, 0, 82, 1, 0), (4, .aload_n 0, 5, 0, 0, 0, 0), (5, .getfield 45, 8, 6, 34, 0, 0), (8, .iload_n 1, 9, 0, 0, 0, 0), (9, .iload_n 2, 10, 0, 0, 0, 0), (10, .ifCond .eq 7, 13, 17, 0, 0, 0), (13, .iconst 1, 14, 0, 0, 0, 0), (14, .goto 4, 17, 18, 0, 0, 0), (17, .iconst 0, 18, 0, 0, 0, 0), (18, .invokevirtual 48, 21, 0, 26, 2, 2), (21, .aload_n 0, 22, 0, 0, 0, 0), (22, .getfield 45, 25, 6, 34, 0, 0), (25, .invokevirtual 212, 28, 0, 28, 0, 2), (28, .ireturn, 29, 0, 0, 0, 0)]
def zc_X5_pass : List zRow := [(0, .iload_n 1, 1, 0, 0, 0, 0), (1, .invokestatic 215, 4, 0, 85, 1, 0), (4, .aload_n 0, 5, 0, 0, 0, 0), (5, .getfield 19, 8, 1, 29, 0, 0), (8, .getfield 218, 11, 7, 23, 0, 0), (11, .iload_n 1, 12, 0, 0, 0, 0), (12, .iadd, 13, 0, 0, 0, 0), (13, .sipush 2000, 16, 0, 0, 0, 0), (16, .if_icmp .le 13, 19, 29, 0, 0, 0), (19, .new 158, 22, 9, 2, 0, 0), (22, .dup, 23, 0, 0, 0, 0), (28, .athrow, 29, 0, 0, 0, 0), (29, .iconst 0, 30, 0, 0, 0, 0), (30, .istore_n 2, 31, 0, 0, 0, 0), (31, .iload_n 2, 32, 0, 0, 0, 0), (32, .iload_n 1, 33, 0, 0, 0, 0), (33, .if_icmp .ge 20, 36, 53, 0, 0, 0), (36, .aload_n 0, 37, 0, 0, 0, 0), (37, .getfield 19, 40, 1, 29, 0, 0), (40, .invokevirtual 223, 43, 0, 46, 0, 4), (43, .aload_n 0, 44, 0, 0, 0, 0), (44, .invokevirtual 226, 47, 0, 105, 0, 5), (47, .iinc 2 1, 50, 0, 0, 0, 0), (50, .goto (-19), 53, 31, 0, 0, 0), (53, .aload_n 0, 54, 0, 0, 0, 0), (54, .getfield 19, 57, 1, 29, 0, 0), (57, .getfield 218, 60, 7, 23, 0, 0), (60, .ireturn, 61, 0, 0, 0, 0)]
def zc_X5_clear : List zRow := [(0, .aload_n 0, 1, 0, 0, 0, 0), (1, .getfield 26, 4, 2, 30, 0, 0), (4, .getfield 229, 7, 3, 13, 0, 0), (7, .istore_n 1, 8, 0, 0, 0, 0), (8, .aload_n 0, 9, 0, 0, 0, 0), (9, .getfield 26, 12, 2, 30, 0, 0), (12, .invokevirtual 80, 15, 0, 30, 0, 3), (15, .iload_n 1, 16, 0, 0, 0, 0), (16, .ireturn, 17, 0, 0, 0, 0)]
def zc_X5_call : List zRow := [(0, .aload_n 0, 1, 0, 0, 0, 0), (1, .dup, 2, 0, 0, 0, 0), (2, .getfield 230, 5, 11, 39, 0, 0), (5, .iconst 1, 6, 0, 0, 0, 0), (6, .iadd, 7, 0, 0, 0, 0), (7, .putfield 230, 10, 11, 39, 0, 0), (10, .aload_n 0, 11, 0, 0, 0, 0), (11, .getfield 230, 14, 11, 39, 0, 0), (14, .ireturn, 15, 0, 0, 0, 0)]
def zc_X5_column : List zRow := [(0, .aload_n 0, 1, 0, 0, 0, 0), (1, .getfield 12, 4, 0, 28, 0, 0), (4, .iload_n 1, 5, 0, 0, 0, 0), (5, .invokevirtual 143, 8, 0, 7, 1, 0), (8, .ifCond .ne 13, 11, 21, 0, 0, 0), (11, .new 233, 14, 9, 1, 0, 0), (14, .dup, 15, 0, 0, 0, 0), (20, .athrow, 21, 0, 0, 0, 0), (21, .aload_n 0, 22, 0, 0, 0, 0), (22, .getfield 12, 25, 0, 28, 0, 0), (25, .getfield 236, 28, 0, 0, 0, 0), (28, .iload_n 1, 29, 0, 0, 0, 0), (29, .invokevirtual 189, 32, 0, 25, 1, 2), (32, .ireturn, 33, 0, 0, 0, 0)]
def zc_X5_encode : List zRow := [(0, .aload_n 0, 1, 0, 0, 0, 0), (1, .iload_n 1, 2, 0, 0, 0, 0), (2, .invokevirtual 86, 5, 0, 86, 1, 5), (5, .aload_n 0, 6, 0, 0, 0, 0), (6, .getfield 12, 9, 0, 28, 0, 0), (9, .iload_n 1, 10, 0, 0, 0, 0), (10, .invokevirtual 239, 13, 0, 14, 1, 0), (13, .ireturn, 14, 0, 0, 0, 0)]
def zc_X5_decode : List zRow := [(0, .iload_n 1, 1, 0, 0, 0, 0), (1, .ifCond .lt 14, 4, 15, 0, 0, 0), (4, .iload_n 1, 5, 0, 0, 0, 0), (5, .aload_n 0, 6, 0, 0, 0, 0), (6, .getfield 12, 9, 0, 28, 0, 0), (9, .invokevirtual 131, 12, 0, 5, 0, 0), (12, .if_icmp .lt 13, 15, 25, 0, 0, 0), (15, .new 62, 18, 9, 0, 0, 0), (18, .dup, 19, 0, 0, 0, 0), (24, .athrow, 25, 0, 0, 0, 0), (25, .iload_n 2, 26, 0, 0, 0, 0), (26, .tableswitch 69 0 3 #[30, 39, 48, 60], 56, 0, 0, 0, 0), (56, .aload_n 0, 57, 0, 0, 0, 0), (57, .getfield 12, 60, 0, 28, 0, 0), (60, .iload_n 1, 61, 0, 0, 0, 0), (61, .invokevirtual 244, 64, 0, 8, 1, 0), (64, .ireturn, 65, 0, 0, 0, 0), (65, .aload_n 0, 66, 0, 0, 0, 0), (66, .getfield 12, 69, 0, 28, 0, 0), (69, .iload_n 1, 70, 0, 0, 0, 0), (70, .invokevirtual 247, 73, 0, 11, 1, 0), (73, .ireturn, 74, 0, 0, 0, 0), (74, .aload_n 0, 75, 0, 0, 0, 0), (75, .getfield 12, 78, 0, 28, 0, 0), (78, .iload_n 1, 79, 0, 0, 0, 0), (79, .invokevirtual 250, 82, 0, 9, 1, 0), (82, .invokestatic 253, 85, 0, 12, 1, 0), (85, .ireturn, 86, 0, 0, 0, 0), (86, .aload_n 0, 87, 0, 0, 0, 0), (87, .getfield 12, 90, 0, 28, 0, 0), (90, .iload_n 1, 91, 0, 0, 0, 0), (91, .invokevirtual 256, 94, 0, 13, 1, 0), (94, .ireturn, 95, 0, 0, 0, 0), (95, .new 62, 98, 9, 0, 0, 0), (98, .dup, 99, 0, 0, 0, 0), (105, .athrow, 106, 0, 0, 0, 0)]
def zc_X5_fooled : List zRow := [(0, .iload_n 1, 1, 0, 0, 0, 0), (1, .iconst 2, 2, 0, 0, 0, 0), (2, .if_icmp .eq 19, 5, 21, 0, 0, 0), (5, .iload_n 1, 6, 0, 0, 0, 0), (6, .iconst 3, 7, 0, 0, 0, 0), (7, .if_icmp .eq 14, 10, 21, 0, 0, 0), (10, .new 62, 13, 9, 0, 0, 0), (13, .dup, 14, 0, 0, 0, 0), (20, .athrow, 21, 0, 0, 0, 0), (21, .aload_n 0, 22, 0, 0, 0, 0), (22, .getfield 12, 25, 0, 28, 0, 0), (25, .iload_n 1, 26, 0, 0, 0, 0), (26, .invokevirtual 263, 29, 0, 15, 1, 0), (29, .ireturn, 30, 0, 0, 0, 0)]
def zc_X5_ofWord : List zRow := [(0, .iload_n 1, 1, 0, 0, 0, 0), (1, .invokestatic 83, 4, 0, 82, 1, 0), (4, .aload_n 0, 5, 0, 0, 0, 0), (5, .iload_n 1, 6, 0, 0, 0, 0), (6, .invokevirtual 137, 9, 0, 91, 1, 5), (9, .istore_n 3, 10, 0, 0, 0, 0), (10, .iload_n 2, 11, 0, 0, 0, 0), (11, .tableswitch 120 0 6 #[41, 47, 60, 69, 78, 90, 105], 52, 0, 0, 0, 0), (52, .aload_n 0, 53, 0, 0, 0, 0), (53, .iload_n 1, 54, 0, 0, 0, 0), (54, .invokevirtual 106, 57, 0, 92, 1, 5), (57, .ireturn, 58, 0, 0, 0, 0), (58, .aload_n 0, 59, 0, 0, 0, 0), (59, .getfield 12, 62, 0, 28, 0, 0), (62, .aload_n 0, 63, 0, 0, 0, 0), (63, .iload_n 1, 64, 0, 0, 0, 0), (64, .invokevirtual 106, 67, 0, 92, 1, 5), (67, .invokevirtual 247, 70, 0, 11, 1, 0), (70, .ireturn, 71, 0, 0, 0, 0), (71, .aload_n 0, 72, 0, 0, 0, 0), (72, .getfield 42, 75, 5, 33, 0, 0), (75, .iload_n 1, 76, 0, 0, 0, 0), (76, .invokevirtual 189, 79, 0, 25, 1, 2), (79, .ireturn, 80, 0, 0, 0, 0), (80, .aload_n 0, 81, 0, 0, 0, 0), (81, .getfield 45, 84, 6, 34, 0, 0), (84, .iload_n 1, 85, 0, 0, 0, 0), (85, .invokevirtual 189, 88, 0, 25, 1, 2), (88, .ireturn, 89, 0, 0, 0, 0), (89, .aload_n 0, 90, 0, 0, 0, 0), (90, .getfield 35, 93, 3, 31, 0, 0), (93, .iload_n 1, 94, 0, 0, 0, 0), (94, .bipush 8, 96, 0, 0, 0, 0), (96, .idiv, 97, 0, 0, 0, 0), (97, .invokevirtual 189, 100, 0, 25, 1, 2), (100, .ireturn, 101, 0, 0, 0, 0), (101, .aload_n 0, 102, 0, 0, 0, 0), (102, .getfield 19, 105, 1, 29, 0, 0), (105, .getfield 148, 108, 4, 20, 0, 0), (108, .iload_n 3, 109, 0, 0, 0, 0), (109, .iload_n 3, 110, 0, 0, 0, 0), (110, .iconst 1, 111, 0, 0, 0, 0), (111, .iadd, 112, 0, 0, 0, 0), (112, .invokevirtual 266, 115, 0, 23, 2, 1), (115, .ireturn, 116, 0, 0, 0, 0), (116, .aload_n 0, 117, 0, 0, 0, 0), (117, .getfield 19, 120, 1, 29, 0, 0), (120, .getfield 172, 123, 5, 21, 0, 0), (123, .iload_n 3, 124, 0, 0, 0, 0), (124, .iload_n 3, 125, 0, 0, 0, 0), (125, .iconst 1, 126, 0, 0, 0, 0), (126, .iadd, 127, 0, 0, 0, 0), (127, .invokevirtual 266, 130, 0, 23, 2, 1), (130, .ireturn, 131, 0, 0, 0, 0), (131, .new 62, 134, 9, 0, 0, 0), (134, .dup, 135, 0, 0, 0, 0), (141, .athrow, 142, 0, 0, 0, 0)]
def zc_X5_ofLine : List zRow := [(0, .iload_n 1, 1, 0, 0, 0, 0), (1, .invokestatic 271, 4, 0, 83, 1, 0), (4, .iload_n 2, 5, 0, 0, 0, 0), (5, .ifCond .lt 9, 8, 14, 0, 0, 0), (8, .iload_n 2, 9, 0, 0, 0, 0), (9, .bipush 10, 11, 0, 0, 0, 0), (11, .if_icmp .lt 14, 14, 25, 0, 0, 0), (14, .new 233, 17, 9, 1, 0, 0), (17, .dup, 18, 0, 0, 0, 0), (24, .athrow, 25, 0, 0, 0, 0), (25, .iload_n 1, 26, 0, 0, 0, 0), (26, .bipush 10, 28, 0, 0, 0, 0), (28, .imul, 29, 0, 0, 0, 0), (29, .iload_n 2, 30, 0, 0, 0, 0), (30, .iadd, 31, 0, 0, 0, 0), (31, .istore 4, 33, 0, 0, 0, 0), (33, .iload_n 3, 34, 0, 0, 0, 0), (34, .tableswitch 89 0 4 #[34, 47, 54, 75, 82], 68, 0, 0, 0, 0), (68, .aload_n 0, 69, 0, 0, 0, 0), (69, .getfield 19, 72, 1, 29, 0, 0), (72, .getfield 186, 75, 1, 17, 0, 0), (75, .iload 4, 77, 0, 0, 0, 0), (77, .invokevirtual 189, 80, 0, 25, 1, 2), (80, .ireturn, 81, 0, 0, 0, 0), (81, .aload_n 0, 82, 0, 0, 0, 0), (82, .iload_n 1, 83, 0, 0, 0, 0), (83, .iload_n 2, 84, 0, 0, 0, 0), (84, .invokevirtual 276, 87, 0, 93, 2, 5), (87, .ireturn, 88, 0, 0, 0, 0), (88, .aload_n 0, 89, 0, 0, 0, 0), (89, .getfield 19, 92, 1, 29, 0, 0), (92, .getfield 218, 95, 7, 23, 0, 0), (95, .aload_n 0, 96, 0, 0, 0, 0), (96, .getfield 19, 99, 1, 29, 0, 0), (99, .getfield 279, 102, 2, 18, 0, 0), (102, .iload 4, 104, 0, 0, 0, 0), (104, .invokevirtual 189, 107, 0, 25, 1, 2), (107, .isub, 108, 0, 0, 0, 0), (108, .ireturn, 109, 0, 0, 0, 0), (109, .aload_n 0, 110, 0, 0, 0, 0), (110, .iload 4, 112, 0, 0, 0, 0), (112, .invokevirtual 282, 115, 0, 99, 1, 5), (115, .ireturn, 116, 0, 0, 0, 0), (116, .aload_n 0, 117, 0, 0, 0, 0), (117, .iload 4, 119, 0, 0, 0, 0), (119, .invokevirtual 285, 122, 0, 100, 1, 5), (122, .ireturn, 123, 0, 0, 0, 0), (123, .new 62, 126, 9, 0, 0, 0), (126, .dup, 127, 0, 0, 0, 0), (133, .athrow, 134, 0, 0, 0, 0)]
def zc_X5_ofEntry : List zRow := [(0, .iload_n 1, 1, 0, 0, 0, 0), (1, .ifCond .lt 14, 4, 15, 0, 0, 0), (4, .iload_n 1, 5, 0, 0, 0, 0), (5, .aload_n 0, 6, 0, 0, 0, 0), (6, .getfield 26, 9, 2, 30, 0, 0), (9, .getfield 229, 12, 3, 13, 0, 0), (12, .if_icmp .lt 14, 15, 26, 0, 0, 0), (15, .new 233, 18, 9, 1, 0, 0), (18, .dup, 19, 0, 0, 0, 0), (25, .athrow, 26, 0, 0, 0, 0), (26, .iload_n 2, 27, 0, 0, 0, 0), (27, .tableswitch 61 0 2 #[25, 37, 49], 52, 0, 0, 0, 0), (52, .aload_n 0, 53, 0, 0, 0, 0), (53, .getfield 26, 56, 2, 30, 0, 0), (56, .getfield 292, 59, 0, 10, 0, 0), (59, .iload_n 1, 60, 0, 0, 0, 0), (60, .invokevirtual 189, 63, 0, 25, 1, 2), (63, .ireturn, 64, 0, 0, 0, 0), (64, .aload_n 0, 65, 0, 0, 0, 0), (65, .getfield 26, 68, 2, 30, 0, 0), (68, .getfield 295, 71, 1, 11, 0, 0), (71, .iload_n 1, 72, 0, 0, 0, 0), (72, .invokevirtual 189, 75, 0, 25, 1, 2), (75, .ireturn, 76, 0, 0, 0, 0), (76, .aload_n 0, 77, 0, 0, 0, 0), (77, .getfield 26, 80, 2, 30, 0, 0), (80, .getfield 298, 83, 2, 12, 0, 0), (83, .iload_n 1, 84, 0, 0, 0, 0), (84, .invokevirtual 189, 87, 0, 25, 1, 2), (87, .ireturn, 88, 0, 0, 0, 0), (88, .new 62, 91, 9, 0, 0, 0), (91, .dup, 92, 0, 0, 0, 0), (98, .athrow, 99, 0, 0, 0, 0)]
def zc_X5_blame : List zRow := [(0, .iload_n 1, 1, 0, 0, 0, 0), (1, .invokestatic 271, 4, 0, 83, 1, 0), (4, .iconst 1, 5, 0, 0, 0, 0), (5, .istore_n 3, 6, 0, 0, 0, 0), (6, .iload_n 3, 7, 0, 0, 0, 0), (7, .iconst 4, 8, 0, 0, 0, 0), (8, .if_icmp .gt 37, 11, 45, 0, 0, 0), (11, .aload_n 0, 12, 0, 0, 0, 0), (12, .getfield 26, 15, 2, 30, 0, 0), (15, .iload_n 1, 16, 0, 0, 0, 0), (16, .iload_n 3, 17, 0, 0, 0, 0), (17, .invokevirtual 303, 20, 0, 32, 2, 3), (20, .istore 4, 22, 0, 0, 0, 0), (22, .iload 4, 24, 0, 0, 0, 0), (24, .iconst (-1), 25, 0, 0, 0, 0), (25, .if_icmp .eq 14, 28, 39, 0, 0, 0), (28, .iload_n 2, 29, 0, 0, 0, 0), (29, .ifCond .eq 8, 32, 37, 0, 0, 0), (32, .iload 4, 34, 0, 0, 0, 0), (34, .goto 4, 37, 38, 0, 0, 0), (37, .iload_n 3, 38, 0, 0, 0, 0), (38, .ireturn, 39, 0, 0, 0, 0), (39, .iinc 3 1, 42, 0, 0, 0, 0), (42, .goto (-36), 45, 6, 0, 0, 0), (45, .iload_n 2, 46, 0, 0, 0, 0), (46, .ifCond .eq 7, 49, 53, 0, 0, 0), (49, .iconst (-1), 50, 0, 0, 0, 0), (50, .goto 4, 53, 54, 0, 0, 0), (53, .iconst 0, 54, 0, 0, 0, 0), (54, .ireturn, 55, 0, 0, 0, 0)]
def zc_X5_board : List zRow := [(0, .iload_n 1, 1, 0, 0, 0, 0), (1, .tableswitch 238 0 17 #[87, 95, 103, 111, 119, 127, 132, 145, 158, 163, 171, 179, 187, 195, 203, 214, 225, 233], 88, 0, 0, 0, 0), (88, .aload_n 0, 89, 0, 0, 0, 0), (89, .getfield 19, 92, 1, 29, 0, 0), (92, .getfield 218, 95, 7, 23, 0, 0), (95, .ireturn, 96, 0, 0, 0, 0), (96, .aload_n 0, 97, 0, 0, 0, 0), (97, .getfield 12, 100, 0, 28, 0, 0), (100, .getfield 306, 103, 2, 2, 0, 0), (103, .ireturn, 104, 0, 0, 0, 0), (104, .aload_n 0, 105, 0, 0, 0, 0), (105, .getfield 12, 108, 0, 28, 0, 0), (108, .getfield 309, 111, 3, 3, 0, 0), (111, .ireturn, 112, 0, 0, 0, 0), (112, .aload_n 0, 113, 0, 0, 0, 0), (113, .getfield 19, 116, 1, 29, 0, 0), (116, .getfield 201, 119, 8, 24, 0, 0), (119, .ireturn, 120, 0, 0, 0, 0), (120, .aload_n 0, 121, 0, 0, 0, 0), (121, .getfield 19, 124, 1, 29, 0, 0), (124, .getfield 204, 127, 9, 25, 0, 0), (127, .ireturn, 128, 0, 0, 0, 0), (128, .aload_n 0, 129, 0, 0, 0, 0), (129, .getfield 198, 132, 7, 35, 0, 0), (132, .ireturn, 133, 0, 0, 0, 0), (133, .aload_n 0, 134, 0, 0, 0, 0), (134, .getfield 121, 137, 8, 36, 0, 0), (137, .ifCond .eq 7, 140, 144, 0, 0, 0), (140, .iconst 1, 141, 0, 0, 0, 0), (141, .goto 4, 144, 145, 0, 0, 0), (144, .iconst 0, 145, 0, 0, 0, 0), (145, .ireturn, 146, 0, 0, 0, 0), (146, .aload_n 0, 147, 0, 0, 0, 0), (147, .getfield 98, 150, 9, 37, 0, 0), (150, .ifCond .eq 7, 153, 157, 0, 0, 0), (153, .iconst 1, 154, 0, 0, 0, 0), (154, .goto 4, 157, 158, 0, 0, 0), (157, .iconst 0, 158, 0, 0, 0, 0), (158, .ireturn, 159, 0, 0, 0, 0), (159, .aload_n 0, 160, 0, 0, 0, 0), (160, .getfield 312, 163, 10, 38, 0, 0), (163, .ireturn, 164, 0, 0, 0, 0), (164, .aload_n 0, 165, 0, 0, 0, 0), (165, .getfield 26, 168, 2, 30, 0, 0), (168, .getfield 229, 171, 3, 13, 0, 0), (171, .ireturn, 172, 0, 0, 0, 0), (172, .aload_n 0, 173, 0, 0, 0, 0), (173, .getfield 26, 176, 2, 30, 0, 0), (176, .getfield 315, 179, 4, 14, 0, 0), (179, .ireturn, 180, 0, 0, 0, 0), (180, .aload_n 0, 181, 0, 0, 0, 0), (181, .getfield 26, 184, 2, 30, 0, 0), (184, .getfield 318, 187, 5, 15, 0, 0), (187, .ireturn, 188, 0, 0, 0, 0), (188, .aload_n 0, 189, 0, 0, 0, 0), (189, .getfield 42, 192, 5, 33, 0, 0), (192, .invokevirtual 212, 195, 0, 28, 0, 2), (195, .ireturn, 196, 0, 0, 0, 0), (196, .aload_n 0, 197, 0, 0, 0, 0), (197, .getfield 45, 200, 6, 34, 0, 0), (200, .invokevirtual 212, 203, 0, 28, 0, 2), (203, .ireturn, 204, 0, 0, 0, 0), (204, .aload_n 0, 205, 0, 0, 0, 0), (205, .getfield 19, 208, 1, 29, 0, 0), (208, .getfield 148, 211, 4, 20, 0, 0), (211, .getfield 167, 214, 3, 8, 0, 0), (214, .ireturn, 215, 0, 0, 0, 0), (215, .aload_n 0, 216, 0, 0, 0, 0), (216, .getfield 19, 219, 1, 29, 0, 0), (219, .getfield 172, 222, 5, 21, 0, 0), (222, .getfield 167, 225, 3, 8, 0, 0), (225, .ireturn, 226, 0, 0, 0, 0), (226, .aload_n 0, 227, 0, 0, 0, 0), (227, .getfield 19, 230, 1, 29, 0, 0), (230, .getfield 321, 233, 11, 27, 0, 0), (233, .ireturn, 234, 0, 0, 0, 0), (234, .aload_n 0, 235, 0, 0, 0, 0), (235, .getfield 230, 238, 11, 39, 0, 0), (238, .ireturn, 239, 0, 0, 0, 0), (239, .new 62, 242, 9, 0, 0, 0), (242, .dup, 243, 0, 0, 0, 0), (249, .athrow, 250, 0, 0, 0, 0)]
def zc_X5_health : List zRow := [(0, .iload_n 1, 1, 0, 0, 0, 0), (1, .invokestatic 271, 4, 0, 83, 1, 0), (4, .iconst 0, 5, 0, 0, 0, 0), (5, .istore_n 2, 6, 0, 0, 0, 0), (6, .iconst 0, 7, 0, 0, 0, 0), (7, .istore_n 3, 8, 0, 0, 0, 0), (8, .iload_n 3, 9, 0, 0, 0, 0), (9, .bipush 64, 11, 0, 0, 0, 0), (11, .if_icmp .ge 45, 14, 56, 0, 0, 0), (14, .iload_n 1, 15, 0, 0, 0, 0), (15, .bipush 64, 17, 0, 0, 0, 0), (17, .imul, 18, 0, 0, 0, 0), (18, .iload_n 3, 19, 0, 0, 0, 0), (19, .iadd, 20, 0, 0, 0, 0), (20, .istore 4, 22, 0, 0, 0, 0), (22, .aload_n 0, 23, 0, 0, 0, 0), (23, .iload 4, 25, 0, 0, 0, 0), (25, .invokevirtual 118, 28, 0, 95, 1, 5), (28, .ifCond .ne 22, 31, 50, 0, 0, 0), (31, .aload_n 0, 32, 0, 0, 0, 0), (32, .getfield 12, 35, 0, 28, 0, 0), (35, .aload_n 0, 36, 0, 0, 0, 0), (36, .iload 4, 38, 0, 0, 0, 0), (38, .invokevirtual 106, 41, 0, 92, 1, 5), (41, .invokevirtual 326, 44, 0, 10, 1, 0), (44, .ifCond .eq 6, 47, 50, 0, 0, 0), (47, .iinc 2 1, 50, 0, 0, 0, 0), (50, .iinc 3 1, 53, 0, 0, 0, 0), (53, .goto (-45), 56, 8, 0, 0, 0), (56, .iload_n 2, 57, 0, 0, 0, 0), (57, .i2d, 58, 0, 0, 0, 0), (58, .ldc2_w 329, 61, 1, 4634204016564240384, 0, 0), (61, .ddiv, 62, 0, 0, 0, 0), (62, .dreturn, 63, 0, 0, 0, 0)]
def zc_X5_tell : List zRow := [(0, .iload_n 1, 1, 0, 0, 0, 0), (1, .iload_n 2, 2, 0, 0, 0, 0), (2, .invokestatic 177, 5, 0, 84, 2, 0), (5, .new 331, 8, 0, 0, 0, 8), (8, .dup, 9, 0, 0, 0, 0), (9, .invokespecial 333, 12, 0, 221, 0, 0), (12, .astore_n 3, 13, 0, 0, 0, 0), (13, .iconst 0, 14, 0, 0, 0, 0), (14, .istore 4, 16, 0, 0, 0, 0), (16, .iload 4, 18, 0, 0, 0, 0), (18, .bipush 8, 20, 0, 0, 0, 0), (20, .if_icmp .ge 26, 23, 46, 0, 0, 0), (23, .aload_n 3, 24, 0, 0, 0, 0), (24, .aload_n 0, 25, 0, 0, 0, 0), (25, .iload_n 1, 26, 0, 0, 0, 0), (26, .iload_n 2, 27, 0, 0, 0, 0), (27, .invokestatic 182, 30, 0, 88, 2, 0), (30, .iload 4, 32, 0, 0, 0, 0), (32, .iadd, 33, 0, 0, 0, 0), (33, .invokevirtual 334, 36, 0, 98, 1, 5), (36, .invokevirtual 338, 39, 0, 220, 1, 8), (39, .pop, 40, 0, 0, 0, 0), (40, .iinc 4 1, 43, 0, 0, 0, 0), (43, .goto (-27), 46, 16, 0, 0, 0), (46, .aload_n 3, 47, 0, 0, 0, 0), (47, .invokevirtual 342, 50, 0, 222, 0, 8), (50, .areturn, 51, 0, 0, 0, 0)]
def zc_X5_wouldRead : List zRow := [(0, .iload_n 1, 1, 0, 0, 0, 0), (1, .invokestatic 83, 4, 0, 82, 1, 0), (4, .aload_n 0, 5, 0, 0, 0, 0), (5, .iload_n 1, 6, 0, 0, 0, 0), (6, .invokevirtual 102, 9, 0, 96, 1, 5), (9, .ifCond .eq 6, 12, 15, 0, 0, 0), (12, .bipush (-2), 14, 0, 0, 0, 0), (14, .ireturn, 15, 0, 0, 0, 0), (15, .aload_n 0, 16, 0, 0, 0, 0), (16, .iload_n 1, 17, 0, 0, 0, 0), (17, .invokevirtual 115, 20, 0, 97, 1, 5), (20, .istore_n 2, 21, 0, 0, 0, 0), (21, .iload_n 1, 22, 0, 0, 0, 0), (22, .invokestatic 95, 25, 0, 89, 1, 0), (25, .istore_n 3, 26, 0, 0, 0, 0), (26, .iload_n 2, 27, 0, 0, 0, 0), (27, .iconst (-1), 28, 0, 0, 0, 0), (28, .if_icmp .ne 24, 31, 52, 0, 0, 0), (31, .aload_n 0, 32, 0, 0, 0, 0), (32, .getfield 98, 35, 9, 37, 0, 0), (35, .ifCond .eq 17, 38, 52, 0, 0, 0), (38, .aload_n 0, 39, 0, 0, 0, 0), (39, .iload_n 3, 40, 0, 0, 0, 0), (40, .invokevirtual 102, 43, 0, 96, 1, 5), (43, .ifCond .ne 9, 46, 52, 0, 0, 0), (46, .aload_n 0, 47, 0, 0, 0, 0), (47, .iload_n 3, 48, 0, 0, 0, 0), (48, .invokevirtual 115, 51, 0, 97, 1, 5), (51, .istore_n 2, 52, 0, 0, 0, 0), (52, .iload_n 2, 53, 0, 0, 0, 0), (53, .ireturn, 54, 0, 0, 0, 0)]
def zc_X5_wouldSpare : List zRow := [(0, .iload_n 1, 1, 0, 0, 0, 0), (1, .invokestatic 271, 4, 0, 83, 1, 0), (4, .aload_n 0, 5, 0, 0, 0, 0), (5, .getfield 39, 8, 4, 32, 0, 0), (8, .iload_n 1, 9, 0, 0, 0, 0), (9, .invokevirtual 189, 12, 0, 25, 1, 2), (12, .iconst 2, 13, 0, 0, 0, 0), (13, .if_icmp .lt 5, 16, 18, 0, 0, 0), (16, .iconst (-1), 17, 0, 0, 0, 0), (17, .ireturn, 18, 0, 0, 0, 0), (18, .iconst (-1), 19, 0, 0, 0, 0), (19, .istore_n 2, 20, 0, 0, 0, 0), (20, .iconst 0, 21, 0, 0, 0, 0), (21, .istore_n 3, 22, 0, 0, 0, 0), (22, .iconst 0, 23, 0, 0, 0, 0), (23, .istore 4, 25, 0, 0, 0, 0), (25, .iconst 0, 26, 0, 0, 0, 0), (26, .istore 5, 28, 0, 0, 0, 0), (28, .iload 5, 30, 0, 0, 0, 0), (30, .bipush 8, 32, 0, 0, 0, 0), (32, .if_icmp .ge 71, 35, 103, 0, 0, 0), (35, .aload_n 0, 36, 0, 0, 0, 0), (36, .iload_n 1, 37, 0, 0, 0, 0), (37, .iload 5, 39, 0, 0, 0, 0), (39, .invokestatic 182, 42, 0, 88, 2, 0), (42, .invokevirtual 109, 45, 0, 90, 1, 5), (45, .istore 6, 47, 0, 0, 0, 0), (47, .aload_n 0, 48, 0, 0, 0, 0), (48, .iload 6, 50, 0, 0, 0, 0), (50, .invokevirtual 285, 53, 0, 100, 1, 5), (53, .istore 7, 55, 0, 0, 0, 0), (55, .aload_n 0, 56, 0, 0, 0, 0), (56, .iload 6, 58, 0, 0, 0, 0), (58, .invokevirtual 282, 61, 0, 99, 1, 5), (61, .istore 8, 63, 0, 0, 0, 0), (63, .iload 7, 65, 0, 0, 0, 0), (65, .iload_n 3, 66, 0, 0, 0, 0), (66, .if_icmp .gt 21, 69, 87, 0, 0, 0), (69, .iload 7, 71, 0, 0, 0, 0), (71, .ifCond .le 26, 74, 97, 0, 0, 0), (74, .iload 7, 76, 0, 0, 0, 0), (76, .iload_n 3, 77, 0, 0, 0, 0), (77, .if_icmp .ne 20, 80, 97, 0, 0, 0), (80, .iload 8, 82, 0, 0, 0, 0), (82, .iload 4, 84, 0, 0, 0, 0), (84, .if_icmp .le 13, 87, 97, 0, 0, 0), (87, .iload 5, 89, 0, 0, 0, 0), (89, .istore_n 2, 90, 0, 0, 0, 0), (90, .iload 7, 92, 0, 0, 0, 0), (92, .istore_n 3, 93, 0, 0, 0, 0), (93, .iload 8, 95, 0, 0, 0, 0), (95, .istore 4, 97, 0, 0, 0, 0), (97, .iinc 5 1, 100, 0, 0, 0, 0), (100, .goto (-72), 103, 28, 0, 0, 0), (103, .iload_n 2, 104, 0, 0, 0, 0), (104, .ireturn, 105, 0, 0, 0, 0)]
def zc_X5_wouldLeak : List zRow := [(0, .iload_n 1, 1, 0, 0, 0, 0), (1, .invokestatic 215, 4, 0, 85, 1, 0), (4, .aload_n 0, 5, 0, 0, 0, 0), (5, .getfield 19, 8, 1, 29, 0, 0), (8, .iload_n 1, 9, 0, 0, 0, 0), (9, .invokevirtual 346, 12, 0, 48, 1, 4), (12, .ireturn, 13, 0, 0, 0, 0)]
def zc_X5_isSound : List zRow := [(0, .aload_n 0, 1, 0, 0, 0, 0), (1, .getfield 12, 4, 0, 28, 0, 0), (4, .invokevirtual 349, 7, 0, 18, 0, 0), (7, .ifCond .eq 34, 10, 41, 0, 0, 0), (10, .aload_n 0, 11, 0, 0, 0, 0), (11, .getfield 19, 14, 1, 29, 0, 0), (14, .invokevirtual 352, 17, 0, 51, 0, 4), (17, .ifCond .eq 24, 20, 41, 0, 0, 0), (20, .aload_n 0, 21, 0, 0, 0, 0), (21, .getfield 26, 24, 2, 30, 0, 0), (24, .invokevirtual 353, 27, 0, 38, 0, 3), (27, .ifCond .eq 14, 30, 41, 0, 0, 0), (30, .aload_n 0, 31, 0, 0, 0, 0), (31, .invokevirtual 354, 34, 0, 94, 0, 5), (34, .ifCond .eq 7, 37, 41, 0, 0, 0), (37, .iconst 1, 38, 0, 0, 0, 0), (38, .goto 4, 41, 42, 0, 0, 0), (41, .iconst 0, 42, 0, 0, 0, 0), (42, .ireturn, 43, 1, 0, 0, 0)]
def zc_X5_digest : List zRow := [(0, .ldc2_w 357, 3, 0, 58281, 0, 0), (3, .lstore_n 1, 4, 0, 0, 0, 0), (4, .iconst 0, 5, 0, 0, 0, 0), (5, .istore_n 3, 6, 0, 0, 0, 0), (6, .iload_n 3, 7, 0, 0, 0, 0), (7, .bipush 18, 9, 0, 0, 0, 0), (9, .if_icmp .ge 20, 12, 29, 0, 0, 0), (12, .lload_n 1, 13, 0, 0, 0, 0), (13, .aload_n 0, 14, 0, 0, 0, 0), (14, .iload_n 3, 15, 0, 0, 0, 0), (15, .invokevirtual 359, 18, 0, 74, 1, 5), (18, .i2l, 19, 0, 0, 0, 0), (19, .invokestatic 362, 22, 0, 107, 2, 0), (22, .lstore_n 1, 23, 0, 0, 0, 0), (23, .iinc 3 1, 26, 0, 0, 0, 0), (26, .goto (-20), 29, 6, 0, 0, 0), (29, .iconst 0, 30, 0, 0, 0, 0), (30, .istore_n 3, 31, 0, 0, 0, 0), (31, .iload_n 3, 32, 0, 0, 0, 0), (32, .aload_n 0, 33, 0, 0, 0, 0), (33, .getfield 12, 36, 0, 28, 0, 0), (36, .getfield 55, 39, 4, 4, 0, 0), (39, .if_icmp .ge 20, 42, 59, 0, 0, 0), (42, .lload_n 1, 43, 0, 0, 0, 0), (43, .aload_n 0, 44, 0, 0, 0, 0), (44, .iload_n 3, 45, 0, 0, 0, 0), (45, .invokevirtual 366, 48, 0, 66, 1, 5), (48, .i2l, 49, 0, 0, 0, 0), (49, .invokestatic 362, 52, 0, 107, 2, 0), (52, .lstore_n 1, 53, 0, 0, 0, 0), (53, .iinc 3 1, 56, 0, 0, 0, 0), (56, .goto (-25), 59, 31, 0, 0, 0), (59, .lload_n 1, 60, 0, 0, 0, 0), (60, .aload_n 0, 61, 0, 0, 0, 0), (61, .iconst 2, 62, 0, 0, 0, 0), (62, .invokevirtual 369, 65, 0, 69, 1, 5), (65, .i2l, 66, 0, 0, 0, 0), (66, .invokestatic 362, 69, 0, 107, 2, 0), (69, .lstore_n 1, 70, 0, 0, 0, 0), (70, .lload_n 1, 71, 0, 0, 0, 0), (71, .aload_n 0, 72, 0, 0, 0, 0), (72, .iconst 3, 73, 0, 0, 0, 0), (73, .invokevirtual 369, 76, 0, 69, 1, 5), (76, .i2l, 77, 0, 0, 0, 0), (77, .invokestatic 362, 80, 0, 107, 2, 0), (80, .lstore_n 1, 81, 0, 0, 0, 0), (81, .iconst 0, 82, 0, 0, 0, 0), (82, .istore_n 3, 83, 0, 0, 0, 0), (83, .iload_n 3, 84, 0, 0, 0, 0), (84, .iconst 2, 85, 0, 0, 0, 0), (85, .if_icmp .ge 16, 88, 101, 0, 0, 0), (88, .aload_n 0, 89, 0, 0, 0, 0), (89, .lload_n 1, 90, 0, 0, 0, 0), (90, .iload_n 3, 91, 0, 0, 0, 0), (91, .invokevirtual 372, 94, 0, 108, 2, 5), (94, .lstore_n 1, 95, 0, 0, 0, 0), (95, .iinc 3 1, 98, 0, 0, 0, 0), (98, .goto (-15), 101, 83, 0, 0, 0), (101, .iconst 0, 102, 0, 0, 0, 0), (102, .istore_n 3, 103, 0, 0, 0, 0), (103, .iload_n 3, 104, 0, 0, 0, 0), (104, .sipush 128, 107, 0, 0, 0, 0), (107, .if_icmp .ge 44, 110, 151, 0, 0, 0), (110, .lload_n 1, 111, 0, 0, 0, 0), (111, .aload_n 0, 112, 0, 0, 0, 0), (112, .iload_n 3, 113, 0, 0, 0, 0), (113, .iconst 0, 114, 0, 0, 0, 0), (114, .invokevirtual 376, 117, 0, 70, 2, 5), (117, .i2l, 118, 0, 0, 0, 0), (118, .invokestatic 362, 121, 0, 107, 2, 0), (121, .lstore_n 1, 122, 0, 0, 0, 0), (122, .lload_n 1, 123, 0, 0, 0, 0), (123, .aload_n 0, 124, 0, 0, 0, 0), (124, .iload_n 3, 125, 0, 0, 0, 0), (125, .iconst 2, 126, 0, 0, 0, 0), (126, .invokevirtual 376, 129, 0, 70, 2, 5), (129, .i2l, 130, 0, 0, 0, 0), (130, .invokestatic 362, 133, 0, 107, 2, 0), (133, .lstore_n 1, 134, 0, 0, 0, 0), (134, .lload_n 1, 135, 0, 0, 0, 0), (135, .aload_n 0, 136, 0, 0, 0, 0), (136, .iload_n 3, 137, 0, 0, 0, 0), (137, .invokevirtual 379, 140, 0, 77, 1, 5), (140, .i2l, 141, 0, 0, 0, 0), (141, .invokestatic 362, 144, 0, 107, 2, 0), (144, .lstore_n 1, 145, 0, 0, 0, 0), (145, .iinc 3 1, 148, 0, 0, 0, 0), (148, .goto (-45), 151, 103, 0, 0, 0), (151, .iconst 0, 152, 0, 0, 0, 0), (152, .istore_n 3, 153, 0, 0, 0, 0), (153, .iload_n 3, 154, 0, 0, 0, 0), (154, .aload_n 0, 155, 0, 0, 0, 0), (155, .getfield 26, 158, 2, 30, 0, 0), (158, .getfield 229, 161, 3, 13, 0, 0), (161, .if_icmp .ge 37, 164, 198, 0, 0, 0), (164, .iconst 0, 165, 0, 0, 0, 0), (165, .istore 4, 167, 0, 0, 0, 0), (167, .iload 4, 169, 0, 0, 0, 0), (169, .iconst 3, 170, 0, 0, 0, 0), (170, .if_icmp .ge 22, 173, 192, 0, 0, 0), (173, .lload_n 1, 174, 0, 0, 0, 0), (174, .aload_n 0, 175, 0, 0, 0, 0), (175, .iload_n 3, 176, 0, 0, 0, 0), (176, .iload 4, 178, 0, 0, 0, 0), (178, .invokevirtual 382, 181, 0, 72, 2, 5), (181, .i2l, 182, 0, 0, 0, 0), (182, .invokestatic 362, 185, 0, 107, 2, 0), (185, .lstore_n 1, 186, 0, 0, 0, 0), (186, .iinc 4 1, 189, 0, 0, 0, 0), (189, .goto (-22), 192, 167, 0, 0, 0), (192, .iinc 3 1, 195, 0, 0, 0, 0), (195, .goto (-42), 198, 153, 0, 0, 0), (198, .lload_n 1, 199, 0, 0, 0, 0), (199, .aload_n 0, 200, 0, 0, 0, 0), (200, .bipush 20, 202, 0, 0, 0, 0), (202, .invokevirtual 385, 205, 0, 79, 1, 5), (205, .i2l, 206, 0, 0, 0, 0), (206, .invokestatic 362, 209, 0, 107, 2, 0), (209, .lstore_n 1, 210, 0, 0, 0, 0), (210, .lload_n 1, 211, 0, 0, 0, 0), (211, .aload_n 0, 212, 0, 0, 0, 0), (212, .invokevirtual 388, 215, 0, 80, 0, 5), (215, .ifCond .eq 7, 218, 222, 0, 0, 0), (218, .lconst 1, 219, 0, 0, 0, 0), (219, .goto 4, 222, 223, 0, 0, 0), (222, .lconst 0, 223, 0, 0, 0, 0), (223, .invokestatic 362, 226, 0, 107, 2, 0), (226, .lreturn, 227, 0, 0, 0, 0)]
def zc_X5_checkAddress : List zRow := [(0, .iload_n 0, 1, 0, 0, 0, 0), (1, .ifCond .lt 10, 4, 11, 0, 0, 0), (4, .iload_n 0, 5, 0, 0, 0, 0), (5, .sipush 128, 8, 0, 0, 0, 0), (8, .if_icmp .lt 14, 11, 22, 0, 0, 0), (11, .new 233, 14, 9, 1, 0, 0), (14, .dup, 15, 0, 0, 0, 0), (21, .athrow, 22, 0, 0, 0, 0), (22, .return_, 23, 0, 0, 0, 0)]
def zc_X5_checkBank : List zRow := [(0, .iload_n 0, 1, 0, 0, 0, 0), (1, .ifCond .lt 8, 4, 9, 0, 0, 0), (4, .iload_n 0, 5, 0, 0, 0, 0), (5, .iconst 2, 6, 0, 0, 0, 0), (6, .if_icmp .lt 14, 9, 20, 0, 0, 0), (9, .new 233, 12, 9, 1, 0, 0), (12, .dup, 13, 0, 0, 0, 0), (19, .athrow, 20, 0, 0, 0, 0), (20, .return_, 21, 0, 0, 0, 0)]
def zc_X5_checkRow : List zRow := [(0, .iload_n 0, 1, 0, 0, 0, 0), (1, .invokestatic 271, 4, 0, 83, 1, 0), (4, .iload_n 1, 5, 0, 0, 0, 0), (5, .ifCond .lt 9, 8, 14, 0, 0, 0), (8, .iload_n 1, 9, 0, 0, 0, 0), (9, .bipush 8, 11, 0, 0, 0, 0), (11, .if_icmp .lt 14, 14, 25, 0, 0, 0), (14, .new 233, 17, 9, 1, 0, 0), (17, .dup, 18, 0, 0, 0, 0), (24, .athrow, 25, 0, 0, 0, 0), (25, .return_, 26, 0, 0, 0, 0)]
def zc_X5_checkTicks : List zRow := [(0, .iload_n 0, 1, 0, 0, 0, 0), (1, .iconst 1, 2, 0, 0, 0, 0), (2, .if_icmp .lt 9, 5, 11, 0, 0, 0), (5, .iload_n 0, 6, 0, 0, 0, 0), (6, .bipush 100, 8, 0, 0, 0, 0), (8, .if_icmp .le 14, 11, 22, 0, 0, 0), (11, .new 62, 14, 9, 0, 0, 0), (14, .dup, 15, 0, 0, 0, 0), (21, .athrow, 22, 0, 0, 0, 0), (22, .return_, 23, 0, 0, 0, 0)]
def zc_X5_checkData : List zRow := [(0, .iload_n 1, 1, 0, 0, 0, 0), (1, .ifCond .lt 14, 4, 15, 0, 0, 0), (4, .iload_n 1, 5, 0, 0, 0, 0), (5, .aload_n 0, 6, 0, 0, 0, 0), (6, .getfield 12, 9, 0, 28, 0, 0), (9, .invokevirtual 399, 12, 0, 6, 0, 0), (12, .if_icmp .le 14, 15, 26, 0, 0, 0), (15, .new 62, 18, 9, 0, 0, 0), (18, .dup, 19, 0, 0, 0, 0), (25, .athrow, 26, 0, 0, 0, 0), (26, .return_, 27, 0, 0, 0, 0)]
def zc_X5_checkNotRetired : List zRow := [(0, .aload_n 0, 1, 0, 0, 0, 0), (1, .iload_n 1, 2, 0, 0, 0, 0), (2, .invokevirtual 102, 5, 0, 96, 1, 5), (5, .ifCond .eq 14, 8, 19, 0, 0, 0), (8, .new 158, 11, 9, 2, 0, 0), (11, .dup, 12, 0, 0, 0, 0), (18, .athrow, 19, 0, 0, 0, 0), (19, .return_, 20, 0, 0, 0, 0)]
def zc_X5_firstAddress : List zRow := [(0, .iload_n 0, 1, 0, 0, 0, 0), (1, .bipush 64, 3, 0, 0, 0, 0), (3, .imul, 4, 0, 0, 0, 0), (4, .iload_n 1, 5, 0, 0, 0, 0), (5, .bipush 8, 7, 0, 0, 0, 0), (7, .imul, 8, 0, 0, 0, 0), (8, .iadd, 9, 0, 0, 0, 0), (9, .ireturn, 10, 0, 0, 0, 0)]
def zc_X5_twinOf : List zRow := [(0, .iload_n 0, 1, 0, 0, 0, 0), (1, .bipush 64, 3, 0, 0, 0, 0), (3, .if_icmp .ge 10, 6, 13, 0, 0, 0), (6, .iload_n 0, 7, 0, 0, 0, 0), (7, .bipush 64, 9, 0, 0, 0, 0), (9, .iadd, 10, 0, 0, 0, 0), (10, .goto 7, 13, 17, 0, 0, 0), (13, .iload_n 0, 14, 0, 0, 0, 0), (14, .bipush 64, 16, 0, 0, 0, 0), (16, .isub, 17, 0, 0, 0, 0), (17, .ireturn, 18, 0, 0, 0, 0)]
def zc_X5_lineAt : List zRow := [(0, .iload_n 1, 1, 0, 0, 0, 0), (1, .bipush 64, 3, 0, 0, 0, 0), (3, .idiv, 4, 0, 0, 0, 0), (4, .bipush 10, 6, 0, 0, 0, 0), (6, .imul, 7, 0, 0, 0, 0), (7, .aload_n 0, 8, 0, 0, 0, 0), (8, .getfield 35, 11, 3, 31, 0, 0), (11, .iload_n 1, 12, 0, 0, 0, 0), (12, .bipush 8, 14, 0, 0, 0, 0), (14, .idiv, 15, 0, 0, 0, 0), (15, .invokevirtual 189, 18, 0, 25, 1, 2), (18, .iadd, 19, 0, 0, 0, 0), (19, .ireturn, 20, 0, 0, 0, 0)]
def zc_X5_cellAt : List zRow := [(0, .aload_n 0, 1, 0, 0, 0, 0), (1, .iload_n 1, 2, 0, 0, 0, 0), (2, .invokevirtual 109, 5, 0, 90, 1, 5), (5, .bipush 8, 7, 0, 0, 0, 0), (7, .imul, 8, 0, 0, 0, 0), (8, .iload_n 1, 9, 0, 0, 0, 0), (9, .bipush 8, 11, 0, 0, 0, 0), (11, .irem, 12, 0, 0, 0, 0), (12, .iadd, 13, 0, 0, 0, 0), (13, .ireturn, 14, 0, 0, 0, 0)]
def zc_X5_wordAt : List zRow := [(0, .aload_n 0, 1, 0, 0, 0, 0), (1, .getfield 19, 4, 1, 29, 0, 0), (4, .getfield 406, 7, 0, 16, 0, 0), (7, .aload_n 0, 8, 0, 0, 0, 0), (8, .iload_n 1, 9, 0, 0, 0, 0), (9, .invokevirtual 137, 12, 0, 91, 1, 5), (12, .invokevirtual 189, 15, 0, 25, 1, 2), (15, .ireturn, 16, 0, 0, 0, 0)]
def zc_X5_rowOn : List zRow := [(0, .iconst 0, 1, 0, 0, 0, 0), (1, .istore_n 3, 2, 0, 0, 0, 0), (2, .iload_n 3, 3, 0, 0, 0, 0), (3, .bipush 8, 5, 0, 0, 0, 0), (5, .if_icmp .ge 28, 8, 33, 0, 0, 0), (8, .aload_n 0, 9, 0, 0, 0, 0), (9, .getfield 35, 12, 3, 31, 0, 0), (12, .iload_n 1, 13, 0, 0, 0, 0), (13, .bipush 8, 15, 0, 0, 0, 0), (15, .imul, 16, 0, 0, 0, 0), (16, .iload_n 3, 17, 0, 0, 0, 0), (17, .iadd, 18, 0, 0, 0, 0), (18, .invokevirtual 189, 21, 0, 25, 1, 2), (21, .iload_n 2, 22, 0, 0, 0, 0), (22, .if_icmp .ne 5, 25, 27, 0, 0, 0), (25, .iload_n 3, 26, 0, 0, 0, 0), (26, .ireturn, 27, 0, 0, 0, 0), (27, .iinc 3 1, 30, 0, 0, 0, 0), (30, .goto (-28), 33, 2, 0, 0, 0), (33, .iconst (-1), 34, 0, 0, 0, 0), (34, .ireturn, 35, 0, 0, 0, 0)]
def zc_X5_rowsHaveOwnLines : List zRow := [(0, .iconst 0, 1, 0, 0, 0, 0), (1, .istore_n 1, 2, 0, 0, 0, 0), (2, .iload_n 1, 3, 0, 0, 0, 0), (3, .bipush 16, 5, 0, 0, 0, 0), (5, .if_icmp .ge 34, 8, 39, 0, 0, 0), (8, .aload_n 0, 9, 0, 0, 0, 0), (9, .iload_n 1, 10, 0, 0, 0, 0), (10, .bipush 8, 12, 0, 0, 0, 0), (12, .idiv, 13, 0, 0, 0, 0), (13, .aload_n 0, 14, 0, 0, 0, 0), (14, .getfield 35, 17, 3, 31, 0, 0), (17, .iload_n 1, 18, 0, 0, 0, 0), (18, .invokevirtual 189, 21, 0, 25, 1, 2), (21, .invokevirtual 276, 24, 0, 93, 2, 5), (24, .iload_n 1, 25, 0, 0, 0, 0), (25, .bipush 8, 27, 0, 0, 0, 0), (27, .irem, 28, 0, 0, 0, 0), (28, .if_icmp .eq 5, 31, 33, 0, 0, 0), (31, .iconst 0, 32, 0, 0, 0, 0), (32, .ireturn, 33, 1, 0, 0, 0), (33, .iinc 1 1, 36, 0, 0, 0, 0), (36, .goto (-34), 39, 2, 0, 0, 0), (39, .iconst 1, 40, 0, 0, 0, 0), (40, .ireturn, 41, 1, 0, 0, 0)]
def zc_X5_isPoisoned : List zRow := [(0, .aload_n 0, 1, 0, 0, 0, 0), (1, .getfield 42, 4, 5, 33, 0, 0), (4, .iload_n 1, 5, 0, 0, 0, 0), (5, .invokevirtual 189, 8, 0, 25, 1, 2), (8, .ifCond .eq 7, 11, 15, 0, 0, 0), (11, .iconst 1, 12, 0, 0, 0, 0), (12, .goto 4, 15, 16, 0, 0, 0), (15, .iconst 0, 16, 0, 0, 0, 0), (16, .ireturn, 17, 1, 0, 0, 0)]
def zc_X5_isRetired : List zRow := [(0, .aload_n 0, 1, 0, 0, 0, 0), (1, .getfield 45, 4, 6, 34, 0, 0), (4, .iload_n 1, 5, 0, 0, 0, 0), (5, .invokevirtual 189, 8, 0, 25, 1, 2), (8, .ifCond .eq 7, 11, 15, 0, 0, 0), (11, .iconst 1, 12, 0, 0, 0, 0), (12, .goto 4, 15, 16, 0, 0, 0), (15, .iconst 0, 16, 0, 0, 0, 0), (16, .ireturn, 17, 1, 0, 0, 0)]
def zc_X5_dataAt : List zRow := [(0, .aload_n 0, 1, 0, 0, 0, 0), (1, .iload_n 1, 2, 0, 0, 0, 0), (2, .invokevirtual 118, 5, 0, 95, 1, 5), (5, .ifCond .eq 7, 8, 12, 0, 0, 0), (8, .iconst (-1), 9, 0, 0, 0, 0), (9, .goto 15, 12, 24, 0, 0, 0), (12, .aload_n 0, 13, 0, 0, 0, 0), (13, .getfield 12, 16, 0, 28, 0, 0), (16, .aload_n 0, 17, 0, 0, 0, 0), (17, .iload_n 1, 18, 0, 0, 0, 0), (18, .invokevirtual 106, 21, 0, 92, 1, 5), (21, .invokevirtual 256, 24, 0, 13, 1, 0), (24, .ireturn, 25, 0, 0, 0, 0)]
def zc_X5_signOf : List zRow := [(0, .aload_n 0, 1, 0, 0, 0, 0), (1, .iload_n 1, 2, 0, 0, 0, 0), (2, .invokevirtual 102, 5, 0, 96, 1, 5), (5, .ifCond .eq 6, 8, 11, 0, 0, 0), (8, .bipush 120, 10, 0, 0, 0, 0), (10, .ireturn, 11, 2, 0, 0, 0), (11, .aload_n 0, 12, 0, 0, 0, 0), (12, .iload_n 1, 13, 0, 0, 0, 0), (13, .invokevirtual 118, 16, 0, 95, 1, 5), (16, .ifCond .eq 6, 19, 22, 0, 0, 0), (19, .bipush 112, 21, 0, 0, 0, 0), (21, .ireturn, 22, 2, 0, 0, 0), (22, .aload_n 0, 23, 0, 0, 0, 0), (23, .getfield 12, 26, 0, 28, 0, 0), (26, .aload_n 0, 27, 0, 0, 0, 0), (27, .iload_n 1, 28, 0, 0, 0, 0), (28, .invokevirtual 106, 31, 0, 92, 1, 5), (31, .invokevirtual 247, 34, 0, 11, 1, 0), (34, .lookupswitch 32 #[(0, 26), (1, 29)], 60, 0, 0, 0, 0), (60, .bipush 46, 62, 0, 0, 0, 0), (62, .ireturn, 63, 2, 0, 0, 0), (63, .bipush 109, 65, 0, 0, 0, 0), (65, .ireturn, 66, 2, 0, 0, 0), (66, .bipush 66, 68, 0, 0, 0, 0), (68, .ireturn, 69, 2, 0, 0, 0)]
def zc_X5_stuckIn : List zRow := [(0, .aload_n 0, 1, 0, 0, 0, 0), (1, .getfield 19, 4, 1, 29, 0, 0), (4, .getfield 148, 7, 4, 20, 0, 0), (7, .iload_n 1, 8, 0, 0, 0, 0), (8, .bipush 8, 10, 0, 0, 0, 0), (10, .imul, 11, 0, 0, 0, 0), (11, .iload_n 1, 12, 0, 0, 0, 0), (12, .bipush 8, 14, 0, 0, 0, 0), (14, .imul, 15, 0, 0, 0, 0), (15, .bipush 8, 17, 0, 0, 0, 0), (17, .iadd, 18, 0, 0, 0, 0), (18, .invokevirtual 266, 21, 0, 23, 2, 1), (21, .ireturn, 22, 0, 0, 0, 0)]
def zc_X5_uncleanIn : List zRow := [(0, .iconst 0, 1, 0, 0, 0, 0), (1, .istore_n 2, 2, 0, 0, 0, 0), (2, .iconst 0, 3, 0, 0, 0, 0), (3, .istore_n 3, 4, 0, 0, 0, 0), (4, .iload_n 3, 5, 0, 0, 0, 0), (5, .bipush 8, 7, 0, 0, 0, 0), (7, .if_icmp .ge 38, 10, 45, 0, 0, 0), (10, .aload_n 0, 11, 0, 0, 0, 0), (11, .getfield 12, 14, 0, 28, 0, 0), (14, .aload_n 0, 15, 0, 0, 0, 0), (15, .getfield 19, 18, 1, 29, 0, 0), (18, .getfield 406, 21, 0, 16, 0, 0), (21, .iload_n 1, 22, 0, 0, 0, 0), (22, .bipush 8, 24, 0, 0, 0, 0), (24, .imul, 25, 0, 0, 0, 0), (25, .iload_n 3, 26, 0, 0, 0, 0), (26, .iadd, 27, 0, 0, 0, 0), (27, .invokevirtual 189, 30, 0, 25, 1, 2), (30, .invokevirtual 326, 33, 0, 10, 1, 0), (33, .ifCond .ne 6, 36, 39, 0, 0, 0), (36, .iinc 2 1, 39, 0, 0, 0, 0), (39, .iinc 3 1, 42, 0, 0, 0, 0), (42, .goto (-38), 45, 4, 0, 0, 0), (45, .iload_n 2, 46, 0, 0, 0, 0), (46, .ireturn, 47, 0, 0, 0, 0)]
def zc_X5_store : List zRow := [(0, .aload_n 0, 1, 0, 0, 0, 0), (1, .getfield 19, 4, 1, 29, 0, 0), (4, .aload_n 0, 5, 0, 0, 0, 0), (5, .iload_n 1, 6, 0, 0, 0, 0), (6, .invokevirtual 109, 9, 0, 90, 1, 5), (9, .invokevirtual 112, 12, 0, 43, 1, 4), (12, .aload_n 0, 13, 0, 0, 0, 0), (13, .iload_n 1, 14, 0, 0, 0, 0), (14, .iload_n 2, 15, 0, 0, 0, 0), (15, .invokevirtual 408, 18, 0, 102, 2, 5), (18, .return_, 19, 0, 0, 0, 0)]
def zc_X5_replace : List zRow := [(0, .aload_n 0, 1, 0, 0, 0, 0), (1, .getfield 19, 4, 1, 29, 0, 0), (4, .aload_n 0, 5, 0, 0, 0, 0), (5, .iload_n 1, 6, 0, 0, 0, 0), (6, .invokevirtual 137, 9, 0, 91, 1, 5), (9, .aload_n 0, 10, 0, 0, 0, 0), (10, .getfield 12, 13, 0, 28, 0, 0), (13, .iload_n 2, 14, 0, 0, 0, 0), (14, .invokevirtual 239, 17, 0, 14, 1, 0), (17, .invokevirtual 140, 20, 0, 41, 2, 4), (20, .aload_n 0, 21, 0, 0, 0, 0), (21, .getfield 42, 24, 5, 33, 0, 0), (24, .iload_n 1, 25, 0, 0, 0, 0), (25, .iconst 0, 26, 0, 0, 0, 0), (26, .invokevirtual 48, 29, 0, 26, 2, 2), (29, .return_, 30, 0, 0, 0, 0)]
def zc_X5_report : List zRow := [(0, .aload_n 0, 1, 0, 0, 0, 0), (1, .iload_n 1, 2, 0, 0, 0, 0), (2, .invokevirtual 106, 5, 0, 92, 1, 5), (5, .istore_n 3, 6, 0, 0, 0, 0), (6, .aload_n 0, 7, 0, 0, 0, 0), (7, .getfield 12, 10, 0, 28, 0, 0), (10, .iload_n 3, 11, 0, 0, 0, 0), (11, .invokevirtual 250, 14, 0, 9, 1, 0), (14, .istore 4, 16, 0, 0, 0, 0), (16, .iload 4, 18, 0, 0, 0, 0), (18, .ifCond .ne 4, 21, 22, 0, 0, 0), (21, .return_, 22, 0, 0, 0, 0), (22, .aload_n 0, 23, 0, 0, 0, 0), (23, .getfield 26, 26, 2, 30, 0, 0), (26, .iload_n 1, 27, 0, 0, 0, 0), (27, .iload 4, 29, 0, 0, 0, 0), (29, .invokestatic 253, 32, 0, 12, 1, 0), (32, .aload_n 0, 33, 0, 0, 0, 0), (33, .getfield 19, 36, 1, 29, 0, 0), (36, .getfield 218, 39, 7, 23, 0, 0), (39, .invokevirtual 411, 42, 0, 31, 3, 3), (42, .iload_n 2, 43, 0, 0, 0, 0), (43, .ifCond .eq 25, 46, 68, 0, 0, 0), (46, .iload 4, 48, 0, 0, 0, 0), (48, .iconst (-1), 49, 0, 0, 0, 0), (49, .if_icmp .eq 19, 52, 68, 0, 0, 0), (52, .aload_n 0, 53, 0, 0, 0, 0), (53, .getfield 19, 56, 1, 29, 0, 0), (56, .aload_n 0, 57, 0, 0, 0, 0), (57, .iload_n 1, 58, 0, 0, 0, 0), (58, .invokevirtual 137, 61, 0, 91, 1, 5), (61, .iload_n 3, 62, 0, 0, 0, 0), (62, .iload 4, 64, 0, 0, 0, 0), (64, .ixor, 65, 0, 0, 0, 0), (65, .invokevirtual 140, 68, 0, 41, 2, 4), (68, .return_, 69, 0, 0, 0, 0)]
def zc_X5_readTwin : List zRow := [(0, .iconst (-1), 1, 0, 0, 0, 0), (1, .istore_n 2, 2, 0, 0, 0, 0), (2, .iload_n 1, 3, 0, 0, 0, 0), (3, .invokestatic 95, 6, 0, 89, 1, 0), (6, .istore_n 3, 7, 0, 0, 0, 0), (7, .aload_n 0, 8, 0, 0, 0, 0), (8, .getfield 98, 11, 9, 37, 0, 0), (11, .ifCond .eq 29, 14, 40, 0, 0, 0), (14, .aload_n 0, 15, 0, 0, 0, 0), (15, .iload_n 3, 16, 0, 0, 0, 0), (16, .invokevirtual 102, 19, 0, 96, 1, 5), (19, .ifCond .ne 21, 22, 40, 0, 0, 0), (22, .aload_n 0, 23, 0, 0, 0, 0), (23, .getfield 19, 26, 1, 29, 0, 0), (26, .aload_n 0, 27, 0, 0, 0, 0), (27, .iload_n 3, 28, 0, 0, 0, 0), (28, .invokevirtual 109, 31, 0, 90, 1, 5), (31, .invokevirtual 112, 34, 0, 43, 1, 4), (34, .aload_n 0, 35, 0, 0, 0, 0), (35, .iload_n 3, 36, 0, 0, 0, 0), (36, .invokevirtual 115, 39, 0, 97, 1, 5), (39, .istore_n 2, 40, 0, 0, 0, 0), (40, .iload_n 2, 41, 0, 0, 0, 0), (41, .iconst (-1), 42, 0, 0, 0, 0), (42, .if_icmp .ne 14, 45, 56, 0, 0, 0), (45, .aload_n 0, 46, 0, 0, 0, 0), (46, .getfield 42, 49, 5, 33, 0, 0), (49, .iload_n 1, 50, 0, 0, 0, 0), (50, .iconst 1, 51, 0, 0, 0, 0), (51, .invokevirtual 48, 54, 0, 26, 2, 2), (54, .iconst (-1), 55, 0, 0, 0, 0), (55, .ireturn, 56, 0, 0, 0, 0), (56, .aload_n 0, 57, 0, 0, 0, 0), (57, .iload_n 3, 58, 0, 0, 0, 0), (58, .aload_n 0, 59, 0, 0, 0, 0), (59, .getfield 121, 62, 8, 36, 0, 0), (62, .invokevirtual 124, 65, 0, 103, 2, 5), (65, .aload_n 0, 66, 0, 0, 0, 0), (66, .iload_n 1, 67, 0, 0, 0, 0), (67, .iload_n 2, 68, 0, 0, 0, 0), (68, .invokevirtual 408, 71, 0, 102, 2, 5), (71, .iload_n 2, 72, 0, 0, 0, 0), (72, .ireturn, 73, 0, 0, 0, 0)]
def zc_X5_scrubSteps : List zRow := [(0, .iconst 0, 1, 0, 0, 0, 0), (1, .istore_n 1, 2, 0, 0, 0, 0), (2, .iload_n 1, 3, 0, 0, 0, 0), (3, .aload_n 0, 4, 0, 0, 0, 0), (4, .getfield 198, 7, 7, 35, 0, 0), (7, .if_icmp .ge 79, 10, 86, 0, 0, 0), (10, .aload_n 0, 11, 0, 0, 0, 0), (11, .getfield 312, 14, 10, 38, 0, 0), (14, .istore_n 2, 15, 0, 0, 0, 0), (15, .aload_n 0, 16, 0, 0, 0, 0), (16, .iload_n 2, 17, 0, 0, 0, 0), (17, .invokevirtual 118, 20, 0, 95, 1, 5), (20, .ifCond .ne 49, 23, 69, 0, 0, 0), (23, .aload_n 0, 24, 0, 0, 0, 0), (24, .iload_n 2, 25, 0, 0, 0, 0), (25, .invokevirtual 102, 28, 0, 96, 1, 5), (28, .ifCond .ne 41, 31, 69, 0, 0, 0), (31, .aload_n 0, 32, 0, 0, 0, 0), (32, .iload_n 2, 33, 0, 0, 0, 0), (33, .invokevirtual 115, 36, 0, 97, 1, 5), (36, .iconst (-1), 37, 0, 0, 0, 0), (37, .if_icmp .ne 7, 40, 44, 0, 0, 0), (40, .iconst 1, 41, 0, 0, 0, 0), (41, .goto 4, 44, 45, 0, 0, 0), (44, .iconst 0, 45, 0, 0, 0, 0), (45, .istore_n 3, 46, 0, 0, 0, 0), (46, .aload_n 0, 47, 0, 0, 0, 0), (47, .iload_n 2, 48, 0, 0, 0, 0), (48, .iconst 1, 49, 0, 0, 0, 0), (49, .invokevirtual 124, 52, 0, 103, 2, 5), (52, .aload_n 0, 53, 0, 0, 0, 0), (53, .getfield 42, 56, 5, 33, 0, 0), (56, .iload_n 2, 57, 0, 0, 0, 0), (57, .iload_n 3, 58, 0, 0, 0, 0), (58, .ifCond .eq 7, 61, 65, 0, 0, 0), (61, .iconst 1, 62, 0, 0, 0, 0), (62, .goto 4, 65, 66, 0, 0, 0), (65, .iconst 0, 66, 0, 0, 0, 0), (66, .invokevirtual 48, 69, 0, 26, 2, 2), (69, .aload_n 0, 70, 0, 0, 0, 0), (70, .iload_n 2, 71, 0, 0, 0, 0), (71, .iconst 1, 72, 0, 0, 0, 0), (72, .iadd, 73, 0, 0, 0, 0), (73, .sipush 128, 76, 0, 0, 0, 0), (76, .irem, 77, 0, 0, 0, 0), (77, .putfield 312, 80, 10, 38, 0, 0), (80, .iinc 1 1, 83, 0, 0, 0, 0), (83, .goto (-81), 86, 2, 0, 0, 0), (86, .return_, 87, 0, 0, 0, 0)]
def zc_X5_moveRow : List zRow := [(0, .iload_n 1, 1, 0, 0, 0, 0), (1, .iload_n 2, 2, 0, 0, 0, 0), (2, .invokestatic 182, 5, 0, 88, 2, 0), (5, .istore 4, 7, 0, 0, 0, 0), (7, .iload_n 1, 8, 0, 0, 0, 0), (8, .bipush 10, 10, 0, 0, 0, 0), (10, .imul, 11, 0, 0, 0, 0), (11, .iload_n 3, 12, 0, 0, 0, 0), (12, .iadd, 13, 0, 0, 0, 0), (13, .bipush 8, 15, 0, 0, 0, 0), (15, .imul, 16, 0, 0, 0, 0), (16, .istore 5, 18, 0, 0, 0, 0), (18, .iconst 0, 19, 0, 0, 0, 0), (19, .istore 6, 21, 0, 0, 0, 0), (21, .iload 6, 23, 0, 0, 0, 0), (23, .bipush 8, 25, 0, 0, 0, 0), (25, .if_icmp .ge 70, 28, 95, 0, 0, 0), (28, .aload_n 0, 29, 0, 0, 0, 0), (29, .iload 4, 31, 0, 0, 0, 0), (31, .iload 6, 33, 0, 0, 0, 0), (33, .iadd, 34, 0, 0, 0, 0), (34, .invokevirtual 106, 37, 0, 92, 1, 5), (37, .istore 7, 39, 0, 0, 0, 0), (39, .aload_n 0, 40, 0, 0, 0, 0), (40, .getfield 12, 43, 0, 28, 0, 0), (43, .iload 7, 45, 0, 0, 0, 0), (45, .invokevirtual 250, 48, 0, 9, 1, 0), (48, .istore 8, 50, 0, 0, 0, 0), (50, .iload 8, 52, 0, 0, 0, 0), (52, .iconst (-1), 53, 0, 0, 0, 0), (53, .if_icmp .ne 19, 56, 72, 0, 0, 0), (56, .aload_n 0, 57, 0, 0, 0, 0), (57, .getfield 42, 60, 5, 33, 0, 0), (60, .iload 4, 62, 0, 0, 0, 0), (62, .iload 6, 64, 0, 0, 0, 0), (64, .iadd, 65, 0, 0, 0, 0), (65, .iconst 1, 66, 0, 0, 0, 0), (66, .invokevirtual 48, 69, 0, 26, 2, 2), (69, .iconst 0, 70, 0, 0, 0, 0), (70, .istore 8, 72, 0, 0, 0, 0), (72, .aload_n 0, 73, 0, 0, 0, 0), (73, .getfield 19, 76, 1, 29, 0, 0), (76, .iload 5, 78, 0, 0, 0, 0), (78, .iload 6, 80, 0, 0, 0, 0), (80, .iadd, 81, 0, 0, 0, 0), (81, .iload 7, 83, 0, 0, 0, 0), (83, .iload 8, 85, 0, 0, 0, 0), (85, .ixor, 86, 0, 0, 0, 0), (86, .invokevirtual 140, 89, 0, 41, 2, 4), (89, .iinc 6 1, 92, 0, 0, 0, 0), (92, .goto (-71), 95, 21, 0, 0, 0), (95, .aload_n 0, 96, 0, 0, 0, 0), (96, .getfield 35, 99, 3, 31, 0, 0), (99, .iload_n 1, 100, 0, 0, 0, 0), (100, .bipush 8, 102, 0, 0, 0, 0), (102, .imul, 103, 0, 0, 0, 0), (103, .iload_n 2, 104, 0, 0, 0, 0), (104, .iadd, 105, 0, 0, 0, 0), (105, .iload_n 3, 106, 0, 0, 0, 0), (106, .invokevirtual 48, 109, 0, 26, 2, 2), (109, .return_, 110, 0, 0, 0, 0)]
def zc_X5_mix : List zRow := [(0, .lload_n 0, 1, 0, 0, 0, 0), (1, .ldc2_w 412, 4, 0, 31, 0, 0), (4, .lmul, 5, 0, 0, 0, 0), (5, .lload_n 2, 6, 0, 0, 0, 0), (6, .ladd, 7, 0, 0, 0, 0), (7, .lreturn, 8, 0, 0, 0, 0)]
def zc_X5_mixBank : List zRow := [(0, .lload_n 1, 1, 0, 0, 0, 0), (1, .aload_n 0, 2, 0, 0, 0, 0), (2, .iload_n 3, 3, 0, 0, 0, 0), (3, .iconst 0, 4, 0, 0, 0, 0), (4, .invokevirtual 414, 7, 0, 73, 2, 5), (7, .i2l, 8, 0, 0, 0, 0), (8, .invokestatic 362, 11, 0, 107, 2, 0), (11, .lstore 4, 13, 0, 0, 0, 0), (13, .lload 4, 15, 0, 0, 0, 0), (15, .aload_n 0, 16, 0, 0, 0, 0), (16, .iload_n 3, 17, 0, 0, 0, 0), (17, .iconst 1, 18, 0, 0, 0, 0), (18, .invokevirtual 414, 21, 0, 73, 2, 5), (21, .i2l, 22, 0, 0, 0, 0), (22, .invokestatic 362, 25, 0, 107, 2, 0), (25, .lstore 4, 27, 0, 0, 0, 0), (27, .lload 4, 29, 0, 0, 0, 0), (29, .aload_n 0, 30, 0, 0, 0, 0), (30, .iload_n 3, 31, 0, 0, 0, 0), (31, .invokevirtual 418, 34, 0, 78, 1, 5), (34, .i2l, 35, 0, 0, 0, 0), (35, .invokestatic 362, 38, 0, 107, 2, 0), (38, .lstore 4, 40, 0, 0, 0, 0), (40, .lload 4, 42, 0, 0, 0, 0), (42, .ldc2_w 329, 45, 1, 4634204016564240384, 0, 0), (45, .aload_n 0, 46, 0, 0, 0, 0), (46, .iload_n 3, 47, 0, 0, 0, 0), (47, .invokevirtual 421, 50, 0, 75, 1, 5), (50, .dmul, 51, 0, 0, 0, 0), (51, .d2l, 52, 0, 0, 0, 0), (52, .invokestatic 362, 55, 0, 107, 2, 0), (55, .lstore 4, 57, 0, 0, 0, 0), (57, .iconst 0, 58, 0, 0, 0, 0), (58, .istore 6, 60, 0, 0, 0, 0), (60, .iload 6, 62, 0, 0, 0, 0), (62, .bipush 10, 64, 0, 0, 0, 0), (64, .if_icmp .ge 41, 67, 105, 0, 0, 0), (67, .iconst 0, 68, 0, 0, 0, 0), (68, .istore 7, 70, 0, 0, 0, 0), (70, .iload 7, 72, 0, 0, 0, 0), (72, .iconst 5, 73, 0, 0, 0, 0), (73, .if_icmp .ge 26, 76, 99, 0, 0, 0), (76, .lload 4, 78, 0, 0, 0, 0), (78, .aload_n 0, 79, 0, 0, 0, 0), (79, .iload_n 3, 80, 0, 0, 0, 0), (80, .iload 6, 82, 0, 0, 0, 0), (82, .iload 7, 84, 0, 0, 0, 0), (84, .invokevirtual 425, 87, 0, 71, 3, 5), (87, .i2l, 88, 0, 0, 0, 0), (88, .invokestatic 362, 91, 0, 107, 2, 0), (91, .lstore 4, 93, 0, 0, 0, 0), (93, .iinc 7 1, 96, 0, 0, 0, 0), (96, .goto (-26), 99, 70, 0, 0, 0), (99, .iinc 6 1, 102, 0, 0, 0, 0), (102, .goto (-42), 105, 60, 0, 0, 0), (105, .lload 4, 107, 0, 0, 0, 0), (107, .lreturn, 108, 0, 0, 0, 0)]
def zc_X6_init : List zRow := [(0, .aload_n 0, 1, 0, 0, 0, 0), (1, .invokespecial 1, 4, 8, 0, 0, 0), (4, .return_, 5, 0, 0, 0, 0)]
def zc_X7_init : List zRow := [(0, .aload_n 0, 1, 0, 0, 0, 0), (1, .invokespecial 1, 4, 8, 0, 0, 0), (4, .aload_n 0, 5, 0, 0, 0, 0), (5, .bipush 8, 7, 0, 0, 0, 0), (7, .putfield 7, 10, 1, 44, 0, 0), (10, .aload_n 0, 11, 0, 0, 0, 0), (11, .iconst 5, 12, 0, 0, 0, 0), (12, .putfield 13, 15, 2, 45, 0, 0), (15, .aload_n 0, 16, 0, 0, 0, 0), (16, .iconst 0, 17, 0, 0, 0, 0), (17, .newarray .int, 19, 0, 0, 0, 0), (19, .putfield 16, 22, 3, 46, 0, 0), (22, .aload_n 0, 23, 0, 0, 0, 0), (23, .bipush 16, 25, 0, 0, 0, 0), (25, .putfield 20, 28, 5, 48, 0, 0), (28, .aload_n 0, 29, 0, 0, 0, 0), (29, .bipush 20, 31, 0, 0, 0, 0), (31, .putfield 23, 34, 6, 49, 0, 0), (34, .aload_n 0, 35, 0, 0, 0, 0), (35, .iconst (-1), 36, 0, 0, 0, 0), (36, .putfield 26, 39, 11, 54, 0, 0), (39, .aload_n 0, 40, 0, 0, 0, 0), (40, .bipush 20, 42, 0, 0, 0, 0), (42, .bipush 8, 44, 0, 0, 0, 0), (44, .multianewarray 29 2, 48, 0, 0, 0, 0), (48, .putfield 31, 51, 16, 59, 0, 0), (51, .aload_n 0, 52, 0, 0, 0, 0), (52, .bipush 20, 54, 0, 0, 0, 0), (54, .newarray .int, 56, 0, 0, 0, 0), (56, .putfield 34, 59, 17, 60, 0, 0), (59, .aload_n 0, 60, 0, 0, 0, 0), (60, .bipush 20, 62, 0, 0, 0, 0), (62, .newarray .int, 64, 0, 0, 0, 0), (64, .putfield 37, 67, 18, 61, 0, 0), (67, .aload_n 0, 68, 0, 0, 0, 0), (68, .bipush 16, 70, 0, 0, 0, 0), (70, .newarray .int, 72, 0, 0, 0, 0), (72, .putfield 40, 75, 19, 62, 0, 0), (75, .aload_n 0, 76, 0, 0, 0, 0), (76, .iconst 2, 77, 0, 0, 0, 0), (77, .newarray .int, 79, 0, 0, 0, 0), (79, .putfield 43, 82, 20, 63, 0, 0), (82, .aload_n 0, 83, 0, 0, 0, 0), (83, .sipush 128, 86, 0, 0, 0, 0), (86, .newarray .boolean, 88, 0, 0, 0, 0), (88, .putfield 46, 91, 21, 64, 0, 0), (91, .aload_n 0, 92, 0, 0, 0, 0), (92, .sipush 128, 95, 0, 0, 0, 0), (95, .newarray .boolean, 97, 0, 0, 0, 0), (97, .putfield 50, 100, 22, 65, 0, 0), (100, .aload_n 0, 101, 0, 0, 0, 0), (101, .new 53, 104, 0, 0, 0, 10), (104, .dup, 105, 0, 0, 0, 0), (105, .invokespecial 55, 108, 0, 242, 0, 0), (108, .putfield 56, 111, 23, 66, 0, 0), (111, .aload_n 0, 112, 0, 0, 0, 0), (112, .new 53, 115, 0, 0, 0, 10), (115, .dup, 116, 0, 0, 0, 0), (116, .invokespecial 55, 119, 0, 242, 0, 0), (119, .putfield 60, 122, 24, 67, 0, 0), (122, .aload_n 0, 123, 0, 0, 0, 0), (123, .new 53, 126, 0, 0, 0, 10), (126, .dup, 127, 0, 0, 0, 0), (127, .invokespecial 55, 130, 0, 242, 0, 0), (130, .putfield 63, 133, 25, 68, 0, 0), (133, .aload_n 0, 134, 0, 0, 0, 0), (134, .aload_n 0, 135, 0, 0, 0, 0), (135, .getfield 7, 138, 1, 44, 0, 0), (138, .aload_n 0, 139, 0, 0, 0, 0), (139, .getfield 13, 142, 2, 45, 0, 0), (142, .invokestatic 66, 145, 0, 116, 2, 0), (145, .putfield 16, 148, 3, 46, 0, 0), (148, .iconst 0, 149, 0, 0, 0, 0), (149, .istore_n 1, 150, 0, 0, 0, 0), (150, .iload_n 1, 151, 0, 0, 0, 0), (151, .iconst 2, 152, 0, 0, 0, 0), (152, .if_icmp .ge 40, 155, 192, 0, 0, 0), (155, .iconst 0, 156, 0, 0, 0, 0), (156, .istore_n 2, 157, 0, 0, 0, 0), (157, .iload_n 2, 158, 0, 0, 0, 0), (158, .bipush 8, 160, 0, 0, 0, 0), (160, .if_icmp .ge 26, 163, 186, 0, 0, 0), (163, .aload_n 0, 164, 0, 0, 0, 0), (164, .getfield 40, 167, 19, 62, 0, 0), (167, .iload_n 1, 168, 0, 0, 0, 0), (168, .bipush 8, 170, 0, 0, 0, 0), (170, .imul, 171, 0, 0, 0, 0), (171, .iload_n 2, 172, 0, 0, 0, 0), (172, .iadd, 173, 0, 0, 0, 0), (173, .iload_n 1, 174, 0, 0, 0, 0), (174, .bipush 10, 176, 0, 0, 0, 0), (176, .imul, 177, 0, 0, 0, 0), (177, .iload_n 2, 178, 0, 0, 0, 0), (178, .iadd, 179, 0, 0, 0, 0), (179, .iastore, 180, 0, 0, 0, 0), (180, .iinc 2 1, 183, 0, 0, 0, 0), (183, .goto (-26), 186, 157, 0, 0, 0), (186, .iinc 1 1, 189, 0, 0, 0, 0), (189, .goto (-39), 192, 150, 0, 0, 0), (192, .return_, 193, 0, 0, 0, 0)]
def zc_X7_no : List zRow := [(0, .aload_n 0, 1, 0, 0, 0, 0), (1, .iload_n 1, 2, 0, 0, 0, 0), (2, .putfield 70, 5, 0, 43, 0, 0), (5, .iconst 0, 6, 0, 0, 0, 0), (6, .ireturn, 7, 0, 0, 0, 0)]
def zc_X7_in : List zRow := [(0, .iload_n 0, 1, 0, 0, 0, 0), (1, .iload_n 1, 2, 0, 0, 0, 0), (2, .if_icmp .lt 12, 5, 14, 0, 0, 0), (5, .iload_n 0, 6, 0, 0, 0, 0), (6, .iload_n 2, 7, 0, 0, 0, 0), (7, .if_icmp .gt 7, 10, 14, 0, 0, 0), (10, .iconst 1, 11, 0, 0, 0, 0), (11, .goto 4, 14, 15, 0, 0, 0), (14, .iconst 0, 15, 0, 0, 0, 0), (15, .ireturn, 16, 1, 0, 0, 0)]
def zc_X7_has : List zRow := [(0, .iload_n 0, 1, 0, 0, 0, 0), (1, .iload_n 1, 2, 0, 0, 0, 0), (2, .ishr, 3, 0, 0, 0, 0), (3, .iconst 1, 4, 0, 0, 0, 0), (4, .iand, 5, 0, 0, 0, 0), (5, .iconst 1, 6, 0, 0, 0, 0), (6, .if_icmp .ne 7, 9, 13, 0, 0, 0), (9, .iconst 1, 10, 0, 0, 0, 0), (10, .goto 4, 13, 14, 0, 0, 0), (13, .iconst 0, 14, 0, 0, 0, 0), (14, .ireturn, 15, 1, 0, 0, 0)]
def zc_X7_weight : List zRow := [(0, .iconst 0, 1, 0, 0, 0, 0), (1, .istore_n 1, 2, 0, 0, 0, 0), (2, .iload_n 0, 3, 0, 0, 0, 0), (3, .istore_n 2, 4, 0, 0, 0, 0), (4, .iload_n 2, 5, 0, 0, 0, 0), (5, .ifCond .le 16, 8, 21, 0, 0, 0), (8, .iload_n 1, 9, 0, 0, 0, 0), (9, .iload_n 2, 10, 0, 0, 0, 0), (10, .iconst 2, 11, 0, 0, 0, 0), (11, .irem, 12, 0, 0, 0, 0), (12, .iadd, 13, 0, 0, 0, 0), (13, .istore_n 1, 14, 0, 0, 0, 0), (14, .iload_n 2, 15, 0, 0, 0, 0), (15, .iconst 2, 16, 0, 0, 0, 0), (16, .idiv, 17, 0, 0, 0, 0), (17, .istore_n 2, 18, 0, 0, 0, 0), (18, .goto (-14), 21, 4, 0, 0, 0), (21, .iload_n 1, 22, 0, 0, 0, 0), (22, .ireturn, 23, 0, 0, 0, 0)]
def zc_X7_dataColumns : List zRow := [(0, .iconst 0, 1, 0, 0, 0, 0), (1, .istore_n 1, 2, 0, 0, 0, 0), (2, .iconst 1, 3, 0, 0, 0, 0), (3, .istore_n 2, 4, 0, 0, 0, 0), (4, .iload_n 2, 5, 0, 0, 0, 0), (5, .iconst 1, 6, 0, 0, 0, 0), (6, .iload_n 0, 7, 0, 0, 0, 0), (7, .ishl, 8, 0, 0, 0, 0), (8, .if_icmp .ge 35, 11, 43, 0, 0, 0), (11, .iload_n 1, 12, 0, 0, 0, 0), (12, .iload_n 2, 13, 0, 0, 0, 0), (13, .invokestatic 73, 16, 0, 114, 1, 0), (16, .iconst 2, 17, 0, 0, 0, 0), (17, .irem, 18, 0, 0, 0, 0), (18, .iconst 1, 19, 0, 0, 0, 0), (19, .if_icmp .ne 15, 22, 34, 0, 0, 0), (22, .iload_n 2, 23, 0, 0, 0, 0), (23, .invokestatic 73, 26, 0, 114, 1, 0), (26, .iconst 3, 27, 0, 0, 0, 0), (27, .if_icmp .lt 7, 30, 34, 0, 0, 0), (30, .iconst 1, 31, 0, 0, 0, 0), (31, .goto 4, 34, 35, 0, 0, 0), (34, .iconst 0, 35, 0, 0, 0, 0), (35, .iadd, 36, 0, 0, 0, 0), (36, .istore_n 1, 37, 0, 0, 0, 0), (37, .iinc 2 1, 40, 0, 0, 0, 0), (40, .goto (-36), 43, 4, 0, 0, 0), (43, .iload_n 1, 44, 0, 0, 0, 0), (44, .ireturn, 45, 0, 0, 0, 0)]
def zc_X7_columnsOf : List zRow := [(0, .iload_n 0, 1, 0, 0, 0, 0), (1, .iload_n 1, 2, 0, 0, 0, 0), (2, .iadd, 3, 0, 0, 0, 0), (3, .newarray .int, 5, 0, 0, 0, 0), (5, .astore_n 2, 6, 0, 0, 0, 0), (6, .iconst 0, 7, 0, 0, 0, 0), (7, .istore_n 3, 8, 0, 0, 0, 0), (8, .iconst 3, 9, 0, 0, 0, 0), (9, .istore 4, 11, 0, 0, 0, 0), (11, .iload 4, 13, 0, 0, 0, 0), (13, .iload_n 1, 14, 0, 0, 0, 0), (14, .if_icmp .gt 49, 17, 63, 0, 0, 0), (17, .iconst 1, 18, 0, 0, 0, 0), (18, .istore 5, 20, 0, 0, 0, 0), (20, .iload 5, 22, 0, 0, 0, 0), (22, .iconst 1, 23, 0, 0, 0, 0), (23, .iload_n 1, 24, 0, 0, 0, 0), (24, .ishl, 25, 0, 0, 0, 0), (25, .if_icmp .ge 32, 28, 57, 0, 0, 0), (28, .iload_n 3, 29, 0, 0, 0, 0), (29, .iload_n 0, 30, 0, 0, 0, 0), (30, .if_icmp .ge 27, 33, 57, 0, 0, 0), (33, .iload 5, 35, 0, 0, 0, 0), (35, .invokestatic 73, 38, 0, 114, 1, 0), (38, .iload 4, 40, 0, 0, 0, 0), (40, .if_icmp .ne 11, 43, 51, 0, 0, 0), (43, .aload_n 2, 44, 0, 0, 0, 0), (44, .iload_n 3, 45, 0, 0, 0, 0), (45, .iinc 3 1, 48, 0, 0, 0, 0), (48, .iload 5, 50, 0, 0, 0, 0), (50, .iastore, 51, 0, 0, 0, 0), (51, .iinc 5 1, 54, 0, 0, 0, 0), (54, .goto (-34), 57, 20, 0, 0, 0), (57, .iinc 4 2, 60, 0, 0, 0, 0), (60, .goto (-49), 63, 11, 0, 0, 0), (63, .iconst 0, 64, 0, 0, 0, 0), (64, .istore 4, 66, 0, 0, 0, 0), (66, .iload 4, 68, 0, 0, 0, 0), (68, .iload_n 1, 69, 0, 0, 0, 0), (69, .if_icmp .ge 19, 72, 88, 0, 0, 0), (72, .aload_n 2, 73, 0, 0, 0, 0), (73, .iload_n 0, 74, 0, 0, 0, 0), (74, .iload 4, 76, 0, 0, 0, 0), (76, .iadd, 77, 0, 0, 0, 0), (77, .iconst 1, 78, 0, 0, 0, 0), (78, .iload 4, 80, 0, 0, 0, 0), (80, .ishl, 81, 0, 0, 0, 0), (81, .iastore, 82, 0, 0, 0, 0), (82, .iinc 4 1, 85, 0, 0, 0, 0), (85, .goto (-19), 88, 66, 0, 0, 0), (88, .aload_n 2, 89, 0, 0, 0, 0), (89, .areturn, 90, 0, 0, 0, 0)]
def zc_X7_bits : List zRow := [(0, .aload_n 0, 1, 0, 0, 0, 0), (1, .getfield 7, 4, 1, 44, 0, 0), (4, .aload_n 0, 5, 0, 0, 0, 0), (5, .getfield 13, 8, 2, 45, 0, 0), (8, .iadd, 9, 0, 0, 0, 0), (9, .ireturn, 10, 0, 0, 0, 0)]
def zc_X7_syndrome : List zRow := [(0, .iconst 0, 1, 0, 0, 0, 0), (1, .istore_n 2, 2, 0, 0, 0, 0), (2, .iconst 0, 3, 0, 0, 0, 0), (3, .istore_n 3, 4, 0, 0, 0, 0), (4, .iload_n 3, 5, 0, 0, 0, 0), (5, .aload_n 0, 6, 0, 0, 0, 0), (6, .getfield 16, 9, 3, 46, 0, 0), (9, .arraylength, 10, 0, 0, 0, 0), (10, .if_icmp .ge 30, 13, 40, 0, 0, 0), (13, .iload_n 2, 14, 0, 0, 0, 0), (14, .iload_n 1, 15, 0, 0, 0, 0), (15, .iload_n 3, 16, 0, 0, 0, 0), (16, .invokestatic 77, 19, 0, 113, 2, 0), (19, .ifCond .eq 12, 22, 31, 0, 0, 0), (22, .aload_n 0, 23, 0, 0, 0, 0), (23, .getfield 16, 26, 3, 46, 0, 0), (26, .iload_n 3, 27, 0, 0, 0, 0), (27, .iaload, 28, 0, 0, 0, 0), (28, .goto 4, 31, 32, 0, 0, 0), (31, .iconst 0, 32, 0, 0, 0, 0), (32, .ixor, 33, 0, 0, 0, 0), (33, .istore_n 2, 34, 0, 0, 0, 0), (34, .iinc 3 1, 37, 0, 0, 0, 0), (37, .goto (-33), 40, 4, 0, 0, 0), (40, .iload_n 2, 41, 0, 0, 0, 0), (41, .ireturn, 42, 0, 0, 0, 0)]
def zc_X7_encoded : List zRow := [(0, .iload_n 1, 1, 0, 0, 0, 0), (1, .aload_n 0, 2, 0, 0, 0, 0), (2, .iload_n 1, 3, 0, 0, 0, 0), (3, .invokevirtual 81, 6, 0, 118, 1, 7), (6, .aload_n 0, 7, 0, 0, 0, 0), (7, .getfield 7, 10, 1, 44, 0, 0), (10, .ishl, 11, 0, 0, 0, 0), (11, .ior, 12, 0, 0, 0, 0), (12, .ireturn, 13, 0, 0, 0, 0)]
def zc_X7_bitOf : List zRow := [(0, .aload_n 0, 1, 0, 0, 0, 0), (1, .iload_n 1, 2, 0, 0, 0, 0), (2, .invokevirtual 81, 5, 0, 118, 1, 7), (5, .istore_n 2, 6, 0, 0, 0, 0), (6, .iconst 0, 7, 0, 0, 0, 0), (7, .istore_n 3, 8, 0, 0, 0, 0), (8, .iload_n 3, 9, 0, 0, 0, 0), (9, .aload_n 0, 10, 0, 0, 0, 0), (10, .getfield 16, 13, 3, 46, 0, 0), (13, .arraylength, 14, 0, 0, 0, 0), (14, .if_icmp .ge 21, 17, 35, 0, 0, 0), (17, .aload_n 0, 18, 0, 0, 0, 0), (18, .getfield 16, 21, 3, 46, 0, 0), (21, .iload_n 3, 22, 0, 0, 0, 0), (22, .iaload, 23, 0, 0, 0, 0), (23, .iload_n 2, 24, 0, 0, 0, 0), (24, .if_icmp .ne 5, 27, 29, 0, 0, 0), (27, .iload_n 3, 28, 0, 0, 0, 0), (28, .ireturn, 29, 0, 0, 0, 0), (29, .iinc 3 1, 32, 0, 0, 0, 0), (32, .goto (-24), 35, 8, 0, 0, 0), (35, .iconst (-1), 36, 0, 0, 0, 0), (36, .ireturn, 37, 0, 0, 0, 0)]
def zc_X7_kind : List zRow := [(0, .aload_n 0, 1, 0, 0, 0, 0), (1, .iload_n 1, 2, 0, 0, 0, 0), (2, .invokevirtual 81, 5, 0, 118, 1, 7), (5, .ifCond .ne 7, 8, 12, 0, 0, 0), (8, .iconst 0, 9, 0, 0, 0, 0), (9, .goto 17, 12, 26, 0, 0, 0), (12, .aload_n 0, 13, 0, 0, 0, 0), (13, .iload_n 1, 14, 0, 0, 0, 0), (14, .invokevirtual 84, 17, 0, 120, 1, 7), (17, .iconst (-1), 18, 0, 0, 0, 0), (18, .if_icmp .ne 7, 21, 25, 0, 0, 0), (21, .iconst 2, 22, 0, 0, 0, 0), (22, .goto 4, 25, 26, 0, 0, 0), (25, .iconst 1, 26, 0, 0, 0, 0), (26, .ireturn, 27, 0, 0, 0, 0)]
def zc_X7_mended : List zRow := [(0, .aload_n 0, 1, 0, 0, 0, 0), (1, .iload_n 1, 2, 0, 0, 0, 0), (2, .invokevirtual 87, 5, 0, 121, 1, 7), (5, .iconst 1, 6, 0, 0, 0, 0), (6, .if_icmp .ne 15, 9, 21, 0, 0, 0), (9, .iload_n 1, 10, 0, 0, 0, 0), (10, .iconst 1, 11, 0, 0, 0, 0), (11, .aload_n 0, 12, 0, 0, 0, 0), (12, .iload_n 1, 13, 0, 0, 0, 0), (13, .invokevirtual 84, 16, 0, 120, 1, 7), (16, .ishl, 17, 0, 0, 0, 0), (17, .ixor, 18, 0, 0, 0, 0), (18, .goto 4, 21, 22, 0, 0, 0), (21, .iload_n 1, 22, 0, 0, 0, 0), (22, .ireturn, 23, 0, 0, 0, 0)]
def zc_X7_dataOf : List zRow := [(0, .aload_n 0, 1, 0, 0, 0, 0), (1, .iload_n 1, 2, 0, 0, 0, 0), (2, .invokevirtual 90, 5, 0, 122, 1, 7), (5, .iconst 1, 6, 0, 0, 0, 0), (6, .aload_n 0, 7, 0, 0, 0, 0), (7, .getfield 7, 10, 1, 44, 0, 0), (10, .ishl, 11, 0, 0, 0, 0), (11, .iconst 1, 12, 0, 0, 0, 0), (12, .isub, 13, 0, 0, 0, 0), (13, .iand, 14, 0, 0, 0, 0), (14, .ireturn, 15, 0, 0, 0, 0)]
def zc_X7_lineOf : List zRow := [(0, .aload_n 0, 1, 0, 0, 0, 0), (1, .getfield 40, 4, 19, 62, 0, 0), (4, .iload_n 1, 5, 0, 0, 0, 0), (5, .bipush 8, 7, 0, 0, 0, 0), (7, .idiv, 8, 0, 0, 0, 0), (8, .iaload, 9, 0, 0, 0, 0), (9, .ireturn, 10, 0, 0, 0, 0)]
def zc_X7_wordAt : List zRow := [(0, .aload_n 0, 1, 0, 0, 0, 0), (1, .getfield 31, 4, 16, 59, 0, 0), (4, .aload_n 0, 5, 0, 0, 0, 0), (5, .iload_n 1, 6, 0, 0, 0, 0), (6, .invokevirtual 93, 9, 0, 124, 1, 7), (9, .aaload, 10, 0, 0, 0, 0), (10, .iload_n 1, 11, 0, 0, 0, 0), (11, .bipush 8, 13, 0, 0, 0, 0), (13, .irem, 14, 0, 0, 0, 0), (14, .iaload, 15, 0, 0, 0, 0), (15, .ireturn, 16, 0, 0, 0, 0)]
def zc_X7_put : List zRow := [(0, .iload_n 3, 1, 0, 0, 0, 0), (1, .istore 4, 3, 0, 0, 0, 0), (3, .iconst 0, 4, 0, 0, 0, 0), (4, .istore 5, 6, 0, 0, 0, 0), (6, .iload 5, 8, 0, 0, 0, 0), (8, .aload_n 0, 9, 0, 0, 0, 0), (9, .getfield 56, 12, 23, 66, 0, 0), (12, .invokeinterface 96 1, 17, 0, 243, 0, 10), (17, .if_icmp .ge 74, 20, 91, 0, 0, 0), (20, .aload_n 0, 21, 0, 0, 0, 0), (21, .getfield 56, 24, 23, 66, 0, 0), (24, .iload 5, 26, 0, 0, 0, 0), (26, .invokeinterface 102 2, 31, 0, 239, 1, 10), (31, .checkcast 106, 34, 100, 0, 0, 0), (34, .astore 6, 36, 0, 0, 0, 0), (36, .aload 6, 38, 0, 0, 0, 0), (38, .iconst 0, 39, 0, 0, 0, 0), (39, .iaload, 40, 0, 0, 0, 0), (40, .iload_n 1, 41, 0, 0, 0, 0), (41, .if_icmp .ne 44, 44, 85, 0, 0, 0), (44, .aload 6, 46, 0, 0, 0, 0), (46, .iconst 1, 47, 0, 0, 0, 0), (47, .iaload, 48, 0, 0, 0, 0), (48, .iload_n 2, 49, 0, 0, 0, 0), (49, .if_icmp .ne 36, 52, 85, 0, 0, 0), (52, .aload 6, 54, 0, 0, 0, 0), (54, .iconst 3, 55, 0, 0, 0, 0), (55, .iaload, 56, 0, 0, 0, 0), (56, .iconst 1, 57, 0, 0, 0, 0), (57, .if_icmp .ne 15, 60, 72, 0, 0, 0), (60, .iload 4, 62, 0, 0, 0, 0), (62, .iconst 1, 63, 0, 0, 0, 0), (63, .aload 6, 65, 0, 0, 0, 0), (65, .iconst 2, 66, 0, 0, 0, 0), (66, .iaload, 67, 0, 0, 0, 0), (67, .ishl, 68, 0, 0, 0, 0), (68, .ior, 69, 0, 0, 0, 0), (69, .goto 14, 72, 83, 0, 0, 0), (72, .iload 4, 74, 0, 0, 0, 0), (74, .iconst 1, 75, 0, 0, 0, 0), (75, .aload 6, 77, 0, 0, 0, 0), (77, .iconst 2, 78, 0, 0, 0, 0), (78, .iaload, 79, 0, 0, 0, 0), (79, .ishl, 80, 0, 0, 0, 0), (80, .iconst (-1), 81, 0, 0, 0, 0), (81, .ixor, 82, 0, 0, 0, 0), (82, .iand, 83, 0, 0, 0, 0), (83, .istore 4, 85, 0, 0, 0, 0), (85, .iinc 5 1, 88, 0, 0, 0, 0), (88, .goto (-82), 91, 6, 0, 0, 0), (91, .aload_n 0, 92, 0, 0, 0, 0), (92, .getfield 31, 95, 16, 59, 0, 0), (95, .iload_n 1, 96, 0, 0, 0, 0), (96, .aaload, 97, 0, 0, 0, 0), (97, .iload_n 2, 98, 0, 0, 0, 0), (98, .iload 4, 100, 0, 0, 0, 0), (100, .iastore, 101, 0, 0, 0, 0), (101, .return_, 102, 0, 0, 0, 0)]
def zc_X7_putAt : List zRow := [(0, .aload_n 0, 1, 0, 0, 0, 0), (1, .aload_n 0, 2, 0, 0, 0, 0), (2, .iload_n 1, 3, 0, 0, 0, 0), (3, .invokevirtual 93, 6, 0, 124, 1, 7), (6, .iload_n 1, 7, 0, 0, 0, 0), (7, .bipush 8, 9, 0, 0, 0, 0), (9, .irem, 10, 0, 0, 0, 0), (10, .iload_n 2, 11, 0, 0, 0, 0), (11, .invokevirtual 107, 14, 0, 126, 3, 7), (14, .return_, 15, 0, 0, 0, 0)]
def zc_X7_draw : List zRow := [(0, .aload_n 0, 1, 0, 0, 0, 0), (1, .aload_n 0, 2, 0, 0, 0, 0), (2, .getfield 26, 5, 11, 54, 0, 0), (5, .iconst (-1), 6, 0, 0, 0, 0), (6, .if_icmp .ne 7, 9, 13, 0, 0, 0), (9, .iconst 5, 10, 0, 0, 0, 0), (10, .goto 17, 13, 27, 0, 0, 0), (13, .bipush 17, 15, 0, 0, 0, 0), (15, .aload_n 0, 16, 0, 0, 0, 0), (16, .getfield 26, 19, 11, 54, 0, 0), (19, .imul, 20, 0, 0, 0, 0), (20, .bipush 43, 22, 0, 0, 0, 0), (22, .iadd, 23, 0, 0, 0, 0), (23, .sipush 251, 26, 0, 0, 0, 0), (26, .irem, 27, 0, 0, 0, 0), (27, .putfield 26, 30, 11, 54, 0, 0), (30, .aload_n 0, 31, 0, 0, 0, 0), (31, .dup, 32, 0, 0, 0, 0), (32, .getfield 111, 35, 12, 55, 0, 0), (35, .iconst 1, 36, 0, 0, 0, 0), (36, .iadd, 37, 0, 0, 0, 0), (37, .putfield 111, 40, 12, 55, 0, 0), (40, .aload_n 0, 41, 0, 0, 0, 0), (41, .getfield 26, 44, 11, 54, 0, 0), (44, .ireturn, 45, 0, 0, 0, 0)]
def zc_X7_open : List zRow := [(0, .aload_n 0, 1, 0, 0, 0, 0), (1, .getfield 34, 4, 17, 60, 0, 0), (4, .iload_n 1, 5, 0, 0, 0, 0), (5, .dup2, 6, 0, 0, 0, 0), (6, .iaload, 7, 0, 0, 0, 0), (7, .iconst 1, 8, 0, 0, 0, 0), (8, .iadd, 9, 0, 0, 0, 0), (9, .iastore, 10, 0, 0, 0, 0), (10, .aload_n 0, 11, 0, 0, 0, 0), (11, .getfield 37, 14, 18, 61, 0, 0), (14, .iload_n 1, 15, 0, 0, 0, 0), (15, .aload_n 0, 16, 0, 0, 0, 0), (16, .getfield 114, 19, 4, 47, 0, 0), (19, .iastore, 20, 0, 0, 0, 0), (20, .aload_n 0, 21, 0, 0, 0, 0), (21, .getfield 34, 24, 17, 60, 0, 0), (24, .iload_n 1, 25, 0, 0, 0, 0), (25, .iaload, 26, 0, 0, 0, 0), (26, .aload_n 0, 27, 0, 0, 0, 0), (27, .getfield 23, 30, 6, 49, 0, 0), (30, .irem, 31, 0, 0, 0, 0), (31, .ifCond .eq 4, 34, 35, 0, 0, 0), (34, .return_, 35, 0, 0, 0, 0), (35, .iconst (-1), 36, 0, 0, 0, 0), (36, .istore_n 2, 37, 0, 0, 0, 0), (37, .iload_n 2, 38, 0, 0, 0, 0), (38, .iconst 1, 39, 0, 0, 0, 0), (39, .if_icmp .gt 65, 42, 104, 0, 0, 0), (42, .iload_n 1, 43, 0, 0, 0, 0), (43, .bipush 10, 45, 0, 0, 0, 0), (45, .irem, 46, 0, 0, 0, 0), (46, .iload_n 2, 47, 0, 0, 0, 0), (47, .iadd, 48, 0, 0, 0, 0), (48, .iconst 0, 49, 0, 0, 0, 0), (49, .bipush 9, 51, 0, 0, 0, 0), (51, .invokestatic 117, 54, 0, 112, 3, 0), (54, .ifCond .ne 6, 57, 60, 0, 0, 0), (57, .goto 41, 60, 98, 0, 0, 0), (60, .aload_n 0, 61, 0, 0, 0, 0), (61, .invokevirtual 121, 64, 0, 128, 0, 7), (64, .bipush 8, 66, 0, 0, 0, 0), (66, .irem, 67, 0, 0, 0, 0), (67, .istore_n 3, 68, 0, 0, 0, 0), (68, .aload_n 0, 69, 0, 0, 0, 0), (69, .iload_n 1, 70, 0, 0, 0, 0), (70, .iload_n 2, 71, 0, 0, 0, 0), (71, .iadd, 72, 0, 0, 0, 0), (72, .iload_n 3, 73, 0, 0, 0, 0), (73, .aload_n 0, 74, 0, 0, 0, 0), (74, .getfield 31, 77, 16, 59, 0, 0), (77, .iload_n 1, 78, 0, 0, 0, 0), (78, .iload_n 2, 79, 0, 0, 0, 0), (79, .iadd, 80, 0, 0, 0, 0), (80, .aaload, 81, 0, 0, 0, 0), (81, .iload_n 3, 82, 0, 0, 0, 0), (82, .iaload, 83, 0, 0, 0, 0), (83, .iconst 1, 84, 0, 0, 0, 0), (84, .aload_n 0, 85, 0, 0, 0, 0), (85, .invokevirtual 121, 88, 0, 128, 0, 7), (88, .aload_n 0, 89, 0, 0, 0, 0), (89, .invokevirtual 124, 92, 0, 117, 0, 7), (92, .irem, 93, 0, 0, 0, 0), (93, .ishl, 94, 0, 0, 0, 0), (94, .ixor, 95, 0, 0, 0, 0), (95, .invokevirtual 107, 98, 0, 126, 3, 7), (98, .iinc 2 2, 101, 0, 0, 0, 0), (101, .goto (-64), 104, 37, 0, 0, 0), (104, .return_, 105, 0, 0, 0, 0)]
def zc_X7_note : List zRow := [(0, .aload_n 0, 1, 0, 0, 0, 0), (1, .dup, 2, 0, 0, 0, 0), (2, .getfield 127, 5, 14, 57, 0, 0), (5, .iload_n 2, 6, 0, 0, 0, 0), (6, .iconst (-1), 7, 0, 0, 0, 0), (7, .if_icmp .ne 7, 10, 14, 0, 0, 0), (10, .iconst 0, 11, 0, 0, 0, 0), (11, .goto 4, 14, 15, 0, 0, 0), (14, .iconst 1, 15, 0, 0, 0, 0), (15, .iadd, 16, 0, 0, 0, 0), (16, .putfield 127, 19, 14, 57, 0, 0), (19, .aload_n 0, 20, 0, 0, 0, 0), (20, .dup, 21, 0, 0, 0, 0), (21, .getfield 130, 24, 15, 58, 0, 0), (24, .iload_n 2, 25, 0, 0, 0, 0), (25, .iconst (-1), 26, 0, 0, 0, 0), (26, .if_icmp .ne 7, 29, 33, 0, 0, 0), (29, .iconst 1, 30, 0, 0, 0, 0), (30, .goto 4, 33, 34, 0, 0, 0), (33, .iconst 0, 34, 0, 0, 0, 0), (34, .iadd, 35, 0, 0, 0, 0), (35, .putfield 130, 38, 15, 58, 0, 0), (38, .aload_n 0, 39, 0, 0, 0, 0), (39, .getfield 63, 42, 25, 68, 0, 0), (42, .invokeinterface 96 1, 47, 0, 243, 0, 10), (47, .bipush 40, 49, 0, 0, 0, 0), (49, .if_icmp .ge 31, 52, 80, 0, 0, 0), (52, .aload_n 0, 53, 0, 0, 0, 0), (53, .getfield 63, 56, 25, 68, 0, 0), (56, .iconst 3, 57, 0, 0, 0, 0), (57, .newarray .int, 59, 0, 0, 0, 0), (59, .dup, 60, 0, 0, 0, 0), (60, .iconst 0, 61, 0, 0, 0, 0), (61, .iload_n 1, 62, 0, 0, 0, 0), (62, .iastore, 63, 0, 0, 0, 0), (63, .dup, 64, 0, 0, 0, 0), (64, .iconst 1, 65, 0, 0, 0, 0), (65, .iload_n 2, 66, 0, 0, 0, 0), (66, .iastore, 67, 0, 0, 0, 0), (67, .dup, 68, 0, 0, 0, 0), (68, .iconst 2, 69, 0, 0, 0, 0), (69, .aload_n 0, 70, 0, 0, 0, 0), (70, .getfield 114, 73, 4, 47, 0, 0), (73, .iastore, 74, 0, 0, 0, 0), (74, .invokeinterface 133 2, 79, 0, 237, 1, 10), (79, .pop, 80, 0, 0, 0, 0), (80, .return_, 81, 0, 0, 0, 0)]
def zc_X7_mirror : List zRow := [(0, .iload_n 0, 1, 0, 0, 0, 0), (1, .bipush 64, 3, 0, 0, 0, 0), (3, .iadd, 4, 0, 0, 0, 0), (4, .sipush 128, 7, 0, 0, 0, 0), (7, .irem, 8, 0, 0, 0, 0), (8, .ireturn, 9, 0, 0, 0, 0)]
def zc_X7_writeAt : List zRow := [(0, .aload_n 0, 1, 0, 0, 0, 0), (1, .aload_n 0, 2, 0, 0, 0, 0), (2, .iload_n 1, 3, 0, 0, 0, 0), (3, .invokevirtual 93, 6, 0, 124, 1, 7), (6, .invokevirtual 137, 9, 0, 129, 1, 7), (9, .aload_n 0, 10, 0, 0, 0, 0), (10, .iload_n 1, 11, 0, 0, 0, 0), (11, .aload_n 0, 12, 0, 0, 0, 0), (12, .iload_n 2, 13, 0, 0, 0, 0), (13, .invokevirtual 141, 16, 0, 119, 1, 7), (16, .invokevirtual 144, 19, 0, 127, 2, 7), (19, .aload_n 0, 20, 0, 0, 0, 0), (20, .getfield 46, 23, 21, 64, 0, 0), (23, .iload_n 1, 24, 0, 0, 0, 0), (24, .iconst 0, 25, 0, 0, 0, 0), (25, .bastore, 26, 101, 0, 0, 0), (26, .return_, 27, 0, 0, 0, 0)]
def zc_X7_take : List zRow := [(0, .aload_n 0, 1, 0, 0, 0, 0), (1, .iload_n 1, 2, 0, 0, 0, 0), (2, .invokevirtual 148, 5, 0, 125, 1, 7), (5, .istore_n 2, 6, 0, 0, 0, 0), (6, .aload_n 0, 7, 0, 0, 0, 0), (7, .iload_n 2, 8, 0, 0, 0, 0), (8, .invokevirtual 87, 11, 0, 121, 1, 7), (11, .istore_n 3, 12, 0, 0, 0, 0), (12, .iload_n 3, 13, 0, 0, 0, 0), (13, .iconst 2, 14, 0, 0, 0, 0), (14, .if_icmp .ne 5, 17, 19, 0, 0, 0), (17, .iconst (-1), 18, 0, 0, 0, 0), (18, .ireturn, 19, 0, 0, 0, 0), (19, .iload_n 3, 20, 0, 0, 0, 0), (20, .iconst 1, 21, 0, 0, 0, 0), (21, .if_icmp .ne 30, 24, 51, 0, 0, 0), (24, .aload_n 0, 25, 0, 0, 0, 0), (25, .iload_n 1, 26, 0, 0, 0, 0), (26, .aload_n 0, 27, 0, 0, 0, 0), (27, .iload_n 2, 28, 0, 0, 0, 0), (28, .invokevirtual 84, 31, 0, 120, 1, 7), (31, .invokevirtual 151, 34, 0, 130, 2, 7), (34, .aload_n 0, 35, 0, 0, 0, 0), (35, .getfield 154, 38, 8, 51, 0, 0), (38, .ifCond .eq 13, 41, 51, 0, 0, 0), (41, .aload_n 0, 42, 0, 0, 0, 0), (42, .iload_n 1, 43, 0, 0, 0, 0), (43, .aload_n 0, 44, 0, 0, 0, 0), (44, .iload_n 2, 45, 0, 0, 0, 0), (45, .invokevirtual 90, 48, 0, 122, 1, 7), (48, .invokevirtual 144, 51, 0, 127, 2, 7), (51, .aload_n 0, 52, 0, 0, 0, 0), (52, .iload_n 2, 53, 0, 0, 0, 0), (53, .invokevirtual 158, 56, 0, 123, 1, 7), (56, .ireturn, 57, 0, 0, 0, 0)]
def zc_X7_readAt : List zRow := [(0, .aload_n 0, 1, 0, 0, 0, 0), (1, .aload_n 0, 2, 0, 0, 0, 0), (2, .iload_n 1, 3, 0, 0, 0, 0), (3, .invokevirtual 93, 6, 0, 124, 1, 7), (6, .invokevirtual 137, 9, 0, 129, 1, 7), (9, .aload_n 0, 10, 0, 0, 0, 0), (10, .getfield 46, 13, 21, 64, 0, 0), (13, .iload_n 1, 14, 0, 0, 0, 0), (14, .baload, 15, 101, 0, 0, 0), (15, .ifCond .ne 22, 18, 37, 0, 0, 0), (18, .aload_n 0, 19, 0, 0, 0, 0), (19, .iload_n 1, 20, 0, 0, 0, 0), (20, .invokevirtual 161, 23, 0, 133, 1, 7), (23, .istore_n 2, 24, 0, 0, 0, 0), (24, .iload_n 2, 25, 0, 0, 0, 0), (25, .iconst (-1), 26, 0, 0, 0, 0), (26, .if_icmp .eq 5, 29, 31, 0, 0, 0), (29, .iload_n 2, 30, 0, 0, 0, 0), (30, .ireturn, 31, 0, 0, 0, 0), (31, .aload_n 0, 32, 0, 0, 0, 0), (32, .iload_n 1, 33, 0, 0, 0, 0), (33, .iconst (-1), 34, 0, 0, 0, 0), (34, .invokevirtual 151, 37, 0, 130, 2, 7), (37, .iload_n 1, 38, 0, 0, 0, 0), (38, .invokestatic 164, 41, 0, 131, 1, 0), (41, .istore_n 2, 42, 0, 0, 0, 0), (42, .aload_n 0, 43, 0, 0, 0, 0), (43, .getfield 167, 46, 9, 52, 0, 0), (46, .ifCond .eq 64, 49, 110, 0, 0, 0), (49, .aload_n 0, 50, 0, 0, 0, 0), (50, .getfield 50, 53, 22, 65, 0, 0), (53, .iload_n 2, 54, 0, 0, 0, 0), (54, .baload, 55, 101, 0, 0, 0), (55, .ifCond .ne 55, 58, 110, 0, 0, 0), (58, .aload_n 0, 59, 0, 0, 0, 0), (59, .aload_n 0, 60, 0, 0, 0, 0), (60, .iload_n 2, 61, 0, 0, 0, 0), (61, .invokevirtual 93, 64, 0, 124, 1, 7), (64, .invokevirtual 137, 67, 0, 129, 1, 7), (67, .aload_n 0, 68, 0, 0, 0, 0), (68, .getfield 46, 71, 21, 64, 0, 0), (71, .iload_n 2, 72, 0, 0, 0, 0), (72, .baload, 73, 101, 0, 0, 0), (73, .ifCond .eq 7, 76, 80, 0, 0, 0), (76, .iconst (-1), 77, 0, 0, 0, 0), (77, .goto 8, 80, 85, 0, 0, 0), (80, .aload_n 0, 81, 0, 0, 0, 0), (81, .iload_n 2, 82, 0, 0, 0, 0), (82, .invokevirtual 161, 85, 0, 133, 1, 7), (85, .istore_n 3, 86, 0, 0, 0, 0), (86, .iload_n 3, 87, 0, 0, 0, 0), (87, .iconst (-1), 88, 0, 0, 0, 0), (88, .if_icmp .eq 22, 91, 110, 0, 0, 0), (91, .aload_n 0, 92, 0, 0, 0, 0), (92, .iload_n 1, 93, 0, 0, 0, 0), (93, .aload_n 0, 94, 0, 0, 0, 0), (94, .iload_n 3, 95, 0, 0, 0, 0), (95, .invokevirtual 141, 98, 0, 119, 1, 7), (98, .invokevirtual 144, 101, 0, 127, 2, 7), (101, .aload_n 0, 102, 0, 0, 0, 0), (102, .getfield 46, 105, 21, 64, 0, 0), (105, .iload_n 1, 106, 0, 0, 0, 0), (106, .iconst 0, 107, 0, 0, 0, 0), (107, .bastore, 108, 101, 0, 0, 0), (108, .iload_n 3, 109, 0, 0, 0, 0), (109, .ireturn, 110, 0, 0, 0, 0), (110, .aload_n 0, 111, 0, 0, 0, 0), (111, .getfield 46, 114, 21, 64, 0, 0), (114, .iload_n 1, 115, 0, 0, 0, 0), (115, .iconst 1, 116, 0, 0, 0, 0), (116, .bastore, 117, 101, 0, 0, 0), (117, .iconst (-1), 118, 0, 0, 0, 0), (118, .ireturn, 119, 0, 0, 0, 0)]
def zc_X7_leak : List zRow := [(0, .iconst 0, 1, 0, 0, 0, 0), (1, .istore_n 1, 2, 0, 0, 0, 0), (2, .iload_n 1, 3, 0, 0, 0, 0), (3, .aload_n 0, 4, 0, 0, 0, 0), (4, .getfield 60, 7, 24, 67, 0, 0), (7, .invokeinterface 96 1, 12, 0, 243, 0, 10), (12, .if_icmp .ge 72, 15, 84, 0, 0, 0), (15, .aload_n 0, 16, 0, 0, 0, 0), (16, .getfield 60, 19, 24, 67, 0, 0), (19, .iload_n 1, 20, 0, 0, 0, 0), (20, .invokeinterface 102 2, 25, 0, 239, 1, 10), (25, .checkcast 106, 28, 100, 0, 0, 0), (28, .astore_n 2, 29, 0, 0, 0, 0), (29, .aload_n 0, 30, 0, 0, 0, 0), (30, .getfield 114, 33, 4, 47, 0, 0), (33, .aload_n 0, 34, 0, 0, 0, 0), (34, .getfield 37, 37, 18, 61, 0, 0), (37, .aload_n 2, 38, 0, 0, 0, 0), (38, .iconst 0, 39, 0, 0, 0, 0), (39, .iaload, 40, 0, 0, 0, 0), (40, .iaload, 41, 0, 0, 0, 0), (41, .isub, 42, 0, 0, 0, 0), (42, .aload_n 2, 43, 0, 0, 0, 0), (43, .iconst 3, 44, 0, 0, 0, 0), (44, .iaload, 45, 0, 0, 0, 0), (45, .if_icmp .lt 33, 48, 78, 0, 0, 0), (48, .aload_n 0, 49, 0, 0, 0, 0), (49, .aload_n 2, 50, 0, 0, 0, 0), (50, .iconst 0, 51, 0, 0, 0, 0), (51, .iaload, 52, 0, 0, 0, 0), (52, .aload_n 2, 53, 0, 0, 0, 0), (53, .iconst 1, 54, 0, 0, 0, 0), (54, .iaload, 55, 0, 0, 0, 0), (55, .aload_n 0, 56, 0, 0, 0, 0), (56, .getfield 31, 59, 16, 59, 0, 0), (59, .aload_n 2, 60, 0, 0, 0, 0), (60, .iconst 0, 61, 0, 0, 0, 0), (61, .iaload, 62, 0, 0, 0, 0), (62, .aaload, 63, 0, 0, 0, 0), (63, .aload_n 2, 64, 0, 0, 0, 0), (64, .iconst 1, 65, 0, 0, 0, 0), (65, .iaload, 66, 0, 0, 0, 0), (66, .iaload, 67, 0, 0, 0, 0), (67, .iconst 1, 68, 0, 0, 0, 0), (68, .aload_n 2, 69, 0, 0, 0, 0), (69, .iconst 2, 70, 0, 0, 0, 0), (70, .iaload, 71, 0, 0, 0, 0), (71, .ishl, 72, 0, 0, 0, 0), (72, .iconst (-1), 73, 0, 0, 0, 0), (73, .ixor, 74, 0, 0, 0, 0), (74, .iand, 75, 0, 0, 0, 0), (75, .invokevirtual 107, 78, 0, 126, 3, 7), (78, .iinc 1 1, 81, 0, 0, 0, 0), (81, .goto (-79), 84, 2, 0, 0, 0), (84, .return_, 85, 0, 0, 0, 0)]
def zc_X7_patrol : List zRow := [(0, .iconst 0, 1, 0, 0, 0, 0), (1, .istore_n 1, 2, 0, 0, 0, 0), (2, .iload_n 1, 3, 0, 0, 0, 0), (3, .aload_n 0, 4, 0, 0, 0, 0), (4, .getfield 170, 7, 7, 50, 0, 0), (7, .if_icmp .ge 106, 10, 113, 0, 0, 0), (10, .aload_n 0, 11, 0, 0, 0, 0), (11, .getfield 173, 14, 10, 53, 0, 0), (14, .istore_n 2, 15, 0, 0, 0, 0), (15, .aload_n 0, 16, 0, 0, 0, 0), (16, .aload_n 0, 17, 0, 0, 0, 0), (17, .getfield 173, 20, 10, 53, 0, 0), (20, .iconst 1, 21, 0, 0, 0, 0), (21, .iadd, 22, 0, 0, 0, 0), (22, .sipush 128, 25, 0, 0, 0, 0), (25, .irem, 26, 0, 0, 0, 0), (26, .putfield 173, 29, 10, 53, 0, 0), (29, .aload_n 0, 30, 0, 0, 0, 0), (30, .getfield 46, 33, 21, 64, 0, 0), (33, .iload_n 2, 34, 0, 0, 0, 0), (34, .baload, 35, 101, 0, 0, 0), (35, .ifCond .ne 72, 38, 107, 0, 0, 0), (38, .aload_n 0, 39, 0, 0, 0, 0), (39, .getfield 50, 42, 22, 65, 0, 0), (42, .iload_n 2, 43, 0, 0, 0, 0), (43, .baload, 44, 101, 0, 0, 0), (44, .ifCond .eq 6, 47, 50, 0, 0, 0), (47, .goto 60, 50, 107, 0, 0, 0), (50, .aload_n 0, 51, 0, 0, 0, 0), (51, .iload_n 2, 52, 0, 0, 0, 0), (52, .invokevirtual 148, 55, 0, 125, 1, 7), (55, .istore_n 3, 56, 0, 0, 0, 0), (56, .aload_n 0, 57, 0, 0, 0, 0), (57, .iload_n 3, 58, 0, 0, 0, 0), (58, .invokevirtual 87, 61, 0, 121, 1, 7), (61, .istore 4, 63, 0, 0, 0, 0), (63, .iload 4, 65, 0, 0, 0, 0), (65, .ifCond .ne 6, 68, 71, 0, 0, 0), (68, .goto 39, 71, 107, 0, 0, 0), (71, .aload_n 0, 72, 0, 0, 0, 0), (72, .iload_n 2, 73, 0, 0, 0, 0), (73, .aload_n 0, 74, 0, 0, 0, 0), (74, .iload_n 3, 75, 0, 0, 0, 0), (75, .invokevirtual 84, 78, 0, 120, 1, 7), (78, .invokevirtual 151, 81, 0, 130, 2, 7), (81, .iload 4, 83, 0, 0, 0, 0), (83, .iconst 1, 84, 0, 0, 0, 0), (84, .if_icmp .ne 16, 87, 100, 0, 0, 0), (87, .aload_n 0, 88, 0, 0, 0, 0), (88, .iload_n 2, 89, 0, 0, 0, 0), (89, .aload_n 0, 90, 0, 0, 0, 0), (90, .iload_n 3, 91, 0, 0, 0, 0), (91, .invokevirtual 90, 94, 0, 122, 1, 7), (94, .invokevirtual 144, 97, 0, 127, 2, 7), (97, .goto 10, 100, 107, 0, 0, 0), (100, .aload_n 0, 101, 0, 0, 0, 0), (101, .getfield 46, 104, 21, 64, 0, 0), (104, .iload_n 2, 105, 0, 0, 0, 0), (105, .iconst 1, 106, 0, 0, 0, 0), (106, .bastore, 107, 101, 0, 0, 0), (107, .iinc 1 1, 110, 0, 0, 0, 0), (110, .goto (-108), 113, 2, 0, 0, 0), (113, .return_, 114, 0, 0, 0, 0)]
def zc_X7_tick : List zRow := [(0, .aload_n 0, 1, 0, 0, 0, 0), (1, .dup, 2, 0, 0, 0, 0), (2, .getfield 114, 5, 4, 47, 0, 0), (5, .iconst 1, 6, 0, 0, 0, 0), (6, .iadd, 7, 0, 0, 0, 0), (7, .putfield 114, 10, 4, 47, 0, 0), (10, .aload_n 0, 11, 0, 0, 0, 0), (11, .invokevirtual 176, 14, 0, 135, 0, 7), (14, .iconst 0, 15, 0, 0, 0, 0), (15, .istore_n 1, 16, 0, 0, 0, 0), (16, .iload_n 1, 17, 0, 0, 0, 0), (17, .aload_n 0, 18, 0, 0, 0, 0), (18, .getfield 34, 21, 17, 60, 0, 0), (21, .arraylength, 22, 0, 0, 0, 0), (22, .if_icmp .ge 38, 25, 60, 0, 0, 0), (25, .aload_n 0, 26, 0, 0, 0, 0), (26, .getfield 114, 29, 4, 47, 0, 0), (29, .aload_n 0, 30, 0, 0, 0, 0), (30, .getfield 20, 33, 5, 48, 0, 0), (33, .irem, 34, 0, 0, 0, 0), (34, .ifCond .ne 26, 37, 60, 0, 0, 0), (37, .aload_n 0, 38, 0, 0, 0, 0), (38, .getfield 34, 41, 17, 60, 0, 0), (41, .iload_n 1, 42, 0, 0, 0, 0), (42, .iconst 0, 43, 0, 0, 0, 0), (43, .iastore, 44, 0, 0, 0, 0), (44, .aload_n 0, 45, 0, 0, 0, 0), (45, .getfield 37, 48, 18, 61, 0, 0), (48, .iload_n 1, 49, 0, 0, 0, 0), (49, .aload_n 0, 50, 0, 0, 0, 0), (50, .getfield 114, 53, 4, 47, 0, 0), (53, .iastore, 54, 0, 0, 0, 0), (54, .iinc 1 1, 57, 0, 0, 0, 0), (57, .goto (-41), 60, 16, 0, 0, 0), (60, .aload_n 0, 61, 0, 0, 0, 0), (61, .invokevirtual 179, 64, 0, 136, 0, 7), (64, .return_, 65, 0, 0, 0, 0)]
def zc_X7_isAddress : List zRow := [(0, .iload_n 0, 1, 0, 0, 0, 0), (1, .iconst 0, 2, 0, 0, 0, 0), (2, .bipush 127, 4, 0, 0, 0, 0), (4, .invokestatic 117, 7, 0, 112, 3, 0), (7, .ireturn, 8, 1, 0, 0, 0)]
def zc_X7_code : List zRow := [(0, .aload_n 0, 1, 0, 0, 0, 0), (1, .iconst 0, 2, 0, 0, 0, 0), (2, .putfield 70, 5, 0, 43, 0, 0), (5, .iload_n 1, 6, 0, 0, 0, 0), (6, .iconst 4, 7, 0, 0, 0, 0), (7, .bipush 10, 9, 0, 0, 0, 0), (9, .invokestatic 117, 12, 0, 112, 3, 0), (12, .ifCond .eq 21, 15, 33, 0, 0, 0), (15, .iload_n 2, 16, 0, 0, 0, 0), (16, .iconst 4, 17, 0, 0, 0, 0), (17, .bipush 6, 19, 0, 0, 0, 0), (19, .invokestatic 117, 22, 0, 112, 3, 0), (22, .ifCond .eq 11, 25, 33, 0, 0, 0), (25, .iload_n 2, 26, 0, 0, 0, 0), (26, .invokestatic 182, 29, 0, 115, 1, 0), (29, .iload_n 1, 30, 0, 0, 0, 0), (30, .if_icmp .ge 9, 33, 39, 0, 0, 0), (33, .aload_n 0, 34, 0, 0, 0, 0), (34, .iconst 1, 35, 0, 0, 0, 0), (35, .invokevirtual 185, 38, 0, 111, 1, 7), (38, .ireturn, 39, 0, 0, 0, 0), (39, .aload_n 0, 40, 0, 0, 0, 0), (40, .iload_n 1, 41, 0, 0, 0, 0), (41, .putfield 7, 44, 1, 44, 0, 0), (44, .aload_n 0, 45, 0, 0, 0, 0), (45, .iload_n 2, 46, 0, 0, 0, 0), (46, .putfield 13, 49, 2, 45, 0, 0), (49, .aload_n 0, 50, 0, 0, 0, 0), (50, .iload_n 1, 51, 0, 0, 0, 0), (51, .iload_n 2, 52, 0, 0, 0, 0), (52, .invokestatic 66, 55, 0, 116, 2, 0), (55, .putfield 16, 58, 3, 46, 0, 0), (58, .new 53, 61, 0, 0, 0, 10), (61, .dup, 62, 0, 0, 0, 0), (62, .invokespecial 55, 65, 0, 242, 0, 0), (65, .astore_n 3, 66, 0, 0, 0, 0), (66, .new 53, 69, 0, 0, 0, 10), (69, .dup, 70, 0, 0, 0, 0), (70, .invokespecial 55, 73, 0, 242, 0, 0), (73, .astore 4, 75, 0, 0, 0, 0), (75, .iconst 0, 76, 0, 0, 0, 0), (76, .istore 5, 78, 0, 0, 0, 0), (78, .iload 5, 80, 0, 0, 0, 0), (80, .aload_n 0, 81, 0, 0, 0, 0), (81, .getfield 56, 84, 23, 66, 0, 0), (84, .invokeinterface 96 1, 89, 0, 243, 0, 10), (89, .if_icmp .ge 52, 92, 141, 0, 0, 0), (92, .aload_n 0, 93, 0, 0, 0, 0), (93, .getfield 56, 96, 23, 66, 0, 0), (96, .iload 5, 98, 0, 0, 0, 0), (98, .invokeinterface 102 2, 103, 0, 239, 1, 10), (103, .checkcast 106, 106, 100, 0, 0, 0), (106, .iconst 2, 107, 0, 0, 0, 0), (107, .iaload, 108, 0, 0, 0, 0), (108, .iload_n 1, 109, 0, 0, 0, 0), (109, .iload_n 2, 110, 0, 0, 0, 0), (110, .iadd, 111, 0, 0, 0, 0), (111, .if_icmp .ge 24, 114, 135, 0, 0, 0), (114, .aload_n 3, 115, 0, 0, 0, 0), (115, .aload_n 0, 116, 0, 0, 0, 0), (116, .getfield 56, 119, 23, 66, 0, 0), (119, .iload 5, 121, 0, 0, 0, 0), (121, .invokeinterface 102 2, 126, 0, 239, 1, 10), (126, .checkcast 106, 129, 100, 0, 0, 0), (129, .invokeinterface 133 2, 134, 0, 237, 1, 10), (134, .pop, 135, 0, 0, 0, 0), (135, .iinc 5 1, 138, 0, 0, 0, 0), (138, .goto (-60), 141, 78, 0, 0, 0), (141, .iconst 0, 142, 0, 0, 0, 0), (142, .istore 5, 144, 0, 0, 0, 0), (144, .iload 5, 146, 0, 0, 0, 0), (146, .aload_n 0, 147, 0, 0, 0, 0), (147, .getfield 60, 150, 24, 67, 0, 0), (150, .invokeinterface 96 1, 155, 0, 243, 0, 10), (155, .if_icmp .ge 53, 158, 208, 0, 0, 0), (158, .aload_n 0, 159, 0, 0, 0, 0), (159, .getfield 60, 162, 24, 67, 0, 0), (162, .iload 5, 164, 0, 0, 0, 0), (164, .invokeinterface 102 2, 169, 0, 239, 1, 10), (169, .checkcast 106, 172, 100, 0, 0, 0), (172, .iconst 2, 173, 0, 0, 0, 0), (173, .iaload, 174, 0, 0, 0, 0), (174, .iload_n 1, 175, 0, 0, 0, 0), (175, .iload_n 2, 176, 0, 0, 0, 0), (176, .iadd, 177, 0, 0, 0, 0), (177, .if_icmp .ge 25, 180, 202, 0, 0, 0), (180, .aload 4, 182, 0, 0, 0, 0), (182, .aload_n 0, 183, 0, 0, 0, 0), (183, .getfield 60, 186, 24, 67, 0, 0), (186, .iload 5, 188, 0, 0, 0, 0), (188, .invokeinterface 102 2, 193, 0, 239, 1, 10), (193, .checkcast 106, 196, 100, 0, 0, 0), (196, .invokeinterface 133 2, 201, 0, 237, 1, 10), (201, .pop, 202, 0, 0, 0, 0), (202, .iinc 5 1, 205, 0, 0, 0, 0), (205, .goto (-61), 208, 144, 0, 0, 0), (208, .aload_n 0, 209, 0, 0, 0, 0), (209, .aload_n 3, 210, 0, 0, 0, 0), (210, .putfield 56, 213, 23, 66, 0, 0), (213, .aload_n 0, 214, 0, 0, 0, 0), (214, .aload 4, 216, 0, 0, 0, 0), (216, .putfield 60, 219, 24, 67, 0, 0), (219, .aload_n 0, 220, 0, 0, 0, 0), (220, .new 53, 223, 0, 0, 0, 10), (223, .dup, 224, 0, 0, 0, 0), (224, .invokespecial 55, 227, 0, 242, 0, 0), (227, .putfield 63, 230, 25, 68, 0, 0), (230, .iconst 0, 231, 0, 0, 0, 0), (231, .istore 5, 233, 0, 0, 0, 0), (233, .iload 5, 235, 0, 0, 0, 0), (235, .sipush 128, 238, 0, 0, 0, 0), (238, .if_icmp .ge 17, 241, 255, 0, 0, 0), (241, .aload_n 0, 242, 0, 0, 0, 0), (242, .getfield 46, 245, 21, 64, 0, 0), (245, .iload 5, 247, 0, 0, 0, 0), (247, .iconst 0, 248, 0, 0, 0, 0), (248, .bastore, 249, 101, 0, 0, 0), (249, .iinc 5 1, 252, 0, 0, 0, 0), (252, .goto (-19), 255, 233, 0, 0, 0), (255, .iconst 0, 256, 0, 0, 0, 0), (256, .istore 5, 258, 0, 0, 0, 0), (258, .iload 5, 260, 0, 0, 0, 0), (260, .aload_n 0, 261, 0, 0, 0, 0), (261, .getfield 31, 264, 16, 59, 0, 0), (264, .arraylength, 265, 0, 0, 0, 0), (265, .if_icmp .ge 42, 268, 307, 0, 0, 0), (268, .aload_n 0, 269, 0, 0, 0, 0), (269, .getfield 34, 272, 17, 60, 0, 0), (272, .iload 5, 274, 0, 0, 0, 0), (274, .iconst 0, 275, 0, 0, 0, 0), (275, .iastore, 276, 0, 0, 0, 0), (276, .iconst 0, 277, 0, 0, 0, 0), (277, .istore 6, 279, 0, 0, 0, 0), (279, .iload 6, 281, 0, 0, 0, 0), (281, .bipush 8, 283, 0, 0, 0, 0), (283, .if_icmp .ge 18, 286, 301, 0, 0, 0), (286, .aload_n 0, 287, 0, 0, 0, 0), (287, .iload 5, 289, 0, 0, 0, 0), (289, .iload 6, 291, 0, 0, 0, 0), (291, .iconst 0, 292, 0, 0, 0, 0), (292, .invokevirtual 107, 295, 0, 126, 3, 7), (295, .iinc 6 1, 298, 0, 0, 0, 0), (298, .goto (-19), 301, 279, 0, 0, 0), (301, .iinc 5 1, 304, 0, 0, 0, 0), (304, .goto (-46), 307, 258, 0, 0, 0), (307, .aload_n 0, 308, 0, 0, 0, 0), (308, .invokevirtual 124, 311, 0, 117, 0, 7), (311, .ireturn, 312, 0, 0, 0, 0)]
def zc_X7_write : List zRow := [(0, .aload_n 0, 1, 0, 0, 0, 0), (1, .iconst 0, 2, 0, 0, 0, 0), (2, .putfield 70, 5, 0, 43, 0, 0), (5, .iload_n 1, 6, 0, 0, 0, 0), (6, .invokestatic 188, 9, 0, 138, 1, 0), (9, .ifCond .ne 9, 12, 18, 0, 0, 0), (12, .aload_n 0, 13, 0, 0, 0, 0), (13, .iconst 1, 14, 0, 0, 0, 0), (14, .invokevirtual 185, 17, 0, 111, 1, 7), (17, .ireturn, 18, 0, 0, 0, 0), (18, .iload_n 2, 19, 0, 0, 0, 0), (19, .iconst 0, 20, 0, 0, 0, 0), (20, .iconst 1, 21, 0, 0, 0, 0), (21, .aload_n 0, 22, 0, 0, 0, 0), (22, .getfield 7, 25, 1, 44, 0, 0), (25, .ishl, 26, 0, 0, 0, 0), (26, .iconst 1, 27, 0, 0, 0, 0), (27, .isub, 28, 0, 0, 0, 0), (28, .invokestatic 117, 31, 0, 112, 3, 0), (31, .ifCond .ne 9, 34, 40, 0, 0, 0), (34, .aload_n 0, 35, 0, 0, 0, 0), (35, .iconst 2, 36, 0, 0, 0, 0), (36, .invokevirtual 185, 39, 0, 111, 1, 7), (39, .ireturn, 40, 0, 0, 0, 0), (40, .aload_n 0, 41, 0, 0, 0, 0), (41, .getfield 50, 44, 22, 65, 0, 0), (44, .iload_n 1, 45, 0, 0, 0, 0), (45, .baload, 46, 101, 0, 0, 0), (46, .ifCond .eq 9, 49, 55, 0, 0, 0), (49, .aload_n 0, 50, 0, 0, 0, 0), (50, .iconst 3, 51, 0, 0, 0, 0), (51, .invokevirtual 185, 54, 0, 111, 1, 7), (54, .ireturn, 55, 0, 0, 0, 0), (55, .aload_n 0, 56, 0, 0, 0, 0), (56, .iload_n 1, 57, 0, 0, 0, 0), (57, .iload_n 2, 58, 0, 0, 0, 0), (58, .invokevirtual 192, 61, 0, 132, 2, 7), (61, .aload_n 0, 62, 0, 0, 0, 0), (62, .getfield 167, 65, 9, 52, 0, 0), (65, .ifCond .eq 24, 68, 89, 0, 0, 0), (68, .aload_n 0, 69, 0, 0, 0, 0), (69, .getfield 50, 72, 22, 65, 0, 0), (72, .iload_n 1, 73, 0, 0, 0, 0), (73, .invokestatic 164, 76, 0, 131, 1, 0), (76, .baload, 77, 101, 0, 0, 0), (77, .ifCond .ne 12, 80, 89, 0, 0, 0), (80, .aload_n 0, 81, 0, 0, 0, 0), (81, .iload_n 1, 82, 0, 0, 0, 0), (82, .invokestatic 164, 85, 0, 131, 1, 0), (85, .iload_n 2, 86, 0, 0, 0, 0), (86, .invokevirtual 192, 89, 0, 132, 2, 7), (89, .aload_n 0, 90, 0, 0, 0, 0), (90, .iload_n 1, 91, 0, 0, 0, 0), (91, .invokevirtual 148, 94, 0, 125, 1, 7), (94, .ireturn, 95, 0, 0, 0, 0)]
def zc_X7_read : List zRow := [(0, .aload_n 0, 1, 0, 0, 0, 0), (1, .iconst 0, 2, 0, 0, 0, 0), (2, .putfield 70, 5, 0, 43, 0, 0), (5, .iload_n 1, 6, 0, 0, 0, 0), (6, .invokestatic 188, 9, 0, 138, 1, 0), (9, .ifCond .ne 9, 12, 18, 0, 0, 0), (12, .aload_n 0, 13, 0, 0, 0, 0), (13, .iconst 1, 14, 0, 0, 0, 0), (14, .invokevirtual 185, 17, 0, 111, 1, 7), (17, .ireturn, 18, 0, 0, 0, 0), (18, .aload_n 0, 19, 0, 0, 0, 0), (19, .getfield 50, 22, 22, 65, 0, 0), (22, .iload_n 1, 23, 0, 0, 0, 0), (23, .baload, 24, 101, 0, 0, 0), (24, .ifCond .eq 9, 27, 33, 0, 0, 0), (27, .aload_n 0, 28, 0, 0, 0, 0), (28, .iconst 2, 29, 0, 0, 0, 0), (29, .invokevirtual 185, 32, 0, 111, 1, 7), (32, .ireturn, 33, 0, 0, 0, 0), (33, .aload_n 0, 34, 0, 0, 0, 0), (34, .iload_n 1, 35, 0, 0, 0, 0), (35, .invokevirtual 195, 38, 0, 134, 1, 7), (38, .ireturn, 39, 0, 0, 0, 0)]
def zc_X7_ray : List zRow := [(0, .aload_n 0, 1, 0, 0, 0, 0), (1, .iconst 0, 2, 0, 0, 0, 0), (2, .putfield 70, 5, 0, 43, 0, 0), (5, .iload_n 1, 6, 0, 0, 0, 0), (6, .invokestatic 188, 9, 0, 138, 1, 0), (9, .ifCond .ne 9, 12, 18, 0, 0, 0), (12, .aload_n 0, 13, 0, 0, 0, 0), (13, .iconst 1, 14, 0, 0, 0, 0), (14, .invokevirtual 185, 17, 0, 111, 1, 7), (17, .ireturn, 18, 0, 0, 0, 0), (18, .iload_n 2, 19, 0, 0, 0, 0), (19, .iconst 1, 20, 0, 0, 0, 0), (20, .iconst 1, 21, 0, 0, 0, 0), (21, .aload_n 0, 22, 0, 0, 0, 0), (22, .invokevirtual 124, 25, 0, 117, 0, 7), (25, .ishl, 26, 0, 0, 0, 0), (26, .iconst 1, 27, 0, 0, 0, 0), (27, .isub, 28, 0, 0, 0, 0), (28, .invokestatic 117, 31, 0, 112, 3, 0), (31, .ifCond .ne 9, 34, 40, 0, 0, 0), (34, .aload_n 0, 35, 0, 0, 0, 0), (35, .iconst 2, 36, 0, 0, 0, 0), (36, .invokevirtual 185, 39, 0, 111, 1, 7), (39, .ireturn, 40, 0, 0, 0, 0), (40, .aload_n 0, 41, 0, 0, 0, 0), (41, .iload_n 1, 42, 0, 0, 0, 0), (42, .aload_n 0, 43, 0, 0, 0, 0), (43, .iload_n 1, 44, 0, 0, 0, 0), (44, .invokevirtual 148, 47, 0, 125, 1, 7), (47, .iload_n 2, 48, 0, 0, 0, 0), (48, .ixor, 49, 0, 0, 0, 0), (49, .invokevirtual 144, 52, 0, 127, 2, 7), (52, .aload_n 0, 53, 0, 0, 0, 0), (53, .iload_n 1, 54, 0, 0, 0, 0), (54, .invokevirtual 148, 57, 0, 125, 1, 7), (57, .ireturn, 58, 0, 0, 0, 0)]
def zc_X7_stick : List zRow := [(0, .aload_n 0, 1, 0, 0, 0, 0), (1, .iconst 0, 2, 0, 0, 0, 0), (2, .putfield 70, 5, 0, 43, 0, 0), (5, .iload_n 1, 6, 0, 0, 0, 0), (6, .invokestatic 188, 9, 0, 138, 1, 0), (9, .ifCond .ne 9, 12, 18, 0, 0, 0), (12, .aload_n 0, 13, 0, 0, 0, 0), (13, .iconst 1, 14, 0, 0, 0, 0), (14, .invokevirtual 185, 17, 0, 111, 1, 7), (17, .ireturn, 18, 0, 0, 0, 0), (18, .iload_n 2, 19, 0, 0, 0, 0), (19, .iconst 0, 20, 0, 0, 0, 0), (20, .aload_n 0, 21, 0, 0, 0, 0), (21, .invokevirtual 124, 24, 0, 117, 0, 7), (24, .iconst 1, 25, 0, 0, 0, 0), (25, .isub, 26, 0, 0, 0, 0), (26, .invokestatic 117, 29, 0, 112, 3, 0), (29, .ifCond .ne 9, 32, 38, 0, 0, 0), (32, .aload_n 0, 33, 0, 0, 0, 0), (33, .iconst 2, 34, 0, 0, 0, 0), (34, .invokevirtual 185, 37, 0, 111, 1, 7), (37, .ireturn, 38, 0, 0, 0, 0), (38, .aload_n 0, 39, 0, 0, 0, 0), (39, .getfield 56, 42, 23, 66, 0, 0), (42, .invokeinterface 96 1, 47, 0, 243, 0, 10), (47, .bipush 24, 49, 0, 0, 0, 0), (49, .if_icmp .ne 9, 52, 58, 0, 0, 0), (52, .aload_n 0, 53, 0, 0, 0, 0), (53, .iconst 3, 54, 0, 0, 0, 0), (54, .invokevirtual 185, 57, 0, 111, 1, 7), (57, .ireturn, 58, 0, 0, 0, 0), (58, .aload_n 0, 59, 0, 0, 0, 0), (59, .getfield 56, 62, 23, 66, 0, 0), (62, .iconst 4, 63, 0, 0, 0, 0), (63, .newarray .int, 65, 0, 0, 0, 0), (65, .dup, 66, 0, 0, 0, 0), (66, .iconst 0, 67, 0, 0, 0, 0), (67, .aload_n 0, 68, 0, 0, 0, 0), (68, .iload_n 1, 69, 0, 0, 0, 0), (69, .invokevirtual 93, 72, 0, 124, 1, 7), (72, .iastore, 73, 0, 0, 0, 0), (73, .dup, 74, 0, 0, 0, 0), (74, .iconst 1, 75, 0, 0, 0, 0), (75, .iload_n 1, 76, 0, 0, 0, 0), (76, .bipush 8, 78, 0, 0, 0, 0), (78, .irem, 79, 0, 0, 0, 0), (79, .iastore, 80, 0, 0, 0, 0), (80, .dup, 81, 0, 0, 0, 0), (81, .iconst 2, 82, 0, 0, 0, 0), (82, .iload_n 2, 83, 0, 0, 0, 0), (83, .iastore, 84, 0, 0, 0, 0), (84, .dup, 85, 0, 0, 0, 0), (85, .iconst 3, 86, 0, 0, 0, 0), (86, .iload_n 3, 87, 0, 0, 0, 0), (87, .ifCond .eq 7, 90, 94, 0, 0, 0), (90, .iconst 1, 91, 0, 0, 0, 0), (91, .goto 4, 94, 95, 0, 0, 0), (94, .iconst 0, 95, 0, 0, 0, 0), (95, .iastore, 96, 0, 0, 0, 0), (96, .invokeinterface 133 2, 101, 0, 237, 1, 10), (101, .pop, 102, 0, 0, 0, 0), (102, .aload_n 0, 103, 0, 0, 0, 0), (103, .iload_n 1, 104, 0, 0, 0, 0), (104, .aload_n 0, 105, 0, 0, 0, 0), (105, .iload_n 1, 106, 0, 0, 0, 0), (106, .invokevirtual 148, 109, 0, 125, 1, 7), (109, .invokevirtual 144, 112, 0, 127, 2, 7), (112, .aload_n 0, 113, 0, 0, 0, 0), (113, .getfield 56, 116, 23, 66, 0, 0), (116, .invokeinterface 96 1, 121, 0, 243, 0, 10), (121, .ireturn, 122, 0, 0, 0, 0)]
def zc_X7_weak : List zRow := [(0, .aload_n 0, 1, 0, 0, 0, 0), (1, .iconst 0, 2, 0, 0, 0, 0), (2, .putfield 70, 5, 0, 43, 0, 0), (5, .iload_n 1, 6, 0, 0, 0, 0), (6, .invokestatic 188, 9, 0, 138, 1, 0), (9, .ifCond .ne 9, 12, 18, 0, 0, 0), (12, .aload_n 0, 13, 0, 0, 0, 0), (13, .iconst 1, 14, 0, 0, 0, 0), (14, .invokevirtual 185, 17, 0, 111, 1, 7), (17, .ireturn, 18, 0, 0, 0, 0), (18, .iload_n 2, 19, 0, 0, 0, 0), (19, .iconst 0, 20, 0, 0, 0, 0), (20, .aload_n 0, 21, 0, 0, 0, 0), (21, .invokevirtual 124, 24, 0, 117, 0, 7), (24, .iconst 1, 25, 0, 0, 0, 0), (25, .isub, 26, 0, 0, 0, 0), (26, .invokestatic 117, 29, 0, 112, 3, 0), (29, .ifCond .eq 13, 32, 42, 0, 0, 0), (32, .iload_n 3, 33, 0, 0, 0, 0), (33, .iconst 1, 34, 0, 0, 0, 0), (34, .bipush 60, 36, 0, 0, 0, 0), (36, .invokestatic 117, 39, 0, 112, 3, 0), (39, .ifCond .ne 9, 42, 48, 0, 0, 0), (42, .aload_n 0, 43, 0, 0, 0, 0), (43, .iconst 2, 44, 0, 0, 0, 0), (44, .invokevirtual 185, 47, 0, 111, 1, 7), (47, .ireturn, 48, 0, 0, 0, 0), (48, .aload_n 0, 49, 0, 0, 0, 0), (49, .getfield 60, 52, 24, 67, 0, 0), (52, .invokeinterface 96 1, 57, 0, 243, 0, 10), (57, .bipush 24, 59, 0, 0, 0, 0), (59, .if_icmp .ne 9, 62, 68, 0, 0, 0), (62, .aload_n 0, 63, 0, 0, 0, 0), (63, .iconst 3, 64, 0, 0, 0, 0), (64, .invokevirtual 185, 67, 0, 111, 1, 7), (67, .ireturn, 68, 0, 0, 0, 0), (68, .aload_n 0, 69, 0, 0, 0, 0), (69, .getfield 60, 72, 24, 67, 0, 0), (72, .iconst 4, 73, 0, 0, 0, 0), (73, .newarray .int, 75, 0, 0, 0, 0), (75, .dup, 76, 0, 0, 0, 0), (76, .iconst 0, 77, 0, 0, 0, 0), (77, .aload_n 0, 78, 0, 0, 0, 0), (78, .iload_n 1, 79, 0, 0, 0, 0), (79, .invokevirtual 93, 82, 0, 124, 1, 7), (82, .iastore, 83, 0, 0, 0, 0), (83, .dup, 84, 0, 0, 0, 0), (84, .iconst 1, 85, 0, 0, 0, 0), (85, .iload_n 1, 86, 0, 0, 0, 0), (86, .bipush 8, 88, 0, 0, 0, 0), (88, .irem, 89, 0, 0, 0, 0), (89, .iastore, 90, 0, 0, 0, 0), (90, .dup, 91, 0, 0, 0, 0), (91, .iconst 2, 92, 0, 0, 0, 0), (92, .iload_n 2, 93, 0, 0, 0, 0), (93, .iastore, 94, 0, 0, 0, 0), (94, .dup, 95, 0, 0, 0, 0), (95, .iconst 3, 96, 0, 0, 0, 0), (96, .iload_n 3, 97, 0, 0, 0, 0), (97, .iastore, 98, 0, 0, 0, 0), (98, .invokeinterface 133 2, 103, 0, 237, 1, 10), (103, .pop, 104, 0, 0, 0, 0), (104, .aload_n 0, 105, 0, 0, 0, 0), (105, .getfield 60, 108, 24, 67, 0, 0), (108, .invokeinterface 96 1, 113, 0, 243, 0, 10), (113, .ireturn, 114, 0, 0, 0, 0)]
def zc_X7_hammer : List zRow := [(0, .aload_n 0, 1, 0, 0, 0, 0), (1, .iconst 0, 2, 0, 0, 0, 0), (2, .putfield 70, 5, 0, 43, 0, 0), (5, .iload_n 1, 6, 0, 0, 0, 0), (6, .iconst 0, 7, 0, 0, 0, 0), (7, .iconst 1, 8, 0, 0, 0, 0), (8, .invokestatic 117, 11, 0, 112, 3, 0), (11, .ifCond .eq 13, 14, 24, 0, 0, 0), (14, .iload_n 2, 15, 0, 0, 0, 0), (15, .iconst 0, 16, 0, 0, 0, 0), (16, .bipush 7, 18, 0, 0, 0, 0), (18, .invokestatic 117, 21, 0, 112, 3, 0), (21, .ifCond .ne 9, 24, 30, 0, 0, 0), (24, .aload_n 0, 25, 0, 0, 0, 0), (25, .iconst 1, 26, 0, 0, 0, 0), (26, .invokevirtual 185, 29, 0, 111, 1, 7), (29, .ireturn, 30, 0, 0, 0, 0), (30, .iload_n 3, 31, 0, 0, 0, 0), (31, .iconst 1, 32, 0, 0, 0, 0), (32, .bipush 100, 34, 0, 0, 0, 0), (34, .invokestatic 117, 37, 0, 112, 3, 0), (37, .ifCond .ne 9, 40, 46, 0, 0, 0), (40, .aload_n 0, 41, 0, 0, 0, 0), (41, .iconst 2, 42, 0, 0, 0, 0), (42, .invokevirtual 185, 45, 0, 111, 1, 7), (45, .ireturn, 46, 0, 0, 0, 0), (46, .aload_n 0, 47, 0, 0, 0, 0), (47, .getfield 40, 50, 19, 62, 0, 0), (50, .iload_n 1, 51, 0, 0, 0, 0), (51, .bipush 8, 53, 0, 0, 0, 0), (53, .imul, 54, 0, 0, 0, 0), (54, .iload_n 2, 55, 0, 0, 0, 0), (55, .iadd, 56, 0, 0, 0, 0), (56, .iaload, 57, 0, 0, 0, 0), (57, .istore 4, 59, 0, 0, 0, 0), (59, .iconst 0, 60, 0, 0, 0, 0), (60, .istore 5, 62, 0, 0, 0, 0), (62, .iload 5, 64, 0, 0, 0, 0), (64, .iload_n 3, 65, 0, 0, 0, 0), (65, .if_icmp .ge 15, 68, 80, 0, 0, 0), (68, .aload_n 0, 69, 0, 0, 0, 0), (69, .iload 4, 71, 0, 0, 0, 0), (71, .invokevirtual 137, 74, 0, 129, 1, 7), (74, .iinc 5 1, 77, 0, 0, 0, 0), (77, .goto (-15), 80, 62, 0, 0, 0), (80, .aload_n 0, 81, 0, 0, 0, 0), (81, .getfield 34, 84, 17, 60, 0, 0), (84, .iload 4, 86, 0, 0, 0, 0), (86, .iaload, 87, 0, 0, 0, 0), (87, .ireturn, 88, 0, 0, 0, 0)]
def zc_X7_run : List zRow := [(0, .aload_n 0, 1, 0, 0, 0, 0), (1, .iconst 0, 2, 0, 0, 0, 0), (2, .putfield 70, 5, 0, 43, 0, 0), (5, .iload_n 1, 6, 0, 0, 0, 0), (6, .iconst 1, 7, 0, 0, 0, 0), (7, .bipush 100, 9, 0, 0, 0, 0), (9, .invokestatic 117, 12, 0, 112, 3, 0), (12, .ifCond .eq 23, 15, 35, 0, 0, 0), (15, .iload_n 2, 16, 0, 0, 0, 0), (16, .iconst 2, 17, 0, 0, 0, 0), (17, .bipush 100, 19, 0, 0, 0, 0), (19, .invokestatic 117, 22, 0, 112, 3, 0), (22, .ifCond .eq 13, 25, 35, 0, 0, 0), (25, .iload_n 3, 26, 0, 0, 0, 0), (26, .iconst 0, 27, 0, 0, 0, 0), (27, .bipush 8, 29, 0, 0, 0, 0), (29, .invokestatic 117, 32, 0, 112, 3, 0), (32, .ifCond .ne 9, 35, 41, 0, 0, 0), (35, .aload_n 0, 36, 0, 0, 0, 0), (36, .iconst 1, 37, 0, 0, 0, 0), (37, .invokevirtual 185, 40, 0, 111, 1, 7), (40, .ireturn, 41, 0, 0, 0, 0), (41, .aload_n 0, 42, 0, 0, 0, 0), (42, .getfield 170, 45, 7, 50, 0, 0), (45, .istore 6, 47, 0, 0, 0, 0), (47, .aload_n 0, 48, 0, 0, 0, 0), (48, .iload_n 1, 49, 0, 0, 0, 0), (49, .putfield 20, 52, 5, 48, 0, 0), (52, .aload_n 0, 53, 0, 0, 0, 0), (53, .iload_n 2, 54, 0, 0, 0, 0), (54, .putfield 23, 57, 6, 49, 0, 0), (57, .aload_n 0, 58, 0, 0, 0, 0), (58, .iload_n 3, 59, 0, 0, 0, 0), (59, .putfield 170, 62, 7, 50, 0, 0), (62, .aload_n 0, 63, 0, 0, 0, 0), (63, .iload 4, 65, 0, 0, 0, 0), (65, .putfield 154, 68, 8, 51, 0, 0), (68, .aload_n 0, 69, 0, 0, 0, 0), (69, .iload 5, 71, 0, 0, 0, 0), (71, .putfield 167, 74, 9, 52, 0, 0), (74, .iload 6, 76, 0, 0, 0, 0), (76, .ireturn, 77, 0, 0, 0, 0)]
def zc_X7_spare : List zRow := [(0, .aload_n 0, 1, 0, 0, 0, 0), (1, .iconst 0, 2, 0, 0, 0, 0), (2, .putfield 70, 5, 0, 43, 0, 0), (5, .iload_n 1, 6, 0, 0, 0, 0), (6, .iconst 0, 7, 0, 0, 0, 0), (7, .iconst 1, 8, 0, 0, 0, 0), (8, .invokestatic 117, 11, 0, 112, 3, 0), (11, .ifCond .eq 13, 14, 24, 0, 0, 0), (14, .iload_n 2, 15, 0, 0, 0, 0), (15, .iconst 0, 16, 0, 0, 0, 0), (16, .bipush 7, 18, 0, 0, 0, 0), (18, .invokestatic 117, 21, 0, 112, 3, 0), (21, .ifCond .ne 9, 24, 30, 0, 0, 0), (24, .aload_n 0, 25, 0, 0, 0, 0), (25, .iconst 1, 26, 0, 0, 0, 0), (26, .invokevirtual 185, 29, 0, 111, 1, 7), (29, .ireturn, 30, 0, 0, 0, 0), (30, .aload_n 0, 31, 0, 0, 0, 0), (31, .getfield 43, 34, 20, 63, 0, 0), (34, .iload_n 1, 35, 0, 0, 0, 0), (35, .iaload, 36, 0, 0, 0, 0), (36, .iconst 2, 37, 0, 0, 0, 0), (37, .if_icmp .ne 9, 40, 46, 0, 0, 0), (40, .aload_n 0, 41, 0, 0, 0, 0), (41, .iconst 2, 42, 0, 0, 0, 0), (42, .invokevirtual 185, 45, 0, 111, 1, 7), (45, .ireturn, 46, 0, 0, 0, 0), (46, .iload_n 1, 47, 0, 0, 0, 0), (47, .bipush 8, 49, 0, 0, 0, 0), (49, .imul, 50, 0, 0, 0, 0), (50, .iload_n 2, 51, 0, 0, 0, 0), (51, .iadd, 52, 0, 0, 0, 0), (52, .istore_n 3, 53, 0, 0, 0, 0), (53, .aload_n 0, 54, 0, 0, 0, 0), (54, .getfield 40, 57, 19, 62, 0, 0), (57, .iload_n 3, 58, 0, 0, 0, 0), (58, .iaload, 59, 0, 0, 0, 0), (59, .istore 4, 61, 0, 0, 0, 0), (61, .iload_n 1, 62, 0, 0, 0, 0), (62, .bipush 10, 64, 0, 0, 0, 0), (64, .imul, 65, 0, 0, 0, 0), (65, .bipush 8, 67, 0, 0, 0, 0), (67, .iadd, 68, 0, 0, 0, 0), (68, .aload_n 0, 69, 0, 0, 0, 0), (69, .getfield 43, 72, 20, 63, 0, 0), (72, .iload_n 1, 73, 0, 0, 0, 0), (73, .iaload, 74, 0, 0, 0, 0), (74, .iadd, 75, 0, 0, 0, 0), (75, .istore 5, 77, 0, 0, 0, 0), (77, .aload_n 0, 78, 0, 0, 0, 0), (78, .getfield 43, 81, 20, 63, 0, 0), (81, .iload_n 1, 82, 0, 0, 0, 0), (82, .dup2, 83, 0, 0, 0, 0), (83, .iaload, 84, 0, 0, 0, 0), (84, .iconst 1, 85, 0, 0, 0, 0), (85, .iadd, 86, 0, 0, 0, 0), (86, .iastore, 87, 0, 0, 0, 0), (87, .aload_n 0, 88, 0, 0, 0, 0), (88, .getfield 40, 91, 19, 62, 0, 0), (91, .iload_n 3, 92, 0, 0, 0, 0), (92, .iload 5, 94, 0, 0, 0, 0), (94, .iastore, 95, 0, 0, 0, 0), (95, .iconst 0, 96, 0, 0, 0, 0), (96, .istore 6, 98, 0, 0, 0, 0), (98, .iload 6, 100, 0, 0, 0, 0), (100, .bipush 8, 102, 0, 0, 0, 0), (102, .if_icmp .ge 65, 105, 167, 0, 0, 0), (105, .aload_n 0, 106, 0, 0, 0, 0), (106, .getfield 31, 109, 16, 59, 0, 0), (109, .iload 4, 111, 0, 0, 0, 0), (111, .aaload, 112, 0, 0, 0, 0), (112, .iload 6, 114, 0, 0, 0, 0), (114, .iaload, 115, 0, 0, 0, 0), (115, .istore 7, 117, 0, 0, 0, 0), (117, .aload_n 0, 118, 0, 0, 0, 0), (118, .iload 5, 120, 0, 0, 0, 0), (120, .iload 6, 122, 0, 0, 0, 0), (122, .aload_n 0, 123, 0, 0, 0, 0), (123, .iload 7, 125, 0, 0, 0, 0), (125, .invokevirtual 90, 128, 0, 122, 1, 7), (128, .invokevirtual 107, 131, 0, 126, 3, 7), (131, .aload_n 0, 132, 0, 0, 0, 0), (132, .getfield 46, 135, 21, 64, 0, 0), (135, .iload_n 3, 136, 0, 0, 0, 0), (136, .bipush 8, 138, 0, 0, 0, 0), (138, .imul, 139, 0, 0, 0, 0), (139, .iload 6, 141, 0, 0, 0, 0), (141, .iadd, 142, 0, 0, 0, 0), (142, .dup2, 143, 0, 0, 0, 0), (143, .baload, 144, 101, 0, 0, 0), (144, .aload_n 0, 145, 0, 0, 0, 0), (145, .iload 7, 147, 0, 0, 0, 0), (147, .invokevirtual 87, 150, 0, 121, 1, 7), (150, .iconst 2, 151, 0, 0, 0, 0), (151, .if_icmp .ne 7, 154, 158, 0, 0, 0), (154, .iconst 1, 155, 0, 0, 0, 0), (155, .goto 4, 158, 159, 0, 0, 0), (158, .iconst 0, 159, 0, 0, 0, 0), (159, .ior, 160, 0, 0, 0, 0), (160, .bastore, 161, 101, 0, 0, 0), (161, .iinc 6 1, 164, 0, 0, 0, 0), (164, .goto (-66), 167, 98, 0, 0, 0), (167, .aload_n 0, 168, 0, 0, 0, 0), (168, .getfield 43, 171, 20, 63, 0, 0), (171, .iload_n 1, 172, 0, 0, 0, 0), (172, .iaload, 173, 0, 0, 0, 0), (173, .ireturn, 174, 0, 0, 0, 0)]
def zc_X7_retire : List zRow := [(0, .aload_n 0, 1, 0, 0, 0, 0), (1, .iconst 0, 2, 0, 0, 0, 0), (2, .putfield 70, 5, 0, 43, 0, 0), (5, .iload_n 1, 6, 0, 0, 0, 0), (6, .invokestatic 188, 9, 0, 138, 1, 0), (9, .ifCond .ne 9, 12, 18, 0, 0, 0), (12, .aload_n 0, 13, 0, 0, 0, 0), (13, .iconst 1, 14, 0, 0, 0, 0), (14, .invokevirtual 185, 17, 0, 111, 1, 7), (17, .ireturn, 18, 0, 0, 0, 0), (18, .aload_n 0, 19, 0, 0, 0, 0), (19, .getfield 50, 22, 22, 65, 0, 0), (22, .iload_n 1, 23, 0, 0, 0, 0), (23, .iload_n 2, 24, 0, 0, 0, 0), (24, .bastore, 25, 101, 0, 0, 0), (25, .aload_n 0, 26, 0, 0, 0, 0), (26, .getfield 50, 29, 22, 65, 0, 0), (29, .invokestatic 198, 32, 0, 149, 1, 0), (32, .ireturn, 33, 0, 0, 0, 0)]
def zc_X7_many : List zRow := [(0, .iconst 0, 1, 0, 0, 0, 0), (1, .istore_n 1, 2, 0, 0, 0, 0), (2, .aload_n 0, 3, 0, 0, 0, 0), (3, .astore_n 2, 4, 0, 0, 0, 0), (4, .aload_n 2, 5, 0, 0, 0, 0), (5, .arraylength, 6, 0, 0, 0, 0), (6, .istore_n 3, 7, 0, 0, 0, 0), (7, .iconst 0, 8, 0, 0, 0, 0), (8, .istore 4, 10, 0, 0, 0, 0), (10, .iload 4, 12, 0, 0, 0, 0), (12, .iload_n 3, 13, 0, 0, 0, 0), (13, .if_icmp .ge 28, 16, 41, 0, 0, 0), (16, .aload_n 2, 17, 0, 0, 0, 0), (17, .iload 4, 19, 0, 0, 0, 0), (19, .baload, 20, 101, 0, 0, 0), (20, .istore 5, 22, 0, 0, 0, 0), (22, .iload_n 1, 23, 0, 0, 0, 0), (23, .iload 5, 25, 0, 0, 0, 0), (25, .ifCond .eq 7, 28, 32, 0, 0, 0), (28, .iconst 1, 29, 0, 0, 0, 0), (29, .goto 4, 32, 33, 0, 0, 0), (32, .iconst 0, 33, 0, 0, 0, 0), (33, .iadd, 34, 0, 0, 0, 0), (34, .istore_n 1, 35, 0, 0, 0, 0), (35, .iinc 4 1, 38, 0, 0, 0, 0), (38, .goto (-28), 41, 10, 0, 0, 0), (41, .iload_n 1, 42, 0, 0, 0, 0), (42, .ireturn, 43, 0, 0, 0, 0)]
def zc_X7_pass : List zRow := [(0, .aload_n 0, 1, 0, 0, 0, 0), (1, .iconst 0, 2, 0, 0, 0, 0), (2, .putfield 70, 5, 0, 43, 0, 0), (5, .iload_n 1, 6, 0, 0, 0, 0), (6, .iconst 1, 7, 0, 0, 0, 0), (7, .bipush 100, 9, 0, 0, 0, 0), (9, .invokestatic 117, 12, 0, 112, 3, 0), (12, .ifCond .ne 9, 15, 21, 0, 0, 0), (15, .aload_n 0, 16, 0, 0, 0, 0), (16, .iconst 1, 17, 0, 0, 0, 0), (17, .invokevirtual 185, 20, 0, 111, 1, 7), (20, .ireturn, 21, 0, 0, 0, 0), (21, .aload_n 0, 22, 0, 0, 0, 0), (22, .getfield 114, 25, 4, 47, 0, 0), (25, .iload_n 1, 26, 0, 0, 0, 0), (26, .iadd, 27, 0, 0, 0, 0), (27, .sipush 2000, 30, 0, 0, 0, 0), (30, .if_icmp .le 9, 33, 39, 0, 0, 0), (33, .aload_n 0, 34, 0, 0, 0, 0), (34, .iconst 2, 35, 0, 0, 0, 0), (35, .invokevirtual 185, 38, 0, 111, 1, 7), (38, .ireturn, 39, 0, 0, 0, 0), (39, .iconst 0, 40, 0, 0, 0, 0), (40, .istore_n 2, 41, 0, 0, 0, 0), (41, .iload_n 2, 42, 0, 0, 0, 0), (42, .iload_n 1, 43, 0, 0, 0, 0), (43, .if_icmp .ge 13, 46, 56, 0, 0, 0), (46, .aload_n 0, 47, 0, 0, 0, 0), (47, .invokevirtual 202, 50, 0, 137, 0, 7), (50, .iinc 2 1, 53, 0, 0, 0, 0), (53, .goto (-12), 56, 41, 0, 0, 0), (56, .aload_n 0, 57, 0, 0, 0, 0), (57, .getfield 114, 60, 4, 47, 0, 0), (60, .ireturn, 61, 0, 0, 0, 0)]
def zc_X7_clear : List zRow := [(0, .aload_n 0, 1, 0, 0, 0, 0), (1, .iconst 0, 2, 0, 0, 0, 0), (2, .putfield 70, 5, 0, 43, 0, 0), (5, .aload_n 0, 6, 0, 0, 0, 0), (6, .getfield 63, 9, 25, 68, 0, 0), (9, .invokeinterface 96 1, 14, 0, 243, 0, 10), (14, .istore_n 1, 15, 0, 0, 0, 0), (15, .aload_n 0, 16, 0, 0, 0, 0), (16, .new 53, 19, 0, 0, 0, 10), (19, .dup, 20, 0, 0, 0, 0), (20, .invokespecial 55, 23, 0, 242, 0, 0), (23, .putfield 63, 26, 25, 68, 0, 0), (26, .iload_n 1, 27, 0, 0, 0, 0), (27, .ireturn, 28, 0, 0, 0, 0)]
def zc_X7_call : List zRow := [(0, .aload_n 0, 1, 0, 0, 0, 0), (1, .iconst 0, 2, 0, 0, 0, 0), (2, .putfield 70, 5, 0, 43, 0, 0), (5, .aload_n 0, 6, 0, 0, 0, 0), (6, .dup, 7, 0, 0, 0, 0), (7, .getfield 204, 10, 13, 56, 0, 0), (10, .iconst 1, 11, 0, 0, 0, 0), (11, .iadd, 12, 0, 0, 0, 0), (12, .putfield 204, 15, 13, 56, 0, 0), (15, .aload_n 0, 16, 0, 0, 0, 0), (16, .getfield 204, 19, 13, 56, 0, 0), (19, .ireturn, 20, 0, 0, 0, 0)]
def zc_X7_column : List zRow := [(0, .aload_n 0, 1, 0, 0, 0, 0), (1, .iconst 0, 2, 0, 0, 0, 0), (2, .putfield 70, 5, 0, 43, 0, 0), (5, .iload_n 1, 6, 0, 0, 0, 0), (6, .iconst 0, 7, 0, 0, 0, 0), (7, .aload_n 0, 8, 0, 0, 0, 0), (8, .invokevirtual 124, 11, 0, 117, 0, 7), (11, .iconst 1, 12, 0, 0, 0, 0), (12, .isub, 13, 0, 0, 0, 0), (13, .invokestatic 117, 16, 0, 112, 3, 0), (16, .ifCond .ne 9, 19, 25, 0, 0, 0), (19, .aload_n 0, 20, 0, 0, 0, 0), (20, .iconst 1, 21, 0, 0, 0, 0), (21, .invokevirtual 185, 24, 0, 111, 1, 7), (24, .ireturn, 25, 0, 0, 0, 0), (25, .aload_n 0, 26, 0, 0, 0, 0), (26, .getfield 16, 29, 3, 46, 0, 0), (29, .iload_n 1, 30, 0, 0, 0, 0), (30, .iaload, 31, 0, 0, 0, 0), (31, .ireturn, 32, 0, 0, 0, 0)]
def zc_X7_encode : List zRow := [(0, .aload_n 0, 1, 0, 0, 0, 0), (1, .iconst 0, 2, 0, 0, 0, 0), (2, .putfield 70, 5, 0, 43, 0, 0), (5, .iload_n 1, 6, 0, 0, 0, 0), (6, .iconst 0, 7, 0, 0, 0, 0), (7, .iconst 1, 8, 0, 0, 0, 0), (8, .aload_n 0, 9, 0, 0, 0, 0), (9, .getfield 7, 12, 1, 44, 0, 0), (12, .ishl, 13, 0, 0, 0, 0), (13, .iconst 1, 14, 0, 0, 0, 0), (14, .isub, 15, 0, 0, 0, 0), (15, .invokestatic 117, 18, 0, 112, 3, 0), (18, .ifCond .ne 9, 21, 27, 0, 0, 0), (21, .aload_n 0, 22, 0, 0, 0, 0), (22, .iconst 1, 23, 0, 0, 0, 0), (23, .invokevirtual 185, 26, 0, 111, 1, 7), (26, .ireturn, 27, 0, 0, 0, 0), (27, .aload_n 0, 28, 0, 0, 0, 0), (28, .iload_n 1, 29, 0, 0, 0, 0), (29, .invokevirtual 141, 32, 0, 119, 1, 7), (32, .ireturn, 33, 0, 0, 0, 0)]
def zc_X7_decode : List zRow := [(0, .aload_n 0, 1, 0, 0, 0, 0), (1, .iconst 0, 2, 0, 0, 0, 0), (2, .putfield 70, 5, 0, 43, 0, 0), (5, .iload_n 1, 6, 0, 0, 0, 0), (6, .iconst 0, 7, 0, 0, 0, 0), (7, .iconst 1, 8, 0, 0, 0, 0), (8, .aload_n 0, 9, 0, 0, 0, 0), (9, .invokevirtual 124, 12, 0, 117, 0, 7), (12, .ishl, 13, 0, 0, 0, 0), (13, .iconst 1, 14, 0, 0, 0, 0), (14, .isub, 15, 0, 0, 0, 0), (15, .invokestatic 117, 18, 0, 112, 3, 0), (18, .ifCond .eq 12, 21, 30, 0, 0, 0), (21, .iload_n 2, 22, 0, 0, 0, 0), (22, .iconst 0, 23, 0, 0, 0, 0), (23, .iconst 3, 24, 0, 0, 0, 0), (24, .invokestatic 117, 27, 0, 112, 3, 0), (27, .ifCond .ne 9, 30, 36, 0, 0, 0), (30, .aload_n 0, 31, 0, 0, 0, 0), (31, .iconst 1, 32, 0, 0, 0, 0), (32, .invokevirtual 185, 35, 0, 111, 1, 7), (35, .ireturn, 36, 0, 0, 0, 0), (36, .aload_n 0, 37, 0, 0, 0, 0), (37, .iload_n 1, 38, 0, 0, 0, 0), (38, .invokevirtual 87, 41, 0, 121, 1, 7), (41, .istore_n 3, 42, 0, 0, 0, 0), (42, .iload_n 2, 43, 0, 0, 0, 0), (43, .ifCond .ne 11, 46, 54, 0, 0, 0), (46, .aload_n 0, 47, 0, 0, 0, 0), (47, .iload_n 1, 48, 0, 0, 0, 0), (48, .invokevirtual 81, 51, 0, 118, 1, 7), (51, .goto 48, 54, 99, 0, 0, 0), (54, .iload_n 2, 55, 0, 0, 0, 0), (55, .iconst 1, 56, 0, 0, 0, 0), (56, .if_icmp .ne 7, 59, 63, 0, 0, 0), (59, .iload_n 3, 60, 0, 0, 0, 0), (60, .goto 39, 63, 99, 0, 0, 0), (63, .iload_n 2, 64, 0, 0, 0, 0), (64, .iconst 2, 65, 0, 0, 0, 0), (65, .if_icmp .ne 20, 68, 85, 0, 0, 0), (68, .iload_n 3, 69, 0, 0, 0, 0), (69, .iconst 1, 70, 0, 0, 0, 0), (70, .if_icmp .ne 11, 73, 81, 0, 0, 0), (73, .aload_n 0, 74, 0, 0, 0, 0), (74, .iload_n 1, 75, 0, 0, 0, 0), (75, .invokevirtual 84, 78, 0, 120, 1, 7), (78, .goto 21, 81, 99, 0, 0, 0), (81, .iconst (-1), 82, 0, 0, 0, 0), (82, .goto 17, 85, 99, 0, 0, 0), (85, .iload_n 3, 86, 0, 0, 0, 0), (86, .iconst 2, 87, 0, 0, 0, 0), (87, .if_icmp .ne 7, 90, 94, 0, 0, 0), (90, .iconst (-1), 91, 0, 0, 0, 0), (91, .goto 8, 94, 99, 0, 0, 0), (94, .aload_n 0, 95, 0, 0, 0, 0), (95, .iload_n 1, 96, 0, 0, 0, 0), (96, .invokevirtual 158, 99, 0, 123, 1, 7), (99, .ireturn, 100, 0, 0, 0, 0)]
def zc_X7_fooledNow : List zRow := [(0, .iconst 0, 1, 0, 0, 0, 0), (1, .istore_n 2, 2, 0, 0, 0, 0), (2, .iconst 0, 3, 0, 0, 0, 0), (3, .istore_n 3, 4, 0, 0, 0, 0), (4, .iload_n 3, 5, 0, 0, 0, 0), (5, .iconst 1, 6, 0, 0, 0, 0), (6, .aload_n 0, 7, 0, 0, 0, 0), (7, .invokevirtual 124, 10, 0, 117, 0, 7), (10, .ishl, 11, 0, 0, 0, 0), (11, .if_icmp .ge 34, 14, 45, 0, 0, 0), (14, .iload_n 2, 15, 0, 0, 0, 0), (15, .iload_n 3, 16, 0, 0, 0, 0), (16, .invokestatic 73, 19, 0, 114, 1, 0), (19, .iload_n 1, 20, 0, 0, 0, 0), (20, .if_icmp .ne 16, 23, 36, 0, 0, 0), (23, .aload_n 0, 24, 0, 0, 0, 0), (24, .iload_n 3, 25, 0, 0, 0, 0), (25, .invokevirtual 87, 28, 0, 121, 1, 7), (28, .iconst 1, 29, 0, 0, 0, 0), (29, .if_icmp .ne 7, 32, 36, 0, 0, 0), (32, .iconst 1, 33, 0, 0, 0, 0), (33, .goto 4, 36, 37, 0, 0, 0), (36, .iconst 0, 37, 0, 0, 0, 0), (37, .iadd, 38, 0, 0, 0, 0), (38, .istore_n 2, 39, 0, 0, 0, 0), (39, .iinc 3 1, 42, 0, 0, 0, 0), (42, .goto (-38), 45, 4, 0, 0, 0), (45, .iload_n 2, 46, 0, 0, 0, 0), (46, .ireturn, 47, 0, 0, 0, 0)]
def zc_X7_fooled : List zRow := [(0, .aload_n 0, 1, 0, 0, 0, 0), (1, .iconst 0, 2, 0, 0, 0, 0), (2, .putfield 70, 5, 0, 43, 0, 0), (5, .iload_n 1, 6, 0, 0, 0, 0), (6, .iconst 2, 7, 0, 0, 0, 0), (7, .iconst 3, 8, 0, 0, 0, 0), (8, .invokestatic 117, 11, 0, 112, 3, 0), (11, .ifCond .ne 9, 14, 20, 0, 0, 0), (14, .aload_n 0, 15, 0, 0, 0, 0), (15, .iconst 1, 16, 0, 0, 0, 0), (16, .invokevirtual 185, 19, 0, 111, 1, 7), (19, .ireturn, 20, 0, 0, 0, 0), (20, .aload_n 0, 21, 0, 0, 0, 0), (21, .iload_n 1, 22, 0, 0, 0, 0), (22, .invokevirtual 207, 25, 0, 156, 1, 7), (25, .ireturn, 26, 0, 0, 0, 0)]
def zc_X7_cells : List zRow := [(0, .iconst 0, 1, 0, 0, 0, 0), (1, .istore 4, 3, 0, 0, 0, 0), (3, .iconst 0, 4, 0, 0, 0, 0), (4, .istore 5, 6, 0, 0, 0, 0), (6, .iload 5, 8, 0, 0, 0, 0), (8, .aload_n 1, 9, 0, 0, 0, 0), (9, .invokeinterface 96 1, 14, 0, 243, 0, 10), (14, .if_icmp .ge 58, 17, 72, 0, 0, 0), (17, .iload 4, 19, 0, 0, 0, 0), (19, .aload_n 1, 20, 0, 0, 0, 0), (20, .iload 5, 22, 0, 0, 0, 0), (22, .invokeinterface 102 2, 27, 0, 239, 1, 10), (27, .checkcast 106, 30, 100, 0, 0, 0), (30, .iconst 0, 31, 0, 0, 0, 0), (31, .iaload, 32, 0, 0, 0, 0), (32, .iload_n 2, 33, 0, 0, 0, 0), (33, .if_icmp .ne 29, 36, 62, 0, 0, 0), (36, .iload_n 3, 37, 0, 0, 0, 0), (37, .iconst (-1), 38, 0, 0, 0, 0), (38, .if_icmp .eq 20, 41, 58, 0, 0, 0), (41, .aload_n 1, 42, 0, 0, 0, 0), (42, .iload 5, 44, 0, 0, 0, 0), (44, .invokeinterface 102 2, 49, 0, 239, 1, 10), (49, .checkcast 106, 52, 100, 0, 0, 0), (52, .iconst 1, 53, 0, 0, 0, 0), (53, .iaload, 54, 0, 0, 0, 0), (54, .iload_n 3, 55, 0, 0, 0, 0), (55, .if_icmp .ne 7, 58, 62, 0, 0, 0), (58, .iconst 1, 59, 0, 0, 0, 0), (59, .goto 4, 62, 63, 0, 0, 0), (62, .iconst 0, 63, 0, 0, 0, 0), (63, .iadd, 64, 0, 0, 0, 0), (64, .istore 4, 66, 0, 0, 0, 0), (66, .iinc 5 1, 69, 0, 0, 0, 0), (69, .goto (-63), 72, 6, 0, 0, 0), (72, .iload 4, 74, 0, 0, 0, 0), (74, .ireturn, 75, 0, 0, 0, 0)]
def zc_X7_wordNow : List zRow := [(0, .aload_n 0, 1, 0, 0, 0, 0), (1, .iload_n 1, 2, 0, 0, 0, 0), (2, .invokevirtual 93, 5, 0, 124, 1, 7), (5, .istore_n 3, 6, 0, 0, 0, 0), (6, .iload_n 1, 7, 0, 0, 0, 0), (7, .bipush 8, 9, 0, 0, 0, 0), (9, .irem, 10, 0, 0, 0, 0), (10, .istore 4, 12, 0, 0, 0, 0), (12, .iload_n 2, 13, 0, 0, 0, 0), (13, .tableswitch 102 0 5 #[39, 45, 55, 70, 85, 90], 52, 0, 0, 0, 0), (52, .aload_n 0, 53, 0, 0, 0, 0), (53, .iload_n 1, 54, 0, 0, 0, 0), (54, .invokevirtual 148, 57, 0, 125, 1, 7), (57, .ireturn, 58, 0, 0, 0, 0), (58, .aload_n 0, 59, 0, 0, 0, 0), (59, .aload_n 0, 60, 0, 0, 0, 0), (60, .iload_n 1, 61, 0, 0, 0, 0), (61, .invokevirtual 148, 64, 0, 125, 1, 7), (64, .invokevirtual 87, 67, 0, 121, 1, 7), (67, .ireturn, 68, 0, 0, 0, 0), (68, .aload_n 0, 69, 0, 0, 0, 0), (69, .getfield 46, 72, 21, 64, 0, 0), (72, .iload_n 1, 73, 0, 0, 0, 0), (73, .baload, 74, 101, 0, 0, 0), (74, .ifCond .eq 7, 77, 81, 0, 0, 0), (77, .iconst 1, 78, 0, 0, 0, 0), (78, .goto 4, 81, 82, 0, 0, 0), (81, .iconst 0, 82, 0, 0, 0, 0), (82, .ireturn, 83, 0, 0, 0, 0), (83, .aload_n 0, 84, 0, 0, 0, 0), (84, .getfield 50, 87, 22, 65, 0, 0), (87, .iload_n 1, 88, 0, 0, 0, 0), (88, .baload, 89, 101, 0, 0, 0), (89, .ifCond .eq 7, 92, 96, 0, 0, 0), (92, .iconst 1, 93, 0, 0, 0, 0), (93, .goto 4, 96, 97, 0, 0, 0), (96, .iconst 0, 97, 0, 0, 0, 0), (97, .ireturn, 98, 0, 0, 0, 0), (98, .iload_n 3, 99, 0, 0, 0, 0), (99, .bipush 10, 101, 0, 0, 0, 0), (101, .irem, 102, 0, 0, 0, 0), (102, .ireturn, 103, 0, 0, 0, 0), (103, .aload_n 0, 104, 0, 0, 0, 0), (104, .aload_n 0, 105, 0, 0, 0, 0), (105, .getfield 56, 108, 23, 66, 0, 0), (108, .iload_n 3, 109, 0, 0, 0, 0), (109, .iload 4, 111, 0, 0, 0, 0), (111, .invokevirtual 210, 114, 0, 158, 3, 7), (114, .ireturn, 115, 0, 0, 0, 0), (115, .aload_n 0, 116, 0, 0, 0, 0), (116, .aload_n 0, 117, 0, 0, 0, 0), (117, .getfield 60, 120, 24, 67, 0, 0), (120, .iload_n 3, 121, 0, 0, 0, 0), (121, .iload 4, 123, 0, 0, 0, 0), (123, .invokevirtual 210, 126, 0, 158, 3, 7), (126, .ireturn, 127, 0, 0, 0, 0)]
def zc_X7_ofWord : List zRow := [(0, .aload_n 0, 1, 0, 0, 0, 0), (1, .iconst 0, 2, 0, 0, 0, 0), (2, .putfield 70, 5, 0, 43, 0, 0), (5, .iload_n 1, 6, 0, 0, 0, 0), (6, .invokestatic 188, 9, 0, 138, 1, 0), (9, .ifCond .ne 9, 12, 18, 0, 0, 0), (12, .aload_n 0, 13, 0, 0, 0, 0), (13, .iconst 1, 14, 0, 0, 0, 0), (14, .invokevirtual 185, 17, 0, 111, 1, 7), (17, .ireturn, 18, 0, 0, 0, 0), (18, .iload_n 2, 19, 0, 0, 0, 0), (19, .iconst 0, 20, 0, 0, 0, 0), (20, .bipush 6, 22, 0, 0, 0, 0), (22, .invokestatic 117, 25, 0, 112, 3, 0), (25, .ifCond .ne 9, 28, 34, 0, 0, 0), (28, .aload_n 0, 29, 0, 0, 0, 0), (29, .iconst 2, 30, 0, 0, 0, 0), (30, .invokevirtual 185, 33, 0, 111, 1, 7), (33, .ireturn, 34, 0, 0, 0, 0), (34, .aload_n 0, 35, 0, 0, 0, 0), (35, .iload_n 1, 36, 0, 0, 0, 0), (36, .iload_n 2, 37, 0, 0, 0, 0), (37, .invokevirtual 214, 40, 0, 159, 2, 7), (40, .ireturn, 41, 0, 0, 0, 0)]
def zc_X7_unclean : List zRow := [(0, .iconst 0, 1, 0, 0, 0, 0), (1, .istore_n 2, 2, 0, 0, 0, 0), (2, .aload_n 0, 3, 0, 0, 0, 0), (3, .getfield 31, 6, 16, 59, 0, 0), (6, .iload_n 1, 7, 0, 0, 0, 0), (7, .aaload, 8, 0, 0, 0, 0), (8, .astore_n 3, 9, 0, 0, 0, 0), (9, .aload_n 3, 10, 0, 0, 0, 0), (10, .arraylength, 11, 0, 0, 0, 0), (11, .istore 4, 13, 0, 0, 0, 0), (13, .iconst 0, 14, 0, 0, 0, 0), (14, .istore 5, 16, 0, 0, 0, 0), (16, .iload 5, 18, 0, 0, 0, 0), (18, .iload 4, 20, 0, 0, 0, 0), (20, .if_icmp .ge 32, 23, 52, 0, 0, 0), (23, .aload_n 3, 24, 0, 0, 0, 0), (24, .iload 5, 26, 0, 0, 0, 0), (26, .iaload, 27, 0, 0, 0, 0), (27, .istore 6, 29, 0, 0, 0, 0), (29, .iload_n 2, 30, 0, 0, 0, 0), (30, .aload_n 0, 31, 0, 0, 0, 0), (31, .iload 6, 33, 0, 0, 0, 0), (33, .invokevirtual 87, 36, 0, 121, 1, 7), (36, .ifCond .ne 7, 39, 43, 0, 0, 0), (39, .iconst 0, 40, 0, 0, 0, 0), (40, .goto 4, 43, 44, 0, 0, 0), (43, .iconst 1, 44, 0, 0, 0, 0), (44, .iadd, 45, 0, 0, 0, 0), (45, .istore_n 2, 46, 0, 0, 0, 0), (46, .iinc 5 1, 49, 0, 0, 0, 0), (49, .goto (-33), 52, 16, 0, 0, 0), (52, .iload_n 2, 53, 0, 0, 0, 0), (53, .ireturn, 54, 0, 0, 0, 0)]
def zc_X7_rowOf : List zRow := [(0, .iconst 0, 1, 0, 0, 0, 0), (1, .istore_n 2, 2, 0, 0, 0, 0), (2, .iload_n 2, 3, 0, 0, 0, 0), (3, .aload_n 0, 4, 0, 0, 0, 0), (4, .getfield 40, 7, 19, 62, 0, 0), (7, .arraylength, 8, 0, 0, 0, 0), (8, .if_icmp .ge 24, 11, 32, 0, 0, 0), (11, .aload_n 0, 12, 0, 0, 0, 0), (12, .getfield 40, 15, 19, 62, 0, 0), (15, .iload_n 2, 16, 0, 0, 0, 0), (16, .iaload, 17, 0, 0, 0, 0), (17, .iload_n 1, 18, 0, 0, 0, 0), (18, .if_icmp .ne 8, 21, 26, 0, 0, 0), (21, .iload_n 2, 22, 0, 0, 0, 0), (22, .bipush 8, 24, 0, 0, 0, 0), (24, .irem, 25, 0, 0, 0, 0), (25, .ireturn, 26, 0, 0, 0, 0), (26, .iinc 2 1, 29, 0, 0, 0, 0), (29, .goto (-27), 32, 2, 0, 0, 0), (32, .iconst (-1), 33, 0, 0, 0, 0), (33, .ireturn, 34, 0, 0, 0, 0)]
def zc_X7_lineNow : List zRow := [(0, .iload_n 2, 1, 0, 0, 0, 0), (1, .tableswitch 67 0 3 #[31, 38, 44, 56], 32, 0, 0, 0, 0), (32, .aload_n 0, 33, 0, 0, 0, 0), (33, .getfield 34, 36, 17, 60, 0, 0), (36, .iload_n 1, 37, 0, 0, 0, 0), (37, .iaload, 38, 0, 0, 0, 0), (38, .ireturn, 39, 0, 0, 0, 0), (39, .aload_n 0, 40, 0, 0, 0, 0), (40, .iload_n 1, 41, 0, 0, 0, 0), (41, .invokevirtual 218, 44, 0, 162, 1, 7), (44, .ireturn, 45, 0, 0, 0, 0), (45, .aload_n 0, 46, 0, 0, 0, 0), (46, .getfield 114, 49, 4, 47, 0, 0), (49, .aload_n 0, 50, 0, 0, 0, 0), (50, .getfield 37, 53, 18, 61, 0, 0), (53, .iload_n 1, 54, 0, 0, 0, 0), (54, .iaload, 55, 0, 0, 0, 0), (55, .isub, 56, 0, 0, 0, 0), (56, .ireturn, 57, 0, 0, 0, 0), (57, .aload_n 0, 58, 0, 0, 0, 0), (58, .aload_n 0, 59, 0, 0, 0, 0), (59, .getfield 56, 62, 23, 66, 0, 0), (62, .iload_n 1, 63, 0, 0, 0, 0), (63, .iconst (-1), 64, 0, 0, 0, 0), (64, .invokevirtual 210, 67, 0, 158, 3, 7), (67, .ireturn, 68, 0, 0, 0, 0), (68, .aload_n 0, 69, 0, 0, 0, 0), (69, .iload_n 1, 70, 0, 0, 0, 0), (70, .invokevirtual 221, 73, 0, 161, 1, 7), (73, .ireturn, 74, 0, 0, 0, 0)]
def zc_X7_ofLine : List zRow := [(0, .aload_n 0, 1, 0, 0, 0, 0), (1, .iconst 0, 2, 0, 0, 0, 0), (2, .putfield 70, 5, 0, 43, 0, 0), (5, .iload_n 1, 6, 0, 0, 0, 0), (6, .iconst 0, 7, 0, 0, 0, 0), (7, .iconst 1, 8, 0, 0, 0, 0), (8, .invokestatic 117, 11, 0, 112, 3, 0), (11, .ifCond .eq 13, 14, 24, 0, 0, 0), (14, .iload_n 2, 15, 0, 0, 0, 0), (15, .iconst 0, 16, 0, 0, 0, 0), (16, .bipush 9, 18, 0, 0, 0, 0), (18, .invokestatic 117, 21, 0, 112, 3, 0), (21, .ifCond .ne 9, 24, 30, 0, 0, 0), (24, .aload_n 0, 25, 0, 0, 0, 0), (25, .iconst 1, 26, 0, 0, 0, 0), (26, .invokevirtual 185, 29, 0, 111, 1, 7), (29, .ireturn, 30, 0, 0, 0, 0), (30, .iload_n 3, 31, 0, 0, 0, 0), (31, .iconst 0, 32, 0, 0, 0, 0), (32, .iconst 4, 33, 0, 0, 0, 0), (33, .invokestatic 117, 36, 0, 112, 3, 0), (36, .ifCond .ne 9, 39, 45, 0, 0, 0), (39, .aload_n 0, 40, 0, 0, 0, 0), (40, .iconst 2, 41, 0, 0, 0, 0), (41, .invokevirtual 185, 44, 0, 111, 1, 7), (44, .ireturn, 45, 0, 0, 0, 0), (45, .aload_n 0, 46, 0, 0, 0, 0), (46, .iload_n 1, 47, 0, 0, 0, 0), (47, .bipush 10, 49, 0, 0, 0, 0), (49, .imul, 50, 0, 0, 0, 0), (50, .iload_n 2, 51, 0, 0, 0, 0), (51, .iadd, 52, 0, 0, 0, 0), (52, .iload_n 3, 53, 0, 0, 0, 0), (53, .invokevirtual 224, 56, 0, 163, 2, 7), (56, .ireturn, 57, 0, 0, 0, 0)]
def zc_X7_ofEntry : List zRow := [(0, .aload_n 0, 1, 0, 0, 0, 0), (1, .iconst 0, 2, 0, 0, 0, 0), (2, .putfield 70, 5, 0, 43, 0, 0), (5, .iload_n 1, 6, 0, 0, 0, 0), (6, .iconst 0, 7, 0, 0, 0, 0), (7, .aload_n 0, 8, 0, 0, 0, 0), (8, .getfield 63, 11, 25, 68, 0, 0), (11, .invokeinterface 96 1, 16, 0, 243, 0, 10), (16, .iconst 1, 17, 0, 0, 0, 0), (17, .isub, 18, 0, 0, 0, 0), (18, .invokestatic 117, 21, 0, 112, 3, 0), (21, .ifCond .ne 9, 24, 30, 0, 0, 0), (24, .aload_n 0, 25, 0, 0, 0, 0), (25, .iconst 1, 26, 0, 0, 0, 0), (26, .invokevirtual 185, 29, 0, 111, 1, 7), (29, .ireturn, 30, 0, 0, 0, 0), (30, .iload_n 2, 31, 0, 0, 0, 0), (31, .iconst 0, 32, 0, 0, 0, 0), (32, .iconst 2, 33, 0, 0, 0, 0), (33, .invokestatic 117, 36, 0, 112, 3, 0), (36, .ifCond .ne 9, 39, 45, 0, 0, 0), (39, .aload_n 0, 40, 0, 0, 0, 0), (40, .iconst 2, 41, 0, 0, 0, 0), (41, .invokevirtual 185, 44, 0, 111, 1, 7), (44, .ireturn, 45, 0, 0, 0, 0), (45, .aload_n 0, 46, 0, 0, 0, 0), (46, .getfield 63, 49, 25, 68, 0, 0), (49, .iload_n 1, 50, 0, 0, 0, 0), (50, .invokeinterface 102 2, 55, 0, 239, 1, 10), (55, .checkcast 106, 58, 100, 0, 0, 0), (58, .iload_n 2, 59, 0, 0, 0, 0), (59, .iaload, 60, 0, 0, 0, 0), (60, .ireturn, 61, 0, 0, 0, 0)]
def zc_X7_isMended : List zRow := [(0, .aload_n 0, 1, 0, 0, 0, 0), (1, .getfield 63, 4, 25, 68, 0, 0), (4, .iload_n 1, 5, 0, 0, 0, 0), (5, .invokeinterface 102 2, 10, 0, 239, 1, 10), (10, .checkcast 106, 13, 100, 0, 0, 0), (13, .iconst 0, 14, 0, 0, 0, 0), (14, .iaload, 15, 0, 0, 0, 0), (15, .bipush 64, 17, 0, 0, 0, 0), (17, .idiv, 18, 0, 0, 0, 0), (18, .iload_n 2, 19, 0, 0, 0, 0), (19, .if_icmp .ne 26, 22, 45, 0, 0, 0), (22, .aload_n 0, 23, 0, 0, 0, 0), (23, .getfield 63, 26, 25, 68, 0, 0), (26, .iload_n 1, 27, 0, 0, 0, 0), (27, .invokeinterface 102 2, 32, 0, 239, 1, 10), (32, .checkcast 106, 35, 100, 0, 0, 0), (35, .iconst 1, 36, 0, 0, 0, 0), (36, .iaload, 37, 0, 0, 0, 0), (37, .iconst (-1), 38, 0, 0, 0, 0), (38, .if_icmp .eq 7, 41, 45, 0, 0, 0), (41, .iconst 1, 42, 0, 0, 0, 0), (42, .goto 4, 45, 46, 0, 0, 0), (45, .iconst 0, 46, 0, 0, 0, 0), (46, .ireturn, 47, 1, 0, 0, 0)]
def zc_X7_spread : List zRow := [(0, .iconst 0, 1, 0, 0, 0, 0), (1, .istore 5, 3, 0, 0, 0, 0), (3, .iconst 0, 4, 0, 0, 0, 0), (4, .istore 6, 6, 0, 0, 0, 0), (6, .iload 6, 8, 0, 0, 0, 0), (8, .aload_n 0, 9, 0, 0, 0, 0), (9, .getfield 63, 12, 25, 68, 0, 0), (12, .invokeinterface 96 1, 17, 0, 243, 0, 10), (17, .if_icmp .ge 121, 20, 138, 0, 0, 0), (20, .aload_n 0, 21, 0, 0, 0, 0), (21, .iload 6, 23, 0, 0, 0, 0), (23, .iload_n 1, 24, 0, 0, 0, 0), (24, .invokevirtual 227, 27, 0, 166, 2, 7), (27, .ifCond .ne 6, 30, 33, 0, 0, 0), (30, .goto 102, 33, 132, 0, 0, 0), (33, .aload_n 0, 34, 0, 0, 0, 0), (34, .getfield 63, 37, 25, 68, 0, 0), (37, .iload 6, 39, 0, 0, 0, 0), (39, .invokeinterface 102 2, 44, 0, 239, 1, 10), (44, .checkcast 106, 47, 100, 0, 0, 0), (47, .iconst 0, 48, 0, 0, 0, 0), (48, .iaload, 49, 0, 0, 0, 0), (49, .istore 7, 51, 0, 0, 0, 0), (51, .iload_n 2, 52, 0, 0, 0, 0), (52, .iconst 1, 53, 0, 0, 0, 0), (53, .if_icmp .ne 22, 56, 75, 0, 0, 0), (56, .aload_n 0, 57, 0, 0, 0, 0), (57, .getfield 63, 60, 25, 68, 0, 0), (60, .iload 6, 62, 0, 0, 0, 0), (62, .invokeinterface 102 2, 67, 0, 239, 1, 10), (67, .checkcast 106, 70, 100, 0, 0, 0), (70, .iconst 1, 71, 0, 0, 0, 0), (71, .iaload, 72, 0, 0, 0, 0), (72, .goto 24, 75, 96, 0, 0, 0), (75, .iload_n 2, 76, 0, 0, 0, 0), (76, .iconst 2, 77, 0, 0, 0, 0), (77, .if_icmp .ne 14, 80, 91, 0, 0, 0), (80, .iload 7, 82, 0, 0, 0, 0), (82, .bipush 8, 84, 0, 0, 0, 0), (84, .idiv, 85, 0, 0, 0, 0), (85, .bipush 8, 87, 0, 0, 0, 0), (87, .irem, 88, 0, 0, 0, 0), (88, .goto 8, 91, 96, 0, 0, 0), (91, .iload 7, 93, 0, 0, 0, 0), (93, .bipush 8, 95, 0, 0, 0, 0), (95, .irem, 96, 0, 0, 0, 0), (96, .istore 8, 98, 0, 0, 0, 0), (98, .iload 8, 100, 0, 0, 0, 0), (100, .iload_n 3, 101, 0, 0, 0, 0), (101, .if_icmp .ne 31, 104, 132, 0, 0, 0), (104, .iload 5, 106, 0, 0, 0, 0), (106, .iconst 1, 107, 0, 0, 0, 0), (107, .iload 4, 109, 0, 0, 0, 0), (109, .ifCond .eq 14, 112, 123, 0, 0, 0), (112, .iload 7, 114, 0, 0, 0, 0), (114, .bipush 8, 116, 0, 0, 0, 0), (116, .idiv, 117, 0, 0, 0, 0), (117, .bipush 8, 119, 0, 0, 0, 0), (119, .irem, 120, 0, 0, 0, 0), (120, .goto 8, 123, 128, 0, 0, 0), (123, .iload 7, 125, 0, 0, 0, 0), (125, .bipush 8, 127, 0, 0, 0, 0), (127, .irem, 128, 0, 0, 0, 0), (128, .ishl, 129, 0, 0, 0, 0), (129, .ior, 130, 0, 0, 0, 0), (130, .istore 5, 132, 0, 0, 0, 0), (132, .iinc 6 1, 135, 0, 0, 0, 0), (135, .goto (-129), 138, 6, 0, 0, 0), (138, .iload 5, 140, 0, 0, 0, 0), (140, .invokestatic 73, 143, 0, 114, 1, 0), (143, .ireturn, 144, 0, 0, 0, 0)]
def zc_X7_twice : List zRow := [(0, .iconst (-1), 1, 0, 0, 0, 0), (1, .istore_n 2, 2, 0, 0, 0, 0), (2, .iconst 0, 3, 0, 0, 0, 0), (3, .istore_n 3, 4, 0, 0, 0, 0), (4, .iload_n 3, 5, 0, 0, 0, 0), (5, .aload_n 0, 6, 0, 0, 0, 0), (6, .getfield 63, 9, 25, 68, 0, 0), (9, .invokeinterface 96 1, 14, 0, 243, 0, 10), (14, .if_icmp .ge 147, 17, 161, 0, 0, 0), (17, .iconst 0, 18, 0, 0, 0, 0), (18, .istore 4, 20, 0, 0, 0, 0), (20, .iload 4, 22, 0, 0, 0, 0), (22, .iload_n 3, 23, 0, 0, 0, 0), (23, .if_icmp .ge 132, 26, 155, 0, 0, 0), (26, .aload_n 0, 27, 0, 0, 0, 0), (27, .iload_n 3, 28, 0, 0, 0, 0), (28, .iload_n 1, 29, 0, 0, 0, 0), (29, .invokevirtual 227, 32, 0, 166, 2, 7), (32, .ifCond .eq 117, 35, 149, 0, 0, 0), (35, .aload_n 0, 36, 0, 0, 0, 0), (36, .getfield 63, 39, 25, 68, 0, 0), (39, .iload_n 3, 40, 0, 0, 0, 0), (40, .invokeinterface 102 2, 45, 0, 239, 1, 10), (45, .checkcast 106, 48, 100, 0, 0, 0), (48, .iconst 0, 49, 0, 0, 0, 0), (49, .iaload, 50, 0, 0, 0, 0), (50, .aload_n 0, 51, 0, 0, 0, 0), (51, .getfield 63, 54, 25, 68, 0, 0), (54, .iload 4, 56, 0, 0, 0, 0), (56, .invokeinterface 102 2, 61, 0, 239, 1, 10), (61, .checkcast 106, 64, 100, 0, 0, 0), (64, .iconst 0, 65, 0, 0, 0, 0), (65, .iaload, 66, 0, 0, 0, 0), (66, .if_icmp .ne 83, 69, 149, 0, 0, 0), (69, .aload_n 0, 70, 0, 0, 0, 0), (70, .getfield 63, 73, 25, 68, 0, 0), (73, .iload_n 3, 74, 0, 0, 0, 0), (74, .invokeinterface 102 2, 79, 0, 239, 1, 10), (79, .checkcast 106, 82, 100, 0, 0, 0), (82, .iconst 1, 83, 0, 0, 0, 0), (83, .iaload, 84, 0, 0, 0, 0), (84, .aload_n 0, 85, 0, 0, 0, 0), (85, .getfield 63, 88, 25, 68, 0, 0), (88, .iload 4, 90, 0, 0, 0, 0), (90, .invokeinterface 102 2, 95, 0, 239, 1, 10), (95, .checkcast 106, 98, 100, 0, 0, 0), (98, .iconst 1, 99, 0, 0, 0, 0), (99, .iaload, 100, 0, 0, 0, 0), (100, .if_icmp .eq 6, 103, 106, 0, 0, 0), (103, .goto 46, 106, 149, 0, 0, 0), (106, .iload_n 2, 107, 0, 0, 0, 0), (107, .iconst (-1), 108, 0, 0, 0, 0), (108, .if_icmp .ne 21, 111, 129, 0, 0, 0), (111, .aload_n 0, 112, 0, 0, 0, 0), (112, .getfield 63, 115, 25, 68, 0, 0), (115, .iload_n 3, 116, 0, 0, 0, 0), (116, .invokeinterface 102 2, 121, 0, 239, 1, 10), (121, .checkcast 106, 124, 100, 0, 0, 0), (124, .iconst 0, 125, 0, 0, 0, 0), (125, .iaload, 126, 0, 0, 0, 0), (126, .goto 22, 129, 148, 0, 0, 0), (129, .iload_n 2, 130, 0, 0, 0, 0), (130, .aload_n 0, 131, 0, 0, 0, 0), (131, .getfield 63, 134, 25, 68, 0, 0), (134, .iload_n 3, 135, 0, 0, 0, 0), (135, .invokeinterface 102 2, 140, 0, 239, 1, 10), (140, .checkcast 106, 143, 100, 0, 0, 0), (143, .iconst 0, 144, 0, 0, 0, 0), (144, .iaload, 145, 0, 0, 0, 0), (145, .invokestatic 230, 148, 13, 0, 2, 0), (148, .istore_n 2, 149, 0, 0, 0, 0), (149, .iinc 4 1, 152, 0, 0, 0, 0), (152, .goto (-132), 155, 20, 0, 0, 0), (155, .iinc 3 1, 158, 0, 0, 0, 0), (158, .goto (-154), 161, 4, 0, 0, 0), (161, .iload_n 2, 162, 0, 0, 0, 0), (162, .ireturn, 163, 0, 0, 0, 0)]
def zc_X7_blameNow : List zRow := [(0, .iconst 1, 1, 0, 0, 0, 0), (1, .istore_n 3, 2, 0, 0, 0, 0), (2, .iload_n 3, 3, 0, 0, 0, 0), (3, .iconst 3, 4, 0, 0, 0, 0), (4, .if_icmp .gt 58, 7, 62, 0, 0, 0), (7, .iconst 0, 8, 0, 0, 0, 0), (8, .istore 4, 10, 0, 0, 0, 0), (10, .iload 4, 12, 0, 0, 0, 0), (12, .bipush 16, 14, 0, 0, 0, 0), (14, .if_icmp .ge 42, 17, 56, 0, 0, 0), (17, .aload_n 0, 18, 0, 0, 0, 0), (18, .iload_n 1, 19, 0, 0, 0, 0), (19, .iload_n 3, 20, 0, 0, 0, 0), (20, .iload 4, 22, 0, 0, 0, 0), (22, .iload_n 3, 23, 0, 0, 0, 0), (23, .iconst 2, 24, 0, 0, 0, 0), (24, .if_icmp .eq 7, 27, 31, 0, 0, 0), (27, .iconst 1, 28, 0, 0, 0, 0), (28, .goto 4, 31, 32, 0, 0, 0), (31, .iconst 0, 32, 0, 0, 0, 0), (32, .invokevirtual 235, 35, 0, 167, 4, 7), (35, .iconst 3, 36, 0, 0, 0, 0), (36, .if_icmp .lt 14, 39, 50, 0, 0, 0), (39, .iload_n 2, 40, 0, 0, 0, 0), (40, .ifCond .eq 8, 43, 48, 0, 0, 0), (43, .iload 4, 45, 0, 0, 0, 0), (45, .goto 4, 48, 49, 0, 0, 0), (48, .iload_n 3, 49, 0, 0, 0, 0), (49, .ireturn, 50, 0, 0, 0, 0), (50, .iinc 4 1, 53, 0, 0, 0, 0), (53, .goto (-43), 56, 10, 0, 0, 0), (56, .iinc 3 1, 59, 0, 0, 0, 0), (59, .goto (-57), 62, 2, 0, 0, 0), (62, .aload_n 0, 63, 0, 0, 0, 0), (63, .iload_n 1, 64, 0, 0, 0, 0), (64, .invokevirtual 239, 67, 0, 168, 1, 7), (67, .istore_n 3, 68, 0, 0, 0, 0), (68, .iload_n 2, 69, 0, 0, 0, 0), (69, .ifCond .eq 7, 72, 76, 0, 0, 0), (72, .iload_n 3, 73, 0, 0, 0, 0), (73, .goto 13, 76, 86, 0, 0, 0), (76, .iload_n 3, 77, 0, 0, 0, 0), (77, .iconst (-1), 78, 0, 0, 0, 0), (78, .if_icmp .ne 7, 81, 85, 0, 0, 0), (81, .iconst 0, 82, 0, 0, 0, 0), (82, .goto 4, 85, 86, 0, 0, 0), (85, .iconst 4, 86, 0, 0, 0, 0), (86, .ireturn, 87, 0, 0, 0, 0)]
def zc_X7_blame : List zRow := [(0, .aload_n 0, 1, 0, 0, 0, 0), (1, .iconst 0, 2, 0, 0, 0, 0), (2, .putfield 70, 5, 0, 43, 0, 0), (5, .iload_n 1, 6, 0, 0, 0, 0), (6, .iconst 0, 7, 0, 0, 0, 0), (7, .iconst 1, 8, 0, 0, 0, 0), (8, .invokestatic 117, 11, 0, 112, 3, 0), (11, .ifCond .ne 9, 14, 20, 0, 0, 0), (14, .aload_n 0, 15, 0, 0, 0, 0), (15, .iconst 1, 16, 0, 0, 0, 0), (16, .invokevirtual 185, 19, 0, 111, 1, 7), (19, .ireturn, 20, 0, 0, 0, 0), (20, .aload_n 0, 21, 0, 0, 0, 0), (21, .iload_n 1, 22, 0, 0, 0, 0), (22, .iload_n 2, 23, 0, 0, 0, 0), (23, .invokevirtual 242, 26, 0, 169, 2, 7), (26, .ireturn, 27, 0, 0, 0, 0)]
def zc_X7_boardNow : List zRow := [(0, .bipush 18, 2, 0, 0, 0, 0), (2, .newarray .int, 4, 0, 0, 0, 0), (4, .dup, 5, 0, 0, 0, 0), (5, .iconst 0, 6, 0, 0, 0, 0), (6, .aload_n 0, 7, 0, 0, 0, 0), (7, .getfield 114, 10, 4, 47, 0, 0), (10, .iastore, 11, 0, 0, 0, 0), (11, .dup, 12, 0, 0, 0, 0), (12, .iconst 1, 13, 0, 0, 0, 0), (13, .aload_n 0, 14, 0, 0, 0, 0), (14, .getfield 7, 17, 1, 44, 0, 0), (17, .iastore, 18, 0, 0, 0, 0), (18, .dup, 19, 0, 0, 0, 0), (19, .iconst 2, 20, 0, 0, 0, 0), (20, .aload_n 0, 21, 0, 0, 0, 0), (21, .getfield 13, 24, 2, 45, 0, 0), (24, .iastore, 25, 0, 0, 0, 0), (25, .dup, 26, 0, 0, 0, 0), (26, .iconst 3, 27, 0, 0, 0, 0), (27, .aload_n 0, 28, 0, 0, 0, 0), (28, .getfield 20, 31, 5, 48, 0, 0), (31, .iastore, 32, 0, 0, 0, 0), (32, .dup, 33, 0, 0, 0, 0), (33, .iconst 4, 34, 0, 0, 0, 0), (34, .aload_n 0, 35, 0, 0, 0, 0), (35, .getfield 23, 38, 6, 49, 0, 0), (38, .iastore, 39, 0, 0, 0, 0), (39, .dup, 40, 0, 0, 0, 0), (40, .iconst 5, 41, 0, 0, 0, 0), (41, .aload_n 0, 42, 0, 0, 0, 0), (42, .getfield 170, 45, 7, 50, 0, 0), (45, .iastore, 46, 0, 0, 0, 0), (46, .dup, 47, 0, 0, 0, 0), (47, .bipush 6, 49, 0, 0, 0, 0), (49, .aload_n 0, 50, 0, 0, 0, 0), (50, .getfield 154, 53, 8, 51, 0, 0), (53, .ifCond .eq 7, 56, 60, 0, 0, 0), (56, .iconst 1, 57, 0, 0, 0, 0), (57, .goto 4, 60, 61, 0, 0, 0), (60, .iconst 0, 61, 0, 0, 0, 0), (61, .iastore, 62, 0, 0, 0, 0), (62, .dup, 63, 0, 0, 0, 0), (63, .bipush 7, 65, 0, 0, 0, 0), (65, .aload_n 0, 66, 0, 0, 0, 0), (66, .getfield 167, 69, 9, 52, 0, 0), (69, .ifCond .eq 7, 72, 76, 0, 0, 0), (72, .iconst 1, 73, 0, 0, 0, 0), (73, .goto 4, 76, 77, 0, 0, 0), (76, .iconst 0, 77, 0, 0, 0, 0), (77, .iastore, 78, 0, 0, 0, 0), (78, .dup, 79, 0, 0, 0, 0), (79, .bipush 8, 81, 0, 0, 0, 0), (81, .aload_n 0, 82, 0, 0, 0, 0), (82, .getfield 173, 85, 10, 53, 0, 0), (85, .iastore, 86, 0, 0, 0, 0), (86, .dup, 87, 0, 0, 0, 0), (87, .bipush 9, 89, 0, 0, 0, 0), (89, .aload_n 0, 90, 0, 0, 0, 0), (90, .getfield 63, 93, 25, 68, 0, 0), (93, .invokeinterface 96 1, 98, 0, 243, 0, 10), (98, .iastore, 99, 0, 0, 0, 0), (99, .dup, 100, 0, 0, 0, 0), (100, .bipush 10, 102, 0, 0, 0, 0), (102, .aload_n 0, 103, 0, 0, 0, 0), (103, .getfield 127, 106, 14, 57, 0, 0), (106, .iastore, 107, 0, 0, 0, 0), (107, .dup, 108, 0, 0, 0, 0), (108, .bipush 11, 110, 0, 0, 0, 0), (110, .aload_n 0, 111, 0, 0, 0, 0), (111, .getfield 130, 114, 15, 58, 0, 0), (114, .iastore, 115, 0, 0, 0, 0), (115, .dup, 116, 0, 0, 0, 0), (116, .bipush 12, 118, 0, 0, 0, 0), (118, .aload_n 0, 119, 0, 0, 0, 0), (119, .getfield 46, 122, 21, 64, 0, 0), (122, .invokestatic 198, 125, 0, 149, 1, 0), (125, .iastore, 126, 0, 0, 0, 0), (126, .dup, 127, 0, 0, 0, 0), (127, .bipush 13, 129, 0, 0, 0, 0), (129, .aload_n 0, 130, 0, 0, 0, 0), (130, .getfield 50, 133, 22, 65, 0, 0), (133, .invokestatic 198, 136, 0, 149, 1, 0), (136, .iastore, 137, 0, 0, 0, 0), (137, .dup, 138, 0, 0, 0, 0), (138, .bipush 14, 140, 0, 0, 0, 0), (140, .aload_n 0, 141, 0, 0, 0, 0), (141, .getfield 56, 144, 23, 66, 0, 0), (144, .invokeinterface 96 1, 149, 0, 243, 0, 10), (149, .iastore, 150, 0, 0, 0, 0), (150, .dup, 151, 0, 0, 0, 0), (151, .bipush 15, 153, 0, 0, 0, 0), (153, .aload_n 0, 154, 0, 0, 0, 0), (154, .getfield 60, 157, 24, 67, 0, 0), (157, .invokeinterface 96 1, 162, 0, 243, 0, 10), (162, .iastore, 163, 0, 0, 0, 0), (163, .dup, 164, 0, 0, 0, 0), (164, .bipush 16, 166, 0, 0, 0, 0), (166, .aload_n 0, 167, 0, 0, 0, 0), (167, .getfield 111, 170, 12, 55, 0, 0), (170, .iastore, 171, 0, 0, 0, 0), (171, .dup, 172, 0, 0, 0, 0), (172, .bipush 17, 174, 0, 0, 0, 0), (174, .aload_n 0, 175, 0, 0, 0, 0), (175, .getfield 204, 178, 13, 56, 0, 0), (178, .iastore, 179, 0, 0, 0, 0), (179, .astore_n 2, 180, 0, 0, 0, 0), (180, .aload_n 2, 181, 0, 0, 0, 0), (181, .iload_n 1, 182, 0, 0, 0, 0), (182, .iaload, 183, 0, 0, 0, 0), (183, .ireturn, 184, 0, 0, 0, 0)]
def zc_X7_board : List zRow := [(0, .aload_n 0, 1, 0, 0, 0, 0), (1, .iconst 0, 2, 0, 0, 0, 0), (2, .putfield 70, 5, 0, 43, 0, 0), (5, .iload_n 1, 6, 0, 0, 0, 0), (6, .iconst 0, 7, 0, 0, 0, 0), (7, .bipush 17, 9, 0, 0, 0, 0), (9, .invokestatic 117, 12, 0, 112, 3, 0), (12, .ifCond .ne 9, 15, 21, 0, 0, 0), (15, .aload_n 0, 16, 0, 0, 0, 0), (16, .iconst 1, 17, 0, 0, 0, 0), (17, .invokevirtual 185, 20, 0, 111, 1, 7), (20, .ireturn, 21, 0, 0, 0, 0), (21, .aload_n 0, 22, 0, 0, 0, 0), (22, .iload_n 1, 23, 0, 0, 0, 0), (23, .invokevirtual 246, 26, 0, 171, 1, 7), (26, .ireturn, 27, 0, 0, 0, 0)]
def zc_X7_healthNow : List zRow := [(0, .iconst 0, 1, 0, 0, 0, 0), (1, .istore_n 2, 2, 0, 0, 0, 0), (2, .bipush 64, 4, 0, 0, 0, 0), (4, .iload_n 1, 5, 0, 0, 0, 0), (5, .imul, 6, 0, 0, 0, 0), (6, .istore_n 3, 7, 0, 0, 0, 0), (7, .iload_n 3, 8, 0, 0, 0, 0), (8, .bipush 64, 10, 0, 0, 0, 0), (10, .iload_n 1, 11, 0, 0, 0, 0), (11, .imul, 12, 0, 0, 0, 0), (12, .bipush 64, 14, 0, 0, 0, 0), (14, .iadd, 15, 0, 0, 0, 0), (15, .if_icmp .ge 38, 18, 53, 0, 0, 0), (18, .iload_n 2, 19, 0, 0, 0, 0), (19, .aload_n 0, 20, 0, 0, 0, 0), (20, .aload_n 0, 21, 0, 0, 0, 0), (21, .iload_n 3, 22, 0, 0, 0, 0), (22, .invokevirtual 148, 25, 0, 125, 1, 7), (25, .invokevirtual 87, 28, 0, 121, 1, 7), (28, .ifCond .ne 16, 31, 44, 0, 0, 0), (31, .aload_n 0, 32, 0, 0, 0, 0), (32, .getfield 46, 35, 21, 64, 0, 0), (35, .iload_n 3, 36, 0, 0, 0, 0), (36, .baload, 37, 101, 0, 0, 0), (37, .ifCond .ne 7, 40, 44, 0, 0, 0), (40, .iconst 1, 41, 0, 0, 0, 0), (41, .goto 4, 44, 45, 0, 0, 0), (44, .iconst 0, 45, 0, 0, 0, 0), (45, .iadd, 46, 0, 0, 0, 0), (46, .istore_n 2, 47, 0, 0, 0, 0), (47, .iinc 3 1, 50, 0, 0, 0, 0), (50, .goto (-43), 53, 7, 0, 0, 0), (53, .iload_n 2, 54, 0, 0, 0, 0), (54, .i2d, 55, 0, 0, 0, 0), (55, .ldc2_w 249, 58, 1, 4634204016564240384, 0, 0), (58, .ddiv, 59, 0, 0, 0, 0), (59, .dreturn, 60, 0, 0, 0, 0)]
def zc_X7_health : List zRow := [(0, .aload_n 0, 1, 0, 0, 0, 0), (1, .iconst 0, 2, 0, 0, 0, 0), (2, .putfield 70, 5, 0, 43, 0, 0), (5, .iload_n 1, 6, 0, 0, 0, 0), (6, .iconst 0, 7, 0, 0, 0, 0), (7, .iconst 1, 8, 0, 0, 0, 0), (8, .invokestatic 117, 11, 0, 112, 3, 0), (11, .ifCond .ne 10, 14, 21, 0, 0, 0), (14, .aload_n 0, 15, 0, 0, 0, 0), (15, .iconst 1, 16, 0, 0, 0, 0), (16, .invokevirtual 185, 19, 0, 111, 1, 7), (19, .i2d, 20, 0, 0, 0, 0), (20, .dreturn, 21, 0, 0, 0, 0), (21, .aload_n 0, 22, 0, 0, 0, 0), (22, .iload_n 1, 23, 0, 0, 0, 0), (23, .invokevirtual 251, 26, 0, 173, 1, 7), (26, .dreturn, 27, 0, 0, 0, 0)]
def zc_X7_tell : List zRow := [(0, .aload_n 0, 1, 0, 0, 0, 0), (1, .iconst 0, 2, 0, 0, 0, 0), (2, .putfield 70, 5, 0, 43, 0, 0), (5, .iload_n 1, 6, 0, 0, 0, 0), (6, .iconst 0, 7, 0, 0, 0, 0), (7, .iconst 1, 8, 0, 0, 0, 0), (8, .invokestatic 117, 11, 0, 112, 3, 0), (11, .ifCond .eq 13, 14, 24, 0, 0, 0), (14, .iload_n 2, 15, 0, 0, 0, 0), (15, .iconst 0, 16, 0, 0, 0, 0), (16, .bipush 7, 18, 0, 0, 0, 0), (18, .invokestatic 117, 21, 0, 112, 3, 0), (21, .ifCond .ne 11, 24, 32, 0, 0, 0), (24, .aload_n 0, 25, 0, 0, 0, 0), (25, .iconst 1, 26, 0, 0, 0, 0), (26, .putfield 70, 29, 0, 43, 0, 0), (29, .ldc 255, 31, 3, 0, 0, 0), (31, .areturn, 32, 0, 0, 0, 0), (32, .new 257, 35, 0, 0, 0, 8), (35, .dup, 36, 0, 0, 0, 0), (36, .invokespecial 259, 39, 0, 221, 0, 0), (39, .astore_n 3, 40, 0, 0, 0, 0), (40, .iconst 0, 41, 0, 0, 0, 0), (41, .istore 4, 43, 0, 0, 0, 0), (43, .iload 4, 45, 0, 0, 0, 0), (45, .bipush 8, 47, 0, 0, 0, 0), (47, .if_icmp .ge 93, 50, 140, 0, 0, 0), (50, .iload_n 1, 51, 0, 0, 0, 0), (51, .bipush 64, 53, 0, 0, 0, 0), (53, .imul, 54, 0, 0, 0, 0), (54, .iload_n 2, 55, 0, 0, 0, 0), (55, .bipush 8, 57, 0, 0, 0, 0), (57, .imul, 58, 0, 0, 0, 0), (58, .iadd, 59, 0, 0, 0, 0), (59, .iload 4, 61, 0, 0, 0, 0), (61, .iadd, 62, 0, 0, 0, 0), (62, .istore 5, 64, 0, 0, 0, 0), (64, .aload_n 0, 65, 0, 0, 0, 0), (65, .aload_n 0, 66, 0, 0, 0, 0), (66, .iload 5, 68, 0, 0, 0, 0), (68, .invokevirtual 148, 71, 0, 125, 1, 7), (71, .invokevirtual 87, 74, 0, 121, 1, 7), (74, .istore 6, 76, 0, 0, 0, 0), (76, .aload_n 3, 77, 0, 0, 0, 0), (77, .aload_n 0, 78, 0, 0, 0, 0), (78, .getfield 50, 81, 22, 65, 0, 0), (81, .iload 5, 83, 0, 0, 0, 0), (83, .baload, 84, 101, 0, 0, 0), (84, .ifCond .eq 8, 87, 92, 0, 0, 0), (87, .bipush 120, 89, 0, 0, 0, 0), (89, .goto 41, 92, 130, 0, 0, 0), (92, .aload_n 0, 93, 0, 0, 0, 0), (93, .getfield 46, 96, 21, 64, 0, 0), (96, .iload 5, 98, 0, 0, 0, 0), (98, .baload, 99, 101, 0, 0, 0), (99, .ifCond .eq 8, 102, 107, 0, 0, 0), (102, .bipush 112, 104, 0, 0, 0, 0), (104, .goto 26, 107, 130, 0, 0, 0), (107, .iload 6, 109, 0, 0, 0, 0), (109, .ifCond .ne 8, 112, 117, 0, 0, 0), (112, .bipush 46, 114, 0, 0, 0, 0), (114, .goto 16, 117, 130, 0, 0, 0), (117, .iload 6, 119, 0, 0, 0, 0), (119, .iconst 1, 120, 0, 0, 0, 0), (120, .if_icmp .ne 8, 123, 128, 0, 0, 0), (123, .bipush 109, 125, 0, 0, 0, 0), (125, .goto 5, 128, 130, 0, 0, 0), (128, .bipush 66, 130, 0, 0, 0, 0), (130, .invokevirtual 260, 133, 0, 220, 1, 8), (133, .pop, 134, 0, 0, 0, 0), (134, .iinc 4 1, 137, 0, 0, 0, 0), (137, .goto (-94), 140, 43, 0, 0, 0), (140, .aload_n 3, 141, 0, 0, 0, 0), (141, .invokevirtual 264, 144, 0, 222, 0, 8), (144, .areturn, 145, 0, 0, 0, 0)]
def zc_X7_wouldTell : List zRow := [(0, .aload_n 0, 1, 0, 0, 0, 0), (1, .getfield 46, 4, 21, 64, 0, 0), (4, .iload_n 1, 5, 0, 0, 0, 0), (5, .baload, 6, 101, 0, 0, 0), (6, .ifCond .ne 16, 9, 22, 0, 0, 0), (9, .aload_n 0, 10, 0, 0, 0, 0), (10, .aload_n 0, 11, 0, 0, 0, 0), (11, .iload_n 1, 12, 0, 0, 0, 0), (12, .invokevirtual 148, 15, 0, 125, 1, 7), (15, .invokevirtual 87, 18, 0, 121, 1, 7), (18, .iconst 2, 19, 0, 0, 0, 0), (19, .if_icmp .ne 7, 22, 26, 0, 0, 0), (22, .iconst (-1), 23, 0, 0, 0, 0), (23, .goto 12, 26, 35, 0, 0, 0), (26, .aload_n 0, 27, 0, 0, 0, 0), (27, .aload_n 0, 28, 0, 0, 0, 0), (28, .iload_n 1, 29, 0, 0, 0, 0), (29, .invokevirtual 148, 32, 0, 125, 1, 7), (32, .invokevirtual 158, 35, 0, 123, 1, 7), (35, .ireturn, 36, 0, 0, 0, 0)]
def zc_X7_wouldReadNow : List zRow := [(0, .aload_n 0, 1, 0, 0, 0, 0), (1, .getfield 50, 4, 22, 65, 0, 0), (4, .iload_n 1, 5, 0, 0, 0, 0), (5, .baload, 6, 101, 0, 0, 0), (6, .ifCond .eq 6, 9, 12, 0, 0, 0), (9, .bipush (-2), 11, 0, 0, 0, 0), (11, .ireturn, 12, 0, 0, 0, 0), (12, .aload_n 0, 13, 0, 0, 0, 0), (13, .iload_n 1, 14, 0, 0, 0, 0), (14, .invokevirtual 268, 17, 0, 176, 1, 7), (17, .istore_n 2, 18, 0, 0, 0, 0), (18, .iload_n 1, 19, 0, 0, 0, 0), (19, .invokestatic 164, 22, 0, 131, 1, 0), (22, .istore_n 3, 23, 0, 0, 0, 0), (23, .iload_n 2, 24, 0, 0, 0, 0), (24, .iconst (-1), 25, 0, 0, 0, 0), (25, .if_icmp .ne 19, 28, 44, 0, 0, 0), (28, .aload_n 0, 29, 0, 0, 0, 0), (29, .getfield 167, 32, 9, 52, 0, 0), (32, .ifCond .eq 12, 35, 44, 0, 0, 0), (35, .aload_n 0, 36, 0, 0, 0, 0), (36, .getfield 50, 39, 22, 65, 0, 0), (39, .iload_n 3, 40, 0, 0, 0, 0), (40, .baload, 41, 101, 0, 0, 0), (41, .ifCond .eq 7, 44, 48, 0, 0, 0), (44, .iload_n 2, 45, 0, 0, 0, 0), (45, .goto 8, 48, 53, 0, 0, 0), (48, .aload_n 0, 49, 0, 0, 0, 0), (49, .iload_n 3, 50, 0, 0, 0, 0), (50, .invokevirtual 268, 53, 0, 176, 1, 7), (53, .ireturn, 54, 0, 0, 0, 0)]
def zc_X7_wouldRead : List zRow := [(0, .aload_n 0, 1, 0, 0, 0, 0), (1, .iconst 0, 2, 0, 0, 0, 0), (2, .putfield 70, 5, 0, 43, 0, 0), (5, .iload_n 1, 6, 0, 0, 0, 0), (6, .invokestatic 188, 9, 0, 138, 1, 0), (9, .ifCond .ne 9, 12, 18, 0, 0, 0), (12, .aload_n 0, 13, 0, 0, 0, 0), (13, .iconst 1, 14, 0, 0, 0, 0), (14, .invokevirtual 185, 17, 0, 111, 1, 7), (17, .ireturn, 18, 0, 0, 0, 0), (18, .aload_n 0, 19, 0, 0, 0, 0), (19, .iload_n 1, 20, 0, 0, 0, 0), (20, .invokevirtual 271, 23, 0, 177, 1, 7), (23, .ireturn, 24, 0, 0, 0, 0)]
def zc_X7_wouldSpareNow : List zRow := [(0, .iconst (-1), 1, 0, 0, 0, 0), (1, .istore_n 2, 2, 0, 0, 0, 0), (2, .iconst 0, 3, 0, 0, 0, 0), (3, .istore_n 3, 4, 0, 0, 0, 0), (4, .iload_n 3, 5, 0, 0, 0, 0), (5, .bipush 8, 7, 0, 0, 0, 0), (7, .if_icmp .ge 128, 10, 135, 0, 0, 0), (10, .aload_n 0, 11, 0, 0, 0, 0), (11, .getfield 43, 14, 20, 63, 0, 0), (14, .iload_n 1, 15, 0, 0, 0, 0), (15, .iaload, 16, 0, 0, 0, 0), (16, .iconst 2, 17, 0, 0, 0, 0), (17, .if_icmp .ge 118, 20, 135, 0, 0, 0), (20, .aload_n 0, 21, 0, 0, 0, 0), (21, .getfield 40, 24, 19, 62, 0, 0), (24, .iload_n 1, 25, 0, 0, 0, 0), (25, .bipush 8, 27, 0, 0, 0, 0), (27, .imul, 28, 0, 0, 0, 0), (28, .iload_n 3, 29, 0, 0, 0, 0), (29, .iadd, 30, 0, 0, 0, 0), (30, .iaload, 31, 0, 0, 0, 0), (31, .istore 4, 33, 0, 0, 0, 0), (33, .aload_n 0, 34, 0, 0, 0, 0), (34, .iload 4, 36, 0, 0, 0, 0), (36, .invokevirtual 221, 39, 0, 161, 1, 7), (39, .ifCond .ne 6, 42, 45, 0, 0, 0), (42, .goto 87, 45, 129, 0, 0, 0), (45, .iload_n 2, 46, 0, 0, 0, 0), (46, .iconst (-1), 47, 0, 0, 0, 0), (47, .if_icmp .ne 7, 50, 54, 0, 0, 0), (50, .iconst 0, 51, 0, 0, 0, 0), (51, .goto 14, 54, 65, 0, 0, 0), (54, .aload_n 0, 55, 0, 0, 0, 0), (55, .getfield 40, 58, 19, 62, 0, 0), (58, .iload_n 1, 59, 0, 0, 0, 0), (59, .bipush 8, 61, 0, 0, 0, 0), (61, .imul, 62, 0, 0, 0, 0), (62, .iload_n 2, 63, 0, 0, 0, 0), (63, .iadd, 64, 0, 0, 0, 0), (64, .iaload, 65, 0, 0, 0, 0), (65, .istore 5, 67, 0, 0, 0, 0), (67, .iload_n 2, 68, 0, 0, 0, 0), (68, .iconst (-1), 69, 0, 0, 0, 0), (69, .if_icmp .eq 58, 72, 127, 0, 0, 0), (72, .aload_n 0, 73, 0, 0, 0, 0), (73, .iload 4, 75, 0, 0, 0, 0), (75, .invokevirtual 221, 78, 0, 161, 1, 7), (78, .aload_n 0, 79, 0, 0, 0, 0), (79, .iload 5, 81, 0, 0, 0, 0), (81, .invokevirtual 221, 84, 0, 161, 1, 7), (84, .if_icmp .gt 43, 87, 127, 0, 0, 0), (87, .aload_n 0, 88, 0, 0, 0, 0), (88, .iload 4, 90, 0, 0, 0, 0), (90, .invokevirtual 221, 93, 0, 161, 1, 7), (93, .aload_n 0, 94, 0, 0, 0, 0), (94, .iload 5, 96, 0, 0, 0, 0), (96, .invokevirtual 221, 99, 0, 161, 1, 7), (99, .if_icmp .ne 30, 102, 129, 0, 0, 0), (102, .aload_n 0, 103, 0, 0, 0, 0), (103, .aload_n 0, 104, 0, 0, 0, 0), (104, .getfield 56, 107, 23, 66, 0, 0), (107, .iload 4, 109, 0, 0, 0, 0), (109, .iconst (-1), 110, 0, 0, 0, 0), (110, .invokevirtual 210, 113, 0, 158, 3, 7), (113, .aload_n 0, 114, 0, 0, 0, 0), (114, .aload_n 0, 115, 0, 0, 0, 0), (115, .getfield 56, 118, 23, 66, 0, 0), (118, .iload 5, 120, 0, 0, 0, 0), (120, .iconst (-1), 121, 0, 0, 0, 0), (121, .invokevirtual 210, 124, 0, 158, 3, 7), (124, .if_icmp .le 5, 127, 129, 0, 0, 0), (127, .iload_n 3, 128, 0, 0, 0, 0), (128, .istore_n 2, 129, 0, 0, 0, 0), (129, .iinc 3 1, 132, 0, 0, 0, 0), (132, .goto (-128), 135, 4, 0, 0, 0), (135, .iload_n 2, 136, 0, 0, 0, 0), (136, .ireturn, 137, 0, 0, 0, 0)]
def zc_X7_wouldSpare : List zRow := [(0, .aload_n 0, 1, 0, 0, 0, 0), (1, .iconst 0, 2, 0, 0, 0, 0), (2, .putfield 70, 5, 0, 43, 0, 0), (5, .iload_n 1, 6, 0, 0, 0, 0), (6, .iconst 0, 7, 0, 0, 0, 0), (7, .iconst 1, 8, 0, 0, 0, 0), (8, .invokestatic 117, 11, 0, 112, 3, 0), (11, .ifCond .ne 9, 14, 20, 0, 0, 0), (14, .aload_n 0, 15, 0, 0, 0, 0), (15, .iconst 1, 16, 0, 0, 0, 0), (16, .invokevirtual 185, 19, 0, 111, 1, 7), (19, .ireturn, 20, 0, 0, 0, 0), (20, .aload_n 0, 21, 0, 0, 0, 0), (21, .iload_n 1, 22, 0, 0, 0, 0), (22, .invokevirtual 274, 25, 0, 179, 1, 7), (25, .ireturn, 26, 0, 0, 0, 0)]
def zc_X7_isStuck : List zRow := [(0, .iconst 0, 1, 0, 0, 0, 0), (1, .istore_n 2, 2, 0, 0, 0, 0), (2, .iload_n 2, 3, 0, 0, 0, 0), (3, .aload_n 0, 4, 0, 0, 0, 0), (4, .getfield 56, 7, 23, 66, 0, 0), (7, .invokeinterface 96 1, 12, 0, 243, 0, 10), (12, .if_icmp .ge 74, 15, 86, 0, 0, 0), (15, .aload_n 0, 16, 0, 0, 0, 0), (16, .getfield 56, 19, 23, 66, 0, 0), (19, .iload_n 2, 20, 0, 0, 0, 0), (20, .invokeinterface 102 2, 25, 0, 239, 1, 10), (25, .checkcast 106, 28, 100, 0, 0, 0), (28, .iconst 0, 29, 0, 0, 0, 0), (29, .iaload, 30, 0, 0, 0, 0), (30, .aload_n 1, 31, 0, 0, 0, 0), (31, .iconst 0, 32, 0, 0, 0, 0), (32, .iaload, 33, 0, 0, 0, 0), (33, .if_icmp .ne 47, 36, 80, 0, 0, 0), (36, .aload_n 0, 37, 0, 0, 0, 0), (37, .getfield 56, 40, 23, 66, 0, 0), (40, .iload_n 2, 41, 0, 0, 0, 0), (41, .invokeinterface 102 2, 46, 0, 239, 1, 10), (46, .checkcast 106, 49, 100, 0, 0, 0), (49, .iconst 1, 50, 0, 0, 0, 0), (50, .iaload, 51, 0, 0, 0, 0), (51, .aload_n 1, 52, 0, 0, 0, 0), (52, .iconst 1, 53, 0, 0, 0, 0), (53, .iaload, 54, 0, 0, 0, 0), (54, .if_icmp .ne 26, 57, 80, 0, 0, 0), (57, .aload_n 0, 58, 0, 0, 0, 0), (58, .getfield 56, 61, 23, 66, 0, 0), (61, .iload_n 2, 62, 0, 0, 0, 0), (62, .invokeinterface 102 2, 67, 0, 239, 1, 10), (67, .checkcast 106, 70, 100, 0, 0, 0), (70, .iconst 2, 71, 0, 0, 0, 0), (71, .iaload, 72, 0, 0, 0, 0), (72, .aload_n 1, 73, 0, 0, 0, 0), (73, .iconst 2, 74, 0, 0, 0, 0), (74, .iaload, 75, 0, 0, 0, 0), (75, .if_icmp .ne 5, 78, 80, 0, 0, 0), (78, .iconst 1, 79, 0, 0, 0, 0), (79, .ireturn, 80, 1, 0, 0, 0), (80, .iinc 2 1, 83, 0, 0, 0, 0), (83, .goto (-81), 86, 2, 0, 0, 0), (86, .iconst 0, 87, 0, 0, 0, 0), (87, .ireturn, 88, 1, 0, 0, 0)]
def zc_X7_wouldLeak : List zRow := [(0, .aload_n 0, 1, 0, 0, 0, 0), (1, .getfield 31, 4, 16, 59, 0, 0), (4, .aload_n 1, 5, 0, 0, 0, 0), (5, .iconst 0, 6, 0, 0, 0, 0), (6, .iaload, 7, 0, 0, 0, 0), (7, .aaload, 8, 0, 0, 0, 0), (8, .aload_n 1, 9, 0, 0, 0, 0), (9, .iconst 1, 10, 0, 0, 0, 0), (10, .iaload, 11, 0, 0, 0, 0), (11, .iaload, 12, 0, 0, 0, 0), (12, .aload_n 1, 13, 0, 0, 0, 0), (13, .iconst 2, 14, 0, 0, 0, 0), (14, .iaload, 15, 0, 0, 0, 0), (15, .invokestatic 77, 18, 0, 113, 2, 0), (18, .ifCond .eq 11, 21, 29, 0, 0, 0), (21, .aload_n 0, 22, 0, 0, 0, 0), (22, .aload_n 1, 23, 0, 0, 0, 0), (23, .invokevirtual 277, 26, 0, 181, 1, 7), (26, .ifCond .eq 5, 29, 31, 0, 0, 0), (29, .iconst 0, 30, 0, 0, 0, 0), (30, .ireturn, 31, 1, 0, 0, 0), (31, .aload_n 0, 32, 0, 0, 0, 0), (32, .getfield 37, 35, 18, 61, 0, 0), (35, .aload_n 1, 36, 0, 0, 0, 0), (36, .iconst 0, 37, 0, 0, 0, 0), (37, .iaload, 38, 0, 0, 0, 0), (38, .iaload, 39, 0, 0, 0, 0), (39, .istore_n 3, 40, 0, 0, 0, 0), (40, .aload_n 0, 41, 0, 0, 0, 0), (41, .getfield 114, 44, 4, 47, 0, 0), (44, .iconst 1, 45, 0, 0, 0, 0), (45, .iadd, 46, 0, 0, 0, 0), (46, .istore 4, 48, 0, 0, 0, 0), (48, .iload 4, 50, 0, 0, 0, 0), (50, .aload_n 0, 51, 0, 0, 0, 0), (51, .getfield 114, 54, 4, 47, 0, 0), (54, .iload_n 2, 55, 0, 0, 0, 0), (55, .iadd, 56, 0, 0, 0, 0), (56, .if_icmp .gt 34, 59, 90, 0, 0, 0), (59, .iload 4, 61, 0, 0, 0, 0), (61, .iload_n 3, 62, 0, 0, 0, 0), (62, .isub, 63, 0, 0, 0, 0), (63, .aload_n 1, 64, 0, 0, 0, 0), (64, .iconst 3, 65, 0, 0, 0, 0), (65, .iaload, 66, 0, 0, 0, 0), (66, .if_icmp .lt 5, 69, 71, 0, 0, 0), (69, .iconst 1, 70, 0, 0, 0, 0), (70, .ireturn, 71, 1, 0, 0, 0), (71, .iload 4, 73, 0, 0, 0, 0), (73, .aload_n 0, 74, 0, 0, 0, 0), (74, .getfield 20, 77, 5, 48, 0, 0), (77, .irem, 78, 0, 0, 0, 0), (78, .ifCond .ne 6, 81, 84, 0, 0, 0), (81, .iload 4, 83, 0, 0, 0, 0), (83, .istore_n 3, 84, 0, 0, 0, 0), (84, .iinc 4 1, 87, 0, 0, 0, 0), (87, .goto (-39), 90, 48, 0, 0, 0), (90, .iconst 0, 91, 0, 0, 0, 0), (91, .ireturn, 92, 1, 0, 0, 0)]
def zc_X7_wouldLeakNow : List zRow := [(0, .iconst 0, 1, 0, 0, 0, 0), (1, .istore_n 2, 2, 0, 0, 0, 0), (2, .iconst 0, 3, 0, 0, 0, 0), (3, .istore_n 3, 4, 0, 0, 0, 0), (4, .iload_n 3, 5, 0, 0, 0, 0), (5, .aload_n 0, 6, 0, 0, 0, 0), (6, .getfield 60, 9, 24, 67, 0, 0), (9, .invokeinterface 96 1, 14, 0, 243, 0, 10), (14, .if_icmp .ge 124, 17, 138, 0, 0, 0), (17, .aload_n 0, 18, 0, 0, 0, 0), (18, .aload_n 0, 19, 0, 0, 0, 0), (19, .getfield 60, 22, 24, 67, 0, 0), (22, .iload_n 3, 23, 0, 0, 0, 0), (23, .invokeinterface 102 2, 28, 0, 239, 1, 10), (28, .checkcast 106, 31, 100, 0, 0, 0), (31, .iload_n 1, 32, 0, 0, 0, 0), (32, .invokevirtual 281, 35, 0, 182, 2, 7), (35, .istore 4, 37, 0, 0, 0, 0), (37, .iconst 0, 38, 0, 0, 0, 0), (38, .istore 5, 40, 0, 0, 0, 0), (40, .iload 5, 42, 0, 0, 0, 0), (42, .iload_n 3, 43, 0, 0, 0, 0), (43, .if_icmp .ge 76, 46, 119, 0, 0, 0), (46, .iload 4, 48, 0, 0, 0, 0), (48, .ifCond .eq 71, 51, 119, 0, 0, 0), (51, .aload_n 0, 52, 0, 0, 0, 0), (52, .getfield 60, 55, 24, 67, 0, 0), (55, .iload 5, 57, 0, 0, 0, 0), (57, .invokeinterface 102 2, 62, 0, 239, 1, 10), (62, .checkcast 106, 65, 100, 0, 0, 0), (65, .aload_n 0, 66, 0, 0, 0, 0), (66, .getfield 60, 69, 24, 67, 0, 0), (69, .iload_n 3, 70, 0, 0, 0, 0), (70, .invokeinterface 102 2, 75, 0, 239, 1, 10), (75, .checkcast 106, 78, 100, 0, 0, 0), (78, .invokestatic 285, 81, 0, 184, 2, 0), (81, .ifCond .eq 25, 84, 106, 0, 0, 0), (84, .aload_n 0, 85, 0, 0, 0, 0), (85, .aload_n 0, 86, 0, 0, 0, 0), (86, .getfield 60, 89, 24, 67, 0, 0), (89, .iload 5, 91, 0, 0, 0, 0), (91, .invokeinterface 102 2, 96, 0, 239, 1, 10), (96, .checkcast 106, 99, 100, 0, 0, 0), (99, .iload_n 1, 100, 0, 0, 0, 0), (100, .invokevirtual 281, 103, 0, 182, 2, 7), (103, .ifCond .ne 7, 106, 110, 0, 0, 0), (106, .iconst 1, 107, 0, 0, 0, 0), (107, .goto 4, 110, 111, 0, 0, 0), (110, .iconst 0, 111, 0, 0, 0, 0), (111, .istore 4, 113, 0, 0, 0, 0), (113, .iinc 5 1, 116, 0, 0, 0, 0), (116, .goto (-76), 119, 40, 0, 0, 0), (119, .iload_n 2, 120, 0, 0, 0, 0), (120, .iload 4, 122, 0, 0, 0, 0), (122, .ifCond .eq 7, 125, 129, 0, 0, 0), (125, .iconst 1, 126, 0, 0, 0, 0), (126, .goto 4, 129, 130, 0, 0, 0), (129, .iconst 0, 130, 0, 0, 0, 0), (130, .iadd, 131, 0, 0, 0, 0), (131, .istore_n 2, 132, 0, 0, 0, 0), (132, .iinc 3 1, 135, 0, 0, 0, 0), (135, .goto (-131), 138, 4, 0, 0, 0), (138, .iload_n 2, 139, 0, 0, 0, 0), (139, .ireturn, 140, 0, 0, 0, 0)]
def zc_X7_areOne : List zRow := [(0, .aload_n 0, 1, 0, 0, 0, 0), (1, .iconst 0, 2, 0, 0, 0, 0), (2, .iaload, 3, 0, 0, 0, 0), (3, .aload_n 1, 4, 0, 0, 0, 0), (4, .iconst 0, 5, 0, 0, 0, 0), (5, .iaload, 6, 0, 0, 0, 0), (6, .if_icmp .ne 25, 9, 31, 0, 0, 0), (9, .aload_n 0, 10, 0, 0, 0, 0), (10, .iconst 1, 11, 0, 0, 0, 0), (11, .iaload, 12, 0, 0, 0, 0), (12, .aload_n 1, 13, 0, 0, 0, 0), (13, .iconst 1, 14, 0, 0, 0, 0), (14, .iaload, 15, 0, 0, 0, 0), (15, .if_icmp .ne 16, 18, 31, 0, 0, 0), (18, .aload_n 0, 19, 0, 0, 0, 0), (19, .iconst 2, 20, 0, 0, 0, 0), (20, .iaload, 21, 0, 0, 0, 0), (21, .aload_n 1, 22, 0, 0, 0, 0), (22, .iconst 2, 23, 0, 0, 0, 0), (23, .iaload, 24, 0, 0, 0, 0), (24, .if_icmp .ne 7, 27, 31, 0, 0, 0), (27, .iconst 1, 28, 0, 0, 0, 0), (28, .goto 4, 31, 32, 0, 0, 0), (31, .iconst 0, 32, 0, 0, 0, 0), (32, .ireturn, 33, 1, 0, 0, 0)]
def zc_X7_wouldLeak_ : List zRow := [(0, .aload_n 0, 1, 0, 0, 0, 0), (1, .iconst 0, 2, 0, 0, 0, 0), (2, .putfield 70, 5, 0, 43, 0, 0), (5, .iload_n 1, 6, 0, 0, 0, 0), (6, .iconst 1, 7, 0, 0, 0, 0), (7, .bipush 100, 9, 0, 0, 0, 0), (9, .invokestatic 117, 12, 0, 112, 3, 0), (12, .ifCond .ne 9, 15, 21, 0, 0, 0), (15, .aload_n 0, 16, 0, 0, 0, 0), (16, .iconst 1, 17, 0, 0, 0, 0), (17, .invokevirtual 185, 20, 0, 111, 1, 7), (20, .ireturn, 21, 0, 0, 0, 0), (21, .aload_n 0, 22, 0, 0, 0, 0), (22, .iload_n 1, 23, 0, 0, 0, 0), (23, .invokevirtual 289, 26, 0, 183, 1, 7), (26, .ireturn, 27, 0, 0, 0, 0)]
def zc_X7_isSoundNow : List zRow := [(0, .iconst 0, 1, 0, 0, 0, 0), (1, .istore_n 1, 2, 0, 0, 0, 0), (2, .iload_n 1, 3, 0, 0, 0, 0), (3, .aload_n 0, 4, 0, 0, 0, 0), (4, .getfield 16, 7, 3, 46, 0, 0), (7, .arraylength, 8, 0, 0, 0, 0), (8, .if_icmp .ge 55, 11, 63, 0, 0, 0), (11, .aload_n 0, 12, 0, 0, 0, 0), (12, .getfield 16, 15, 3, 46, 0, 0), (15, .iload_n 1, 16, 0, 0, 0, 0), (16, .iaload, 17, 0, 0, 0, 0), (17, .invokestatic 73, 20, 0, 114, 1, 0), (20, .iconst 2, 21, 0, 0, 0, 0), (21, .irem, 22, 0, 0, 0, 0), (22, .ifCond .ne 5, 25, 27, 0, 0, 0), (25, .iconst 0, 26, 0, 0, 0, 0), (26, .ireturn, 27, 1, 0, 0, 0), (27, .iconst 0, 28, 0, 0, 0, 0), (28, .istore_n 2, 29, 0, 0, 0, 0), (29, .iload_n 2, 30, 0, 0, 0, 0), (30, .iload_n 1, 31, 0, 0, 0, 0), (31, .if_icmp .ge 26, 34, 57, 0, 0, 0), (34, .aload_n 0, 35, 0, 0, 0, 0), (35, .getfield 16, 38, 3, 46, 0, 0), (38, .iload_n 1, 39, 0, 0, 0, 0), (39, .iaload, 40, 0, 0, 0, 0), (40, .aload_n 0, 41, 0, 0, 0, 0), (41, .getfield 16, 44, 3, 46, 0, 0), (44, .iload_n 2, 45, 0, 0, 0, 0), (45, .iaload, 46, 0, 0, 0, 0), (46, .if_icmp .ne 5, 49, 51, 0, 0, 0), (49, .iconst 0, 50, 0, 0, 0, 0), (50, .ireturn, 51, 1, 0, 0, 0), (51, .iinc 2 1, 54, 0, 0, 0, 0), (54, .goto (-25), 57, 29, 0, 0, 0), (57, .iinc 1 1, 60, 0, 0, 0, 0), (60, .goto (-58), 63, 2, 0, 0, 0), (63, .iconst 0, 64, 0, 0, 0, 0), (64, .istore_n 1, 65, 0, 0, 0, 0), (65, .iload_n 1, 66, 0, 0, 0, 0), (66, .aload_n 0, 67, 0, 0, 0, 0), (67, .getfield 56, 70, 23, 66, 0, 0), (70, .invokeinterface 96 1, 75, 0, 243, 0, 10), (75, .if_icmp .ge 163, 78, 238, 0, 0, 0), (78, .aload_n 0, 79, 0, 0, 0, 0), (79, .getfield 56, 82, 23, 66, 0, 0), (82, .iload_n 1, 83, 0, 0, 0, 0), (83, .invokeinterface 102 2, 88, 0, 239, 1, 10), (88, .checkcast 106, 91, 100, 0, 0, 0), (91, .astore_n 2, 92, 0, 0, 0, 0), (92, .iconst 1, 93, 0, 0, 0, 0), (93, .istore_n 3, 94, 0, 0, 0, 0), (94, .iload_n 1, 95, 0, 0, 0, 0), (95, .iconst 1, 96, 0, 0, 0, 0), (96, .iadd, 97, 0, 0, 0, 0), (97, .istore 4, 99, 0, 0, 0, 0), (99, .iload 4, 101, 0, 0, 0, 0), (101, .aload_n 0, 102, 0, 0, 0, 0), (102, .getfield 56, 105, 23, 66, 0, 0), (105, .invokeinterface 96 1, 110, 0, 243, 0, 10), (110, .if_icmp .ge 83, 113, 193, 0, 0, 0), (113, .iload_n 3, 114, 0, 0, 0, 0), (114, .aload_n 0, 115, 0, 0, 0, 0), (115, .getfield 56, 118, 23, 66, 0, 0), (118, .iload 4, 120, 0, 0, 0, 0), (120, .invokeinterface 102 2, 125, 0, 239, 1, 10), (125, .checkcast 106, 128, 100, 0, 0, 0), (128, .iconst 0, 129, 0, 0, 0, 0), (129, .iaload, 130, 0, 0, 0, 0), (130, .aload_n 2, 131, 0, 0, 0, 0), (131, .iconst 0, 132, 0, 0, 0, 0), (132, .iaload, 133, 0, 0, 0, 0), (133, .if_icmp .ne 47, 136, 180, 0, 0, 0), (136, .aload_n 0, 137, 0, 0, 0, 0), (137, .getfield 56, 140, 23, 66, 0, 0), (140, .iload 4, 142, 0, 0, 0, 0), (142, .invokeinterface 102 2, 147, 0, 239, 1, 10), (147, .checkcast 106, 150, 100, 0, 0, 0), (150, .iconst 1, 151, 0, 0, 0, 0), (151, .iaload, 152, 0, 0, 0, 0), (152, .aload_n 2, 153, 0, 0, 0, 0), (153, .iconst 1, 154, 0, 0, 0, 0), (154, .iaload, 155, 0, 0, 0, 0), (155, .if_icmp .ne 25, 158, 180, 0, 0, 0), (158, .aload_n 0, 159, 0, 0, 0, 0), (159, .getfield 56, 162, 23, 66, 0, 0), (162, .iload 4, 164, 0, 0, 0, 0), (164, .invokeinterface 102 2, 169, 0, 239, 1, 10), (169, .checkcast 106, 172, 100, 0, 0, 0), (172, .iconst 2, 173, 0, 0, 0, 0), (173, .iaload, 174, 0, 0, 0, 0), (174, .aload_n 2, 175, 0, 0, 0, 0), (175, .iconst 2, 176, 0, 0, 0, 0), (176, .iaload, 177, 0, 0, 0, 0), (177, .if_icmp .eq 7, 180, 184, 0, 0, 0), (180, .iconst 1, 181, 0, 0, 0, 0), (181, .goto 4, 184, 185, 0, 0, 0), (184, .iconst 0, 185, 0, 0, 0, 0), (185, .iand, 186, 0, 0, 0, 0), (186, .istore_n 3, 187, 0, 0, 0, 0), (187, .iinc 4 1, 190, 0, 0, 0, 0), (190, .goto (-91), 193, 99, 0, 0, 0), (193, .iload_n 3, 194, 0, 0, 0, 0), (194, .ifCond .eq 38, 197, 232, 0, 0, 0), (197, .aload_n 0, 198, 0, 0, 0, 0), (198, .getfield 31, 201, 16, 59, 0, 0), (201, .aload_n 2, 202, 0, 0, 0, 0), (202, .iconst 0, 203, 0, 0, 0, 0), (203, .iaload, 204, 0, 0, 0, 0), (204, .aaload, 205, 0, 0, 0, 0), (205, .aload_n 2, 206, 0, 0, 0, 0), (206, .iconst 1, 207, 0, 0, 0, 0), (207, .iaload, 208, 0, 0, 0, 0), (208, .iaload, 209, 0, 0, 0, 0), (209, .aload_n 2, 210, 0, 0, 0, 0), (210, .iconst 2, 211, 0, 0, 0, 0), (211, .iaload, 212, 0, 0, 0, 0), (212, .invokestatic 77, 215, 0, 113, 2, 0), (215, .aload_n 2, 216, 0, 0, 0, 0), (216, .iconst 3, 217, 0, 0, 0, 0), (217, .iaload, 218, 0, 0, 0, 0), (218, .iconst 1, 219, 0, 0, 0, 0), (219, .if_icmp .ne 7, 222, 226, 0, 0, 0), (222, .iconst 1, 223, 0, 0, 0, 0), (223, .goto 4, 226, 227, 0, 0, 0), (226, .iconst 0, 227, 0, 0, 0, 0), (227, .if_icmp .eq 5, 230, 232, 0, 0, 0), (230, .iconst 0, 231, 0, 0, 0, 0), (231, .ireturn, 232, 1, 0, 0, 0), (232, .iinc 1 1, 235, 0, 0, 0, 0), (235, .goto (-170), 238, 65, 0, 0, 0), (238, .iconst 0, 239, 0, 0, 0, 0), (239, .istore_n 1, 240, 0, 0, 0, 0), (240, .iload_n 1, 241, 0, 0, 0, 0), (241, .aload_n 0, 242, 0, 0, 0, 0), (242, .getfield 40, 245, 19, 62, 0, 0), (245, .arraylength, 246, 0, 0, 0, 0), (246, .if_icmp .ge 39, 249, 285, 0, 0, 0), (249, .iconst 0, 250, 0, 0, 0, 0), (250, .istore_n 2, 251, 0, 0, 0, 0), (251, .iload_n 2, 252, 0, 0, 0, 0), (252, .iload_n 1, 253, 0, 0, 0, 0), (253, .if_icmp .ge 26, 256, 279, 0, 0, 0), (256, .aload_n 0, 257, 0, 0, 0, 0), (257, .getfield 40, 260, 19, 62, 0, 0), (260, .iload_n 1, 261, 0, 0, 0, 0), (261, .iaload, 262, 0, 0, 0, 0), (262, .aload_n 0, 263, 0, 0, 0, 0), (263, .getfield 40, 266, 19, 62, 0, 0), (266, .iload_n 2, 267, 0, 0, 0, 0), (267, .iaload, 268, 0, 0, 0, 0), (268, .if_icmp .ne 5, 271, 273, 0, 0, 0), (271, .iconst 0, 272, 0, 0, 0, 0), (272, .ireturn, 273, 1, 0, 0, 0), (273, .iinc 2 1, 276, 0, 0, 0, 0), (276, .goto (-25), 279, 251, 0, 0, 0), (279, .iinc 1 1, 282, 0, 0, 0, 0), (282, .goto (-42), 285, 240, 0, 0, 0), (285, .aload_n 0, 286, 0, 0, 0, 0), (286, .getfield 34, 289, 17, 60, 0, 0), (289, .astore_n 1, 290, 0, 0, 0, 0), (290, .aload_n 1, 291, 0, 0, 0, 0), (291, .arraylength, 292, 0, 0, 0, 0), (292, .istore_n 2, 293, 0, 0, 0, 0), (293, .iconst 0, 294, 0, 0, 0, 0), (294, .istore_n 3, 295, 0, 0, 0, 0), (295, .iload_n 3, 296, 0, 0, 0, 0), (296, .iload_n 2, 297, 0, 0, 0, 0), (297, .if_icmp .ge 21, 300, 318, 0, 0, 0), (300, .aload_n 1, 301, 0, 0, 0, 0), (301, .iload_n 3, 302, 0, 0, 0, 0), (302, .iaload, 303, 0, 0, 0, 0), (303, .istore 4, 305, 0, 0, 0, 0), (305, .iload 4, 307, 0, 0, 0, 0), (307, .ifCond .ge 5, 310, 312, 0, 0, 0), (310, .iconst 0, 311, 0, 0, 0, 0), (311, .ireturn, 312, 1, 0, 0, 0), (312, .iinc 3 1, 315, 0, 0, 0, 0), (315, .goto (-20), 318, 295, 0, 0, 0), (318, .aload_n 0, 319, 0, 0, 0, 0), (319, .getfield 63, 322, 25, 68, 0, 0), (322, .invokeinterface 96 1, 327, 0, 243, 0, 10), (327, .bipush 40, 329, 0, 0, 0, 0), (329, .if_icmp .gt 28, 332, 357, 0, 0, 0), (332, .aload_n 0, 333, 0, 0, 0, 0), (333, .getfield 63, 336, 25, 68, 0, 0), (336, .invokeinterface 96 1, 341, 0, 243, 0, 10), (341, .aload_n 0, 342, 0, 0, 0, 0), (342, .getfield 127, 345, 14, 57, 0, 0), (345, .aload_n 0, 346, 0, 0, 0, 0), (346, .getfield 130, 349, 15, 58, 0, 0), (349, .iadd, 350, 0, 0, 0, 0), (350, .if_icmp .gt 7, 353, 357, 0, 0, 0), (353, .iconst 1, 354, 0, 0, 0, 0), (354, .goto 4, 357, 358, 0, 0, 0), (357, .iconst 0, 358, 0, 0, 0, 0), (358, .ireturn, 359, 1, 0, 0, 0)]
def zc_X7_isSound : List zRow := [(0, .aload_n 0, 1, 0, 0, 0, 0), (1, .iconst 0, 2, 0, 0, 0, 0), (2, .putfield 70, 5, 0, 43, 0, 0), (5, .aload_n 0, 6, 0, 0, 0, 0), (6, .invokevirtual 292, 9, 0, 186, 0, 7), (9, .ireturn, 10, 1, 0, 0, 0)]
def zc_X7_digest : List zRow := [(0, .aload_n 0, 1, 0, 0, 0, 0), (1, .iconst 0, 2, 0, 0, 0, 0), (2, .putfield 70, 5, 0, 43, 0, 0), (5, .ldc2_w 296, 8, 0, 58281, 0, 0), (8, .lstore_n 1, 9, 0, 0, 0, 0), (9, .iconst 0, 10, 0, 0, 0, 0), (10, .istore_n 3, 11, 0, 0, 0, 0), (11, .iload_n 3, 12, 0, 0, 0, 0), (12, .bipush 17, 14, 0, 0, 0, 0), (14, .if_icmp .gt 22, 17, 36, 0, 0, 0), (17, .lload_n 1, 18, 0, 0, 0, 0), (18, .ldc2_w 298, 21, 0, 31, 0, 0), (21, .lmul, 22, 0, 0, 0, 0), (22, .aload_n 0, 23, 0, 0, 0, 0), (23, .iload_n 3, 24, 0, 0, 0, 0), (24, .invokevirtual 246, 27, 0, 171, 1, 7), (27, .i2l, 28, 0, 0, 0, 0), (28, .ladd, 29, 0, 0, 0, 0), (29, .lstore_n 1, 30, 0, 0, 0, 0), (30, .iinc 3 1, 33, 0, 0, 0, 0), (33, .goto (-22), 36, 11, 0, 0, 0), (36, .aload_n 0, 37, 0, 0, 0, 0), (37, .getfield 16, 40, 3, 46, 0, 0), (40, .astore_n 3, 41, 0, 0, 0, 0), (41, .aload_n 3, 42, 0, 0, 0, 0), (42, .arraylength, 43, 0, 0, 0, 0), (43, .istore 4, 45, 0, 0, 0, 0), (45, .iconst 0, 46, 0, 0, 0, 0), (46, .istore 5, 48, 0, 0, 0, 0), (48, .iload 5, 50, 0, 0, 0, 0), (50, .iload 4, 52, 0, 0, 0, 0), (52, .if_icmp .ge 25, 55, 77, 0, 0, 0), (55, .aload_n 3, 56, 0, 0, 0, 0), (56, .iload 5, 58, 0, 0, 0, 0), (58, .iaload, 59, 0, 0, 0, 0), (59, .istore 6, 61, 0, 0, 0, 0), (61, .lload_n 1, 62, 0, 0, 0, 0), (62, .ldc2_w 298, 65, 0, 31, 0, 0), (65, .lmul, 66, 0, 0, 0, 0), (66, .iload 6, 68, 0, 0, 0, 0), (68, .i2l, 69, 0, 0, 0, 0), (69, .ladd, 70, 0, 0, 0, 0), (70, .lstore_n 1, 71, 0, 0, 0, 0), (71, .iinc 5 1, 74, 0, 0, 0, 0), (74, .goto (-26), 77, 48, 0, 0, 0), (77, .lload_n 1, 78, 0, 0, 0, 0), (78, .ldc2_w 298, 81, 0, 31, 0, 0), (81, .lmul, 82, 0, 0, 0, 0), (82, .aload_n 0, 83, 0, 0, 0, 0), (83, .iconst 2, 84, 0, 0, 0, 0), (84, .invokevirtual 207, 87, 0, 156, 1, 7), (87, .i2l, 88, 0, 0, 0, 0), (88, .ladd, 89, 0, 0, 0, 0), (89, .lstore_n 1, 90, 0, 0, 0, 0), (90, .lload_n 1, 91, 0, 0, 0, 0), (91, .ldc2_w 298, 94, 0, 31, 0, 0), (94, .lmul, 95, 0, 0, 0, 0), (95, .aload_n 0, 96, 0, 0, 0, 0), (96, .iconst 3, 97, 0, 0, 0, 0), (97, .invokevirtual 207, 100, 0, 156, 1, 7), (100, .i2l, 101, 0, 0, 0, 0), (101, .ladd, 102, 0, 0, 0, 0), (102, .lstore_n 1, 103, 0, 0, 0, 0), (103, .iconst 0, 104, 0, 0, 0, 0), (104, .istore_n 3, 105, 0, 0, 0, 0), (105, .iload_n 3, 106, 0, 0, 0, 0), (106, .iconst 2, 107, 0, 0, 0, 0), (107, .if_icmp .ge 119, 110, 226, 0, 0, 0), (110, .lload_n 1, 111, 0, 0, 0, 0), (111, .ldc2_w 298, 114, 0, 31, 0, 0), (114, .lmul, 115, 0, 0, 0, 0), (115, .aload_n 0, 116, 0, 0, 0, 0), (116, .iload_n 3, 117, 0, 0, 0, 0), (117, .iconst 0, 118, 0, 0, 0, 0), (118, .invokevirtual 242, 121, 0, 169, 2, 7), (121, .i2l, 122, 0, 0, 0, 0), (122, .ladd, 123, 0, 0, 0, 0), (123, .lstore_n 1, 124, 0, 0, 0, 0), (124, .lload_n 1, 125, 0, 0, 0, 0), (125, .ldc2_w 298, 128, 0, 31, 0, 0), (128, .lmul, 129, 0, 0, 0, 0), (129, .aload_n 0, 130, 0, 0, 0, 0), (130, .iload_n 3, 131, 0, 0, 0, 0), (131, .iconst 1, 132, 0, 0, 0, 0), (132, .invokevirtual 242, 135, 0, 169, 2, 7), (135, .i2l, 136, 0, 0, 0, 0), (136, .ladd, 137, 0, 0, 0, 0), (137, .lstore_n 1, 138, 0, 0, 0, 0), (138, .lload_n 1, 139, 0, 0, 0, 0), (139, .ldc2_w 298, 142, 0, 31, 0, 0), (142, .lmul, 143, 0, 0, 0, 0), (143, .aload_n 0, 144, 0, 0, 0, 0), (144, .iload_n 3, 145, 0, 0, 0, 0), (145, .invokevirtual 274, 148, 0, 179, 1, 7), (148, .i2l, 149, 0, 0, 0, 0), (149, .ladd, 150, 0, 0, 0, 0), (150, .lstore_n 1, 151, 0, 0, 0, 0), (151, .lload_n 1, 152, 0, 0, 0, 0), (152, .ldc2_w 298, 155, 0, 31, 0, 0), (155, .lmul, 156, 0, 0, 0, 0), (156, .ldc2_w 249, 159, 1, 4634204016564240384, 0, 0), (159, .aload_n 0, 160, 0, 0, 0, 0), (160, .iload_n 3, 161, 0, 0, 0, 0), (161, .invokevirtual 251, 164, 0, 173, 1, 7), (164, .dmul, 165, 0, 0, 0, 0), (165, .d2l, 166, 0, 0, 0, 0), (166, .ladd, 167, 0, 0, 0, 0), (167, .lstore_n 1, 168, 0, 0, 0, 0), (168, .iconst 0, 169, 0, 0, 0, 0), (169, .istore 4, 171, 0, 0, 0, 0), (171, .iload 4, 173, 0, 0, 0, 0), (173, .bipush 10, 175, 0, 0, 0, 0), (175, .if_icmp .ge 45, 178, 220, 0, 0, 0), (178, .iconst 0, 179, 0, 0, 0, 0), (179, .istore 5, 181, 0, 0, 0, 0), (181, .iload 5, 183, 0, 0, 0, 0), (183, .iconst 4, 184, 0, 0, 0, 0), (184, .if_icmp .gt 30, 187, 214, 0, 0, 0), (187, .lload_n 1, 188, 0, 0, 0, 0), (188, .ldc2_w 298, 191, 0, 31, 0, 0), (191, .lmul, 192, 0, 0, 0, 0), (192, .aload_n 0, 193, 0, 0, 0, 0), (193, .iload_n 3, 194, 0, 0, 0, 0), (194, .bipush 10, 196, 0, 0, 0, 0), (196, .imul, 197, 0, 0, 0, 0), (197, .iload 4, 199, 0, 0, 0, 0), (199, .iadd, 200, 0, 0, 0, 0), (200, .iload 5, 202, 0, 0, 0, 0), (202, .invokevirtual 224, 205, 0, 163, 2, 7), (205, .i2l, 206, 0, 0, 0, 0), (206, .ladd, 207, 0, 0, 0, 0), (207, .lstore_n 1, 208, 0, 0, 0, 0), (208, .iinc 5 1, 211, 0, 0, 0, 0), (211, .goto (-30), 214, 181, 0, 0, 0), (214, .iinc 4 1, 217, 0, 0, 0, 0), (217, .goto (-46), 220, 171, 0, 0, 0), (220, .iinc 3 1, 223, 0, 0, 0, 0), (223, .goto (-118), 226, 105, 0, 0, 0), (226, .iconst 0, 227, 0, 0, 0, 0), (227, .istore_n 3, 228, 0, 0, 0, 0), (228, .iload_n 3, 229, 0, 0, 0, 0), (229, .sipush 128, 232, 0, 0, 0, 0), (232, .if_icmp .ge 50, 235, 282, 0, 0, 0), (235, .lload_n 1, 236, 0, 0, 0, 0), (236, .ldc2_w 298, 239, 0, 31, 0, 0), (239, .lmul, 240, 0, 0, 0, 0), (240, .aload_n 0, 241, 0, 0, 0, 0), (241, .iload_n 3, 242, 0, 0, 0, 0), (242, .iconst 0, 243, 0, 0, 0, 0), (243, .invokevirtual 214, 246, 0, 159, 2, 7), (246, .i2l, 247, 0, 0, 0, 0), (247, .ladd, 248, 0, 0, 0, 0), (248, .lstore_n 1, 249, 0, 0, 0, 0), (249, .lload_n 1, 250, 0, 0, 0, 0), (250, .ldc2_w 298, 253, 0, 31, 0, 0), (253, .lmul, 254, 0, 0, 0, 0), (254, .aload_n 0, 255, 0, 0, 0, 0), (255, .iload_n 3, 256, 0, 0, 0, 0), (256, .iconst 2, 257, 0, 0, 0, 0), (257, .invokevirtual 214, 260, 0, 159, 2, 7), (260, .i2l, 261, 0, 0, 0, 0), (261, .ladd, 262, 0, 0, 0, 0), (262, .lstore_n 1, 263, 0, 0, 0, 0), (263, .lload_n 1, 264, 0, 0, 0, 0), (264, .ldc2_w 298, 267, 0, 31, 0, 0), (267, .lmul, 268, 0, 0, 0, 0), (268, .aload_n 0, 269, 0, 0, 0, 0), (269, .iload_n 3, 270, 0, 0, 0, 0), (270, .invokevirtual 271, 273, 0, 177, 1, 7), (273, .i2l, 274, 0, 0, 0, 0), (274, .ladd, 275, 0, 0, 0, 0), (275, .lstore_n 1, 276, 0, 0, 0, 0), (276, .iinc 3 1, 279, 0, 0, 0, 0), (279, .goto (-51), 282, 228, 0, 0, 0), (282, .iconst 0, 283, 0, 0, 0, 0), (283, .istore_n 3, 284, 0, 0, 0, 0), (284, .iload_n 3, 285, 0, 0, 0, 0), (285, .aload_n 0, 286, 0, 0, 0, 0), (286, .getfield 63, 289, 25, 68, 0, 0), (289, .invokeinterface 96 1, 294, 0, 243, 0, 10), (294, .if_icmp .ge 48, 297, 342, 0, 0, 0), (297, .iconst 0, 298, 0, 0, 0, 0), (298, .istore 4, 300, 0, 0, 0, 0), (300, .iload 4, 302, 0, 0, 0, 0), (302, .iconst 2, 303, 0, 0, 0, 0), (303, .if_icmp .gt 33, 306, 336, 0, 0, 0), (306, .lload_n 1, 307, 0, 0, 0, 0), (307, .ldc2_w 298, 310, 0, 31, 0, 0), (310, .lmul, 311, 0, 0, 0, 0), (311, .aload_n 0, 312, 0, 0, 0, 0), (312, .getfield 63, 315, 25, 68, 0, 0), (315, .iload_n 3, 316, 0, 0, 0, 0), (316, .invokeinterface 102 2, 321, 0, 239, 1, 10), (321, .checkcast 106, 324, 100, 0, 0, 0), (324, .iload 4, 326, 0, 0, 0, 0), (326, .iaload, 327, 0, 0, 0, 0), (327, .i2l, 328, 0, 0, 0, 0), (328, .ladd, 329, 0, 0, 0, 0), (329, .lstore_n 1, 330, 0, 0, 0, 0), (330, .iinc 4 1, 333, 0, 0, 0, 0), (333, .goto (-33), 336, 300, 0, 0, 0), (336, .iinc 3 1, 339, 0, 0, 0, 0), (339, .goto (-55), 342, 284, 0, 0, 0), (342, .lload_n 1, 343, 0, 0, 0, 0), (343, .ldc2_w 298, 346, 0, 31, 0, 0), (346, .lmul, 347, 0, 0, 0, 0), (347, .aload_n 0, 348, 0, 0, 0, 0), (348, .bipush 20, 350, 0, 0, 0, 0), (350, .invokevirtual 289, 353, 0, 183, 1, 7), (353, .i2l, 354, 0, 0, 0, 0), (354, .ladd, 355, 0, 0, 0, 0), (355, .lstore_n 1, 356, 0, 0, 0, 0), (356, .lload_n 1, 357, 0, 0, 0, 0), (357, .ldc2_w 298, 360, 0, 31, 0, 0), (360, .lmul, 361, 0, 0, 0, 0), (361, .aload_n 0, 362, 0, 0, 0, 0), (362, .invokevirtual 292, 365, 0, 186, 0, 7), (365, .ifCond .eq 7, 368, 372, 0, 0, 0), (368, .iconst 1, 369, 0, 0, 0, 0), (369, .goto 4, 372, 373, 0, 0, 0), (372, .iconst 0, 373, 0, 0, 0, 0), (373, .i2l, 374, 0, 0, 0, 0), (374, .ladd, 375, 0, 0, 0, 0), (375, .lreturn, 376, 0, 0, 0, 0)]
def zc_L_code : List zRow := [(0, .aload_n 3, 1, 0, 0, 0, 0), (1, .aload_n 0, 2, 0, 0, 0, 0), (2, .iload_n 1, 3, 0, 0, 0, 0), (3, .iload_n 2, 4, 0, 0, 0, 0), (4, .invokevirtual 7, 7, 0, 53, 2, 5), (7, .i2l, 8, 0, 0, 0, 0), (8, .putfield 13, 11, 0, 40, 0, 0), (11, .goto 7, 14, 18, 0, 0, 0), (14, .astore 4, 16, 0, 0, 0, 0), (16, .iconst 1, 17, 0, 0, 0, 0), (17, .ireturn, 18, 0, 0, 0, 0), (18, .iconst 0, 19, 0, 0, 0, 0), (19, .ireturn, 20, 0, 0, 0, 0)]
def zc_L_write : List zRow := [(0, .aload_n 3, 1, 0, 0, 0, 0), (1, .aload_n 0, 2, 0, 0, 0, 0), (2, .iload_n 1, 3, 0, 0, 0, 0), (3, .iload_n 2, 4, 0, 0, 0, 0), (4, .invokevirtual 21, 7, 0, 54, 2, 5), (7, .i2l, 8, 0, 0, 0, 0), (8, .putfield 13, 11, 0, 40, 0, 0), (11, .goto 15, 14, 26, 0, 0, 0), (14, .astore 4, 16, 0, 0, 0, 0), (16, .iconst 1, 17, 0, 0, 0, 0), (17, .ireturn, 18, 0, 0, 0, 0), (18, .astore 4, 20, 0, 0, 0, 0), (20, .iconst 2, 21, 0, 0, 0, 0), (21, .ireturn, 22, 0, 0, 0, 0), (22, .astore 4, 24, 0, 0, 0, 0), (24, .iconst 3, 25, 0, 0, 0, 0), (25, .ireturn, 26, 0, 0, 0, 0), (26, .iconst 0, 27, 0, 0, 0, 0), (27, .ireturn, 28, 0, 0, 0, 0)]
def zc_L_read : List zRow := [(0, .aload_n 2, 1, 0, 0, 0, 0), (1, .aload_n 0, 2, 0, 0, 0, 0), (2, .iload_n 1, 3, 0, 0, 0, 0), (3, .invokevirtual 28, 6, 0, 55, 1, 5), (6, .i2l, 7, 0, 0, 0, 0), (7, .putfield 13, 10, 0, 40, 0, 0), (10, .goto 9, 13, 19, 0, 0, 0), (13, .astore_n 3, 14, 0, 0, 0, 0), (14, .iconst 1, 15, 0, 0, 0, 0), (15, .ireturn, 16, 0, 0, 0, 0), (16, .astore_n 3, 17, 0, 0, 0, 0), (17, .iconst 2, 18, 0, 0, 0, 0), (18, .ireturn, 19, 0, 0, 0, 0), (19, .iconst 0, 20, 0, 0, 0, 0), (20, .ireturn, 21, 0, 0, 0, 0)]
def zc_L_ray : List zRow := [(0, .aload_n 3, 1, 0, 0, 0, 0), (1, .aload_n 0, 2, 0, 0, 0, 0), (2, .iload_n 1, 3, 0, 0, 0, 0), (3, .iload_n 2, 4, 0, 0, 0, 0), (4, .invokevirtual 32, 7, 0, 56, 2, 5), (7, .i2l, 8, 0, 0, 0, 0), (8, .putfield 13, 11, 0, 40, 0, 0), (11, .goto 11, 14, 22, 0, 0, 0), (14, .astore 4, 16, 0, 0, 0, 0), (16, .iconst 1, 17, 0, 0, 0, 0), (17, .ireturn, 18, 0, 0, 0, 0), (18, .astore 4, 20, 0, 0, 0, 0), (20, .iconst 2, 21, 0, 0, 0, 0), (21, .ireturn, 22, 0, 0, 0, 0), (22, .iconst 0, 23, 0, 0, 0, 0), (23, .ireturn, 24, 0, 0, 0, 0)]
def zc_L_stick : List zRow := [(0, .aload 4, 2, 0, 0, 0, 0), (2, .aload_n 0, 3, 0, 0, 0, 0), (3, .iload_n 1, 4, 0, 0, 0, 0), (4, .iload_n 2, 5, 0, 0, 0, 0), (5, .iload_n 3, 6, 0, 0, 0, 0), (6, .invokevirtual 35, 9, 0, 57, 3, 5), (9, .i2l, 10, 0, 0, 0, 0), (10, .putfield 13, 13, 0, 40, 0, 0), (13, .goto 15, 16, 28, 0, 0, 0), (16, .astore 5, 18, 0, 0, 0, 0), (18, .iconst 1, 19, 0, 0, 0, 0), (19, .ireturn, 20, 0, 0, 0, 0), (20, .astore 5, 22, 0, 0, 0, 0), (22, .iconst 2, 23, 0, 0, 0, 0), (23, .ireturn, 24, 0, 0, 0, 0), (24, .astore 5, 26, 0, 0, 0, 0), (26, .iconst 3, 27, 0, 0, 0, 0), (27, .ireturn, 28, 0, 0, 0, 0), (28, .iconst 0, 29, 0, 0, 0, 0), (29, .ireturn, 30, 0, 0, 0, 0)]
def zc_L_weak : List zRow := [(0, .aload 4, 2, 0, 0, 0, 0), (2, .aload_n 0, 3, 0, 0, 0, 0), (3, .iload_n 1, 4, 0, 0, 0, 0), (4, .iload_n 2, 5, 0, 0, 0, 0), (5, .iload_n 3, 6, 0, 0, 0, 0), (6, .invokevirtual 39, 9, 0, 58, 3, 5), (9, .i2l, 10, 0, 0, 0, 0), (10, .putfield 13, 13, 0, 40, 0, 0), (13, .goto 15, 16, 28, 0, 0, 0), (16, .astore 5, 18, 0, 0, 0, 0), (18, .iconst 1, 19, 0, 0, 0, 0), (19, .ireturn, 20, 0, 0, 0, 0), (20, .astore 5, 22, 0, 0, 0, 0), (22, .iconst 2, 23, 0, 0, 0, 0), (23, .ireturn, 24, 0, 0, 0, 0), (24, .astore 5, 26, 0, 0, 0, 0), (26, .iconst 3, 27, 0, 0, 0, 0), (27, .ireturn, 28, 0, 0, 0, 0), (28, .iconst 0, 29, 0, 0, 0, 0), (29, .ireturn, 30, 0, 0, 0, 0)]
def zc_L_hammer : List zRow := [(0, .aload 4, 2, 0, 0, 0, 0), (2, .aload_n 0, 3, 0, 0, 0, 0), (3, .iload_n 1, 4, 0, 0, 0, 0), (4, .iload_n 2, 5, 0, 0, 0, 0), (5, .iload_n 3, 6, 0, 0, 0, 0), (6, .invokevirtual 43, 9, 0, 59, 3, 5), (9, .i2l, 10, 0, 0, 0, 0), (10, .putfield 13, 13, 0, 40, 0, 0), (13, .goto 11, 16, 24, 0, 0, 0), (16, .astore 5, 18, 0, 0, 0, 0), (18, .iconst 1, 19, 0, 0, 0, 0), (19, .ireturn, 20, 0, 0, 0, 0), (20, .astore 5, 22, 0, 0, 0, 0), (22, .iconst 2, 23, 0, 0, 0, 0), (23, .ireturn, 24, 0, 0, 0, 0), (24, .iconst 0, 25, 0, 0, 0, 0), (25, .ireturn, 26, 0, 0, 0, 0)]
def zc_L_run : List zRow := [(0, .aload 6, 2, 0, 0, 0, 0), (2, .aload_n 0, 3, 0, 0, 0, 0), (3, .iload_n 1, 4, 0, 0, 0, 0), (4, .iload_n 2, 5, 0, 0, 0, 0), (5, .iload_n 3, 6, 0, 0, 0, 0), (6, .iload 4, 8, 0, 0, 0, 0), (8, .iload 5, 10, 0, 0, 0, 0), (10, .invokevirtual 46, 13, 0, 60, 5, 5), (13, .i2l, 14, 0, 0, 0, 0), (14, .putfield 13, 17, 0, 40, 0, 0), (17, .goto 7, 20, 24, 0, 0, 0), (20, .astore 7, 22, 0, 0, 0, 0), (22, .iconst 1, 23, 0, 0, 0, 0), (23, .ireturn, 24, 0, 0, 0, 0), (24, .iconst 0, 25, 0, 0, 0, 0), (25, .ireturn, 26, 0, 0, 0, 0)]
def zc_L_spare : List zRow := [(0, .aload_n 3, 1, 0, 0, 0, 0), (1, .aload_n 0, 2, 0, 0, 0, 0), (2, .iload_n 1, 3, 0, 0, 0, 0), (3, .iload_n 2, 4, 0, 0, 0, 0), (4, .invokevirtual 50, 7, 0, 61, 2, 5), (7, .i2l, 8, 0, 0, 0, 0), (8, .putfield 13, 11, 0, 40, 0, 0), (11, .goto 11, 14, 22, 0, 0, 0), (14, .astore 4, 16, 0, 0, 0, 0), (16, .iconst 1, 17, 0, 0, 0, 0), (17, .ireturn, 18, 0, 0, 0, 0), (18, .astore 4, 20, 0, 0, 0, 0), (20, .iconst 2, 21, 0, 0, 0, 0), (21, .ireturn, 22, 0, 0, 0, 0), (22, .iconst 0, 23, 0, 0, 0, 0), (23, .ireturn, 24, 0, 0, 0, 0)]
def zc_L_retire : List zRow := [(0, .aload_n 3, 1, 0, 0, 0, 0), (1, .aload_n 0, 2, 0, 0, 0, 0), (2, .iload_n 1, 3, 0, 0, 0, 0), (3, .iload_n 2, 4, 0, 0, 0, 0), (4, .invokevirtual 53, 7, 0, 62, 2, 5), (7, .i2l, 8, 0, 0, 0, 0), (8, .putfield 13, 11, 0, 40, 0, 0), (11, .goto 7, 14, 18, 0, 0, 0), (14, .astore 4, 16, 0, 0, 0, 0), (16, .iconst 1, 17, 0, 0, 0, 0), (17, .ireturn, 18, 0, 0, 0, 0), (18, .iconst 0, 19, 0, 0, 0, 0), (19, .ireturn, 20, 0, 0, 0, 0)]
def zc_L_pass : List zRow := [(0, .aload_n 2, 1, 0, 0, 0, 0), (1, .aload_n 0, 2, 0, 0, 0, 0), (2, .iload_n 1, 3, 0, 0, 0, 0), (3, .invokevirtual 57, 6, 0, 63, 1, 5), (6, .i2l, 7, 0, 0, 0, 0), (7, .putfield 13, 10, 0, 40, 0, 0), (10, .goto 9, 13, 19, 0, 0, 0), (13, .astore_n 3, 14, 0, 0, 0, 0), (14, .iconst 1, 15, 0, 0, 0, 0), (15, .ireturn, 16, 0, 0, 0, 0), (16, .astore_n 3, 17, 0, 0, 0, 0), (17, .iconst 2, 18, 0, 0, 0, 0), (18, .ireturn, 19, 0, 0, 0, 0), (19, .iconst 0, 20, 0, 0, 0, 0), (20, .ireturn, 21, 0, 0, 0, 0)]
def zc_L_column : List zRow := [(0, .aload_n 2, 1, 0, 0, 0, 0), (1, .aload_n 0, 2, 0, 0, 0, 0), (2, .iload_n 1, 3, 0, 0, 0, 0), (3, .invokevirtual 60, 6, 0, 66, 1, 5), (6, .i2l, 7, 0, 0, 0, 0), (7, .putfield 13, 10, 0, 40, 0, 0), (10, .goto 6, 13, 16, 0, 0, 0), (13, .astore_n 3, 14, 0, 0, 0, 0), (14, .iconst 1, 15, 0, 0, 0, 0), (15, .ireturn, 16, 0, 0, 0, 0), (16, .iconst 0, 17, 0, 0, 0, 0), (17, .ireturn, 18, 0, 0, 0, 0)]
def zc_L_encode : List zRow := [(0, .aload_n 2, 1, 0, 0, 0, 0), (1, .aload_n 0, 2, 0, 0, 0, 0), (2, .iload_n 1, 3, 0, 0, 0, 0), (3, .invokevirtual 63, 6, 0, 67, 1, 5), (6, .i2l, 7, 0, 0, 0, 0), (7, .putfield 13, 10, 0, 40, 0, 0), (10, .goto 6, 13, 16, 0, 0, 0), (13, .astore_n 3, 14, 0, 0, 0, 0), (14, .iconst 1, 15, 0, 0, 0, 0), (15, .ireturn, 16, 0, 0, 0, 0), (16, .iconst 0, 17, 0, 0, 0, 0), (17, .ireturn, 18, 0, 0, 0, 0)]
def zc_L_decode : List zRow := [(0, .aload_n 3, 1, 0, 0, 0, 0), (1, .aload_n 0, 2, 0, 0, 0, 0), (2, .iload_n 1, 3, 0, 0, 0, 0), (3, .iload_n 2, 4, 0, 0, 0, 0), (4, .invokevirtual 66, 7, 0, 68, 2, 5), (7, .i2l, 8, 0, 0, 0, 0), (8, .putfield 13, 11, 0, 40, 0, 0), (11, .goto 7, 14, 18, 0, 0, 0), (14, .astore 4, 16, 0, 0, 0, 0), (16, .iconst 1, 17, 0, 0, 0, 0), (17, .ireturn, 18, 0, 0, 0, 0), (18, .iconst 0, 19, 0, 0, 0, 0), (19, .ireturn, 20, 0, 0, 0, 0)]
def zc_L_fooled : List zRow := [(0, .aload_n 2, 1, 0, 0, 0, 0), (1, .aload_n 0, 2, 0, 0, 0, 0), (2, .iload_n 1, 3, 0, 0, 0, 0), (3, .invokevirtual 69, 6, 0, 69, 1, 5), (6, .i2l, 7, 0, 0, 0, 0), (7, .putfield 13, 10, 0, 40, 0, 0), (10, .goto 6, 13, 16, 0, 0, 0), (13, .astore_n 3, 14, 0, 0, 0, 0), (14, .iconst 1, 15, 0, 0, 0, 0), (15, .ireturn, 16, 0, 0, 0, 0), (16, .iconst 0, 17, 0, 0, 0, 0), (17, .ireturn, 18, 0, 0, 0, 0)]
def zc_L_ofWord : List zRow := [(0, .aload_n 3, 1, 0, 0, 0, 0), (1, .aload_n 0, 2, 0, 0, 0, 0), (2, .iload_n 1, 3, 0, 0, 0, 0), (3, .iload_n 2, 4, 0, 0, 0, 0), (4, .invokevirtual 72, 7, 0, 70, 2, 5), (7, .i2l, 8, 0, 0, 0, 0), (8, .putfield 13, 11, 0, 40, 0, 0), (11, .goto 11, 14, 22, 0, 0, 0), (14, .astore 4, 16, 0, 0, 0, 0), (16, .iconst 1, 17, 0, 0, 0, 0), (17, .ireturn, 18, 0, 0, 0, 0), (18, .astore 4, 20, 0, 0, 0, 0), (20, .iconst 2, 21, 0, 0, 0, 0), (21, .ireturn, 22, 0, 0, 0, 0), (22, .iconst 0, 23, 0, 0, 0, 0), (23, .ireturn, 24, 0, 0, 0, 0)]
def zc_L_ofLine : List zRow := [(0, .aload 4, 2, 0, 0, 0, 0), (2, .aload_n 0, 3, 0, 0, 0, 0), (3, .iload_n 1, 4, 0, 0, 0, 0), (4, .iload_n 2, 5, 0, 0, 0, 0), (5, .iload_n 3, 6, 0, 0, 0, 0), (6, .invokevirtual 75, 9, 0, 71, 3, 5), (9, .i2l, 10, 0, 0, 0, 0), (10, .putfield 13, 13, 0, 40, 0, 0), (13, .goto 11, 16, 24, 0, 0, 0), (16, .astore 5, 18, 0, 0, 0, 0), (18, .iconst 1, 19, 0, 0, 0, 0), (19, .ireturn, 20, 0, 0, 0, 0), (20, .astore 5, 22, 0, 0, 0, 0), (22, .iconst 2, 23, 0, 0, 0, 0), (23, .ireturn, 24, 0, 0, 0, 0), (24, .iconst 0, 25, 0, 0, 0, 0), (25, .ireturn, 26, 0, 0, 0, 0)]
def zc_L_ofEntry : List zRow := [(0, .aload_n 3, 1, 0, 0, 0, 0), (1, .aload_n 0, 2, 0, 0, 0, 0), (2, .iload_n 1, 3, 0, 0, 0, 0), (3, .iload_n 2, 4, 0, 0, 0, 0), (4, .invokevirtual 78, 7, 0, 72, 2, 5), (7, .i2l, 8, 0, 0, 0, 0), (8, .putfield 13, 11, 0, 40, 0, 0), (11, .goto 11, 14, 22, 0, 0, 0), (14, .astore 4, 16, 0, 0, 0, 0), (16, .iconst 1, 17, 0, 0, 0, 0), (17, .ireturn, 18, 0, 0, 0, 0), (18, .astore 4, 20, 0, 0, 0, 0), (20, .iconst 2, 21, 0, 0, 0, 0), (21, .ireturn, 22, 0, 0, 0, 0), (22, .iconst 0, 23, 0, 0, 0, 0), (23, .ireturn, 24, 0, 0, 0, 0)]
def zc_L_blame : List zRow := [(0, .aload_n 3, 1, 0, 0, 0, 0), (1, .aload_n 0, 2, 0, 0, 0, 0), (2, .iload_n 1, 3, 0, 0, 0, 0), (3, .iload_n 2, 4, 0, 0, 0, 0), (4, .invokevirtual 81, 7, 0, 73, 2, 5), (7, .i2l, 8, 0, 0, 0, 0), (8, .putfield 13, 11, 0, 40, 0, 0), (11, .goto 7, 14, 18, 0, 0, 0), (14, .astore 4, 16, 0, 0, 0, 0), (16, .iconst 1, 17, 0, 0, 0, 0), (17, .ireturn, 18, 0, 0, 0, 0), (18, .iconst 0, 19, 0, 0, 0, 0), (19, .ireturn, 20, 0, 0, 0, 0)]
def zc_L_board : List zRow := [(0, .aload_n 2, 1, 0, 0, 0, 0), (1, .aload_n 0, 2, 0, 0, 0, 0), (2, .iload_n 1, 3, 0, 0, 0, 0), (3, .invokevirtual 84, 6, 0, 74, 1, 5), (6, .i2l, 7, 0, 0, 0, 0), (7, .putfield 13, 10, 0, 40, 0, 0), (10, .goto 6, 13, 16, 0, 0, 0), (13, .astore_n 3, 14, 0, 0, 0, 0), (14, .iconst 1, 15, 0, 0, 0, 0), (15, .ireturn, 16, 0, 0, 0, 0), (16, .iconst 0, 17, 0, 0, 0, 0), (17, .ireturn, 18, 0, 0, 0, 0)]
def zc_L_health : List zRow := [(0, .aload_n 2, 1, 0, 0, 0, 0), (1, .aload_n 0, 2, 0, 0, 0, 0), (2, .iload_n 1, 3, 0, 0, 0, 0), (3, .invokevirtual 87, 6, 0, 75, 1, 5), (6, .putfield 91, 9, 1, 41, 0, 0), (9, .goto 6, 12, 15, 0, 0, 0), (12, .astore_n 3, 13, 0, 0, 0, 0), (13, .iconst 1, 14, 0, 0, 0, 0), (14, .ireturn, 15, 0, 0, 0, 0), (15, .iconst 0, 16, 0, 0, 0, 0), (16, .ireturn, 17, 0, 0, 0, 0)]
def zc_L_tell : List zRow := [(0, .aload_n 3, 1, 0, 0, 0, 0), (1, .aload_n 0, 2, 0, 0, 0, 0), (2, .iload_n 1, 3, 0, 0, 0, 0), (3, .iload_n 2, 4, 0, 0, 0, 0), (4, .invokevirtual 95, 7, 0, 76, 2, 5), (7, .putfield 99, 10, 2, 42, 0, 0), (10, .goto 7, 13, 17, 0, 0, 0), (13, .astore 4, 15, 0, 0, 0, 0), (15, .iconst 1, 16, 0, 0, 0, 0), (16, .ireturn, 17, 0, 0, 0, 0), (17, .iconst 0, 18, 0, 0, 0, 0), (18, .ireturn, 19, 0, 0, 0, 0)]
def zc_L_wouldRead : List zRow := [(0, .aload_n 2, 1, 0, 0, 0, 0), (1, .aload_n 0, 2, 0, 0, 0, 0), (2, .iload_n 1, 3, 0, 0, 0, 0), (3, .invokevirtual 103, 6, 0, 77, 1, 5), (6, .i2l, 7, 0, 0, 0, 0), (7, .putfield 13, 10, 0, 40, 0, 0), (10, .goto 6, 13, 16, 0, 0, 0), (13, .astore_n 3, 14, 0, 0, 0, 0), (14, .iconst 1, 15, 0, 0, 0, 0), (15, .ireturn, 16, 0, 0, 0, 0), (16, .iconst 0, 17, 0, 0, 0, 0), (17, .ireturn, 18, 0, 0, 0, 0)]
def zc_L_wouldSpare : List zRow := [(0, .aload_n 2, 1, 0, 0, 0, 0), (1, .aload_n 0, 2, 0, 0, 0, 0), (2, .iload_n 1, 3, 0, 0, 0, 0), (3, .invokevirtual 106, 6, 0, 78, 1, 5), (6, .i2l, 7, 0, 0, 0, 0), (7, .putfield 13, 10, 0, 40, 0, 0), (10, .goto 6, 13, 16, 0, 0, 0), (13, .astore_n 3, 14, 0, 0, 0, 0), (14, .iconst 1, 15, 0, 0, 0, 0), (15, .ireturn, 16, 0, 0, 0, 0), (16, .iconst 0, 17, 0, 0, 0, 0), (17, .ireturn, 18, 0, 0, 0, 0)]
def zc_L_wouldLeak : List zRow := [(0, .aload_n 2, 1, 0, 0, 0, 0), (1, .aload_n 0, 2, 0, 0, 0, 0), (2, .iload_n 1, 3, 0, 0, 0, 0), (3, .invokevirtual 109, 6, 0, 79, 1, 5), (6, .i2l, 7, 0, 0, 0, 0), (7, .putfield 13, 10, 0, 40, 0, 0), (10, .goto 6, 13, 16, 0, 0, 0), (13, .astore_n 3, 14, 0, 0, 0, 0), (14, .iconst 1, 15, 0, 0, 0, 0), (15, .ireturn, 16, 0, 0, 0, 0), (16, .iconst 0, 17, 0, 0, 0, 0), (17, .ireturn, 18, 0, 0, 0, 0)]
def zc_L_law : List zRow := [(0, .new 8, 3, 0, 0, 0, 5), (3, .dup, 4, 0, 0, 0, 0), (4, .invokespecial 112, 7, 0, 52, 0, 0), (7, .astore_n 1, 8, 0, 0, 0, 0), (8, .new 113, 11, 0, 0, 0, 7), (11, .dup, 12, 0, 0, 0, 0), (12, .invokespecial 115, 15, 0, 110, 0, 0), (15, .astore_n 2, 16, 0, 0, 0, 0), (16, .new 14, 19, 0, 0, 0, 6), (19, .dup, 20, 0, 0, 0, 0), (20, .invokespecial 116, 23, 0, 109, 0, 0), (23, .astore_n 3, 24, 0, 0, 0, 0), (24, .iconst 0, 25, 0, 0, 0, 0), (25, .istore 4, 27, 0, 0, 0, 0), (27, .iload 4, 29, 0, 0, 0, 0), (29, .aload_n 0, 30, 0, 0, 0, 0), (30, .arraylength, 31, 0, 0, 0, 0), (31, .bipush 6, 33, 0, 0, 0, 0), (33, .isub, 34, 0, 0, 0, 0), (34, .if_icmp .gt 1244, 37, 1278, 0, 0, 0), (37, .aload_n 0, 38, 0, 0, 0, 0), (38, .iload 4, 40, 0, 0, 0, 0), (40, .iaload, 41, 0, 0, 0, 0), (41, .bipush 31, 43, 0, 0, 0, 0), (43, .iand, 44, 0, 0, 0, 0), (44, .tableswitch 1228 0 28 #[132, 172, 212, 240, 280, 348, 400, 452, 560, 600, 656, 684, 697, 710, 738, 766, 806, 834, 874, 926, 966, 1022, 1050, 1078, 1118, 1146, 1174, 1202, 1215], 176, 0, 0, 0, 0), (176, .aload_n 1, 177, 0, 0, 0, 0), (177, .aload_n 0, 178, 0, 0, 0, 0), (178, .iload 4, 180, 0, 0, 0, 0), (180, .iconst 1, 181, 0, 0, 0, 0), (181, .iadd, 182, 0, 0, 0, 0), (182, .iaload, 183, 0, 0, 0, 0), (183, .aload_n 0, 184, 0, 0, 0, 0), (184, .iload 4, 186, 0, 0, 0, 0), (186, .iconst 2, 187, 0, 0, 0, 0), (187, .iadd, 188, 0, 0, 0, 0), (188, .iaload, 189, 0, 0, 0, 0), (189, .aload_n 3, 190, 0, 0, 0, 0), (190, .invokestatic 117, 193, 0, 189, 4, 0), (193, .istore 5, 195, 0, 0, 0, 0), (195, .aload_n 2, 196, 0, 0, 0, 0), (196, .aload_n 0, 197, 0, 0, 0, 0), (197, .iload 4, 199, 0, 0, 0, 0), (199, .iconst 1, 200, 0, 0, 0, 0), (200, .iadd, 201, 0, 0, 0, 0), (201, .iaload, 202, 0, 0, 0, 0), (202, .aload_n 0, 203, 0, 0, 0, 0), (203, .iload 4, 205, 0, 0, 0, 0), (205, .iconst 2, 206, 0, 0, 0, 0), (206, .iadd, 207, 0, 0, 0, 0), (207, .iaload, 208, 0, 0, 0, 0), (208, .invokevirtual 122, 211, 0, 139, 2, 7), (211, .istore 6, 213, 0, 0, 0, 0), (213, .goto 1059, 216, 1272, 0, 0, 0), (216, .aload_n 1, 217, 0, 0, 0, 0), (217, .aload_n 0, 218, 0, 0, 0, 0), (218, .iload 4, 220, 0, 0, 0, 0), (220, .iconst 1, 221, 0, 0, 0, 0), (221, .iadd, 222, 0, 0, 0, 0), (222, .iaload, 223, 0, 0, 0, 0), (223, .aload_n 0, 224, 0, 0, 0, 0), (224, .iload 4, 226, 0, 0, 0, 0), (226, .iconst 2, 227, 0, 0, 0, 0), (227, .iadd, 228, 0, 0, 0, 0), (228, .iaload, 229, 0, 0, 0, 0), (229, .aload_n 3, 230, 0, 0, 0, 0), (230, .invokestatic 123, 233, 0, 190, 4, 0), (233, .istore 5, 235, 0, 0, 0, 0), (235, .aload_n 2, 236, 0, 0, 0, 0), (236, .aload_n 0, 237, 0, 0, 0, 0), (237, .iload 4, 239, 0, 0, 0, 0), (239, .iconst 1, 240, 0, 0, 0, 0), (240, .iadd, 241, 0, 0, 0, 0), (241, .iaload, 242, 0, 0, 0, 0), (242, .aload_n 0, 243, 0, 0, 0, 0), (243, .iload 4, 245, 0, 0, 0, 0), (245, .iconst 2, 246, 0, 0, 0, 0), (246, .iadd, 247, 0, 0, 0, 0), (247, .iaload, 248, 0, 0, 0, 0), (248, .invokevirtual 125, 251, 0, 140, 2, 7), (251, .istore 6, 253, 0, 0, 0, 0), (253, .goto 1019, 256, 1272, 0, 0, 0), (256, .aload_n 1, 257, 0, 0, 0, 0), (257, .aload_n 0, 258, 0, 0, 0, 0), (258, .iload 4, 260, 0, 0, 0, 0), (260, .iconst 1, 261, 0, 0, 0, 0), (261, .iadd, 262, 0, 0, 0, 0), (262, .iaload, 263, 0, 0, 0, 0), (263, .aload_n 3, 264, 0, 0, 0, 0), (264, .invokestatic 126, 267, 0, 191, 3, 0), (267, .istore 5, 269, 0, 0, 0, 0), (269, .aload_n 2, 270, 0, 0, 0, 0), (270, .aload_n 0, 271, 0, 0, 0, 0), (271, .iload 4, 273, 0, 0, 0, 0), (273, .iconst 1, 274, 0, 0, 0, 0), (274, .iadd, 275, 0, 0, 0, 0), (275, .iaload, 276, 0, 0, 0, 0), (276, .invokevirtual 129, 279, 0, 141, 1, 7), (279, .istore 6, 281, 0, 0, 0, 0), (281, .goto 991, 284, 1272, 0, 0, 0), (284, .aload_n 1, 285, 0, 0, 0, 0), (285, .aload_n 0, 286, 0, 0, 0, 0), (286, .iload 4, 288, 0, 0, 0, 0), (288, .iconst 1, 289, 0, 0, 0, 0), (289, .iadd, 290, 0, 0, 0, 0), (290, .iaload, 291, 0, 0, 0, 0), (291, .aload_n 0, 292, 0, 0, 0, 0), (292, .iload 4, 294, 0, 0, 0, 0), (294, .iconst 2, 295, 0, 0, 0, 0), (295, .iadd, 296, 0, 0, 0, 0), (296, .iaload, 297, 0, 0, 0, 0), (297, .aload_n 3, 298, 0, 0, 0, 0), (298, .invokestatic 130, 301, 0, 192, 4, 0), (301, .istore 5, 303, 0, 0, 0, 0), (303, .aload_n 2, 304, 0, 0, 0, 0), (304, .aload_n 0, 305, 0, 0, 0, 0), (305, .iload 4, 307, 0, 0, 0, 0), (307, .iconst 1, 308, 0, 0, 0, 0), (308, .iadd, 309, 0, 0, 0, 0), (309, .iaload, 310, 0, 0, 0, 0), (310, .aload_n 0, 311, 0, 0, 0, 0), (311, .iload 4, 313, 0, 0, 0, 0), (313, .iconst 2, 314, 0, 0, 0, 0), (314, .iadd, 315, 0, 0, 0, 0), (315, .iaload, 316, 0, 0, 0, 0), (316, .invokevirtual 132, 319, 0, 142, 2, 7), (319, .istore 6, 321, 0, 0, 0, 0), (321, .goto 951, 324, 1272, 0, 0, 0), (324, .aload_n 1, 325, 0, 0, 0, 0), (325, .aload_n 0, 326, 0, 0, 0, 0), (326, .iload 4, 328, 0, 0, 0, 0), (328, .iconst 1, 329, 0, 0, 0, 0), (329, .iadd, 330, 0, 0, 0, 0), (330, .iaload, 331, 0, 0, 0, 0), (331, .aload_n 0, 332, 0, 0, 0, 0), (332, .iload 4, 334, 0, 0, 0, 0), (334, .iconst 2, 335, 0, 0, 0, 0), (335, .iadd, 336, 0, 0, 0, 0), (336, .iaload, 337, 0, 0, 0, 0), (337, .aload_n 0, 338, 0, 0, 0, 0), (338, .iload 4, 340, 0, 0, 0, 0), (340, .iconst 3, 341, 0, 0, 0, 0), (341, .iadd, 342, 0, 0, 0, 0), (342, .iaload, 343, 0, 0, 0, 0), (343, .ifCond .eq 7, 346, 350, 0, 0, 0), (346, .iconst 1, 347, 0, 0, 0, 0), (347, .goto 4, 350, 351, 0, 0, 0), (350, .iconst 0, 351, 0, 0, 0, 0), (351, .aload_n 3, 352, 0, 0, 0, 0), (352, .invokestatic 133, 355, 0, 193, 5, 0), (355, .istore 5, 357, 0, 0, 0, 0), (357, .aload_n 2, 358, 0, 0, 0, 0), (358, .aload_n 0, 359, 0, 0, 0, 0), (359, .iload 4, 361, 0, 0, 0, 0), (361, .iconst 1, 362, 0, 0, 0, 0), (362, .iadd, 363, 0, 0, 0, 0), (363, .iaload, 364, 0, 0, 0, 0), (364, .aload_n 0, 365, 0, 0, 0, 0), (365, .iload 4, 367, 0, 0, 0, 0), (367, .iconst 2, 368, 0, 0, 0, 0), (368, .iadd, 369, 0, 0, 0, 0), (369, .iaload, 370, 0, 0, 0, 0), (370, .aload_n 0, 371, 0, 0, 0, 0), (371, .iload 4, 373, 0, 0, 0, 0), (373, .iconst 3, 374, 0, 0, 0, 0), (374, .iadd, 375, 0, 0, 0, 0), (375, .iaload, 376, 0, 0, 0, 0), (376, .ifCond .eq 7, 379, 383, 0, 0, 0), (379, .iconst 1, 380, 0, 0, 0, 0), (380, .goto 4, 383, 384, 0, 0, 0), (383, .iconst 0, 384, 0, 0, 0, 0), (384, .invokevirtual 136, 387, 0, 143, 3, 7), (387, .istore 6, 389, 0, 0, 0, 0), (389, .goto 883, 392, 1272, 0, 0, 0), (392, .aload_n 1, 393, 0, 0, 0, 0), (393, .aload_n 0, 394, 0, 0, 0, 0), (394, .iload 4, 396, 0, 0, 0, 0), (396, .iconst 1, 397, 0, 0, 0, 0), (397, .iadd, 398, 0, 0, 0, 0), (398, .iaload, 399, 0, 0, 0, 0), (399, .aload_n 0, 400, 0, 0, 0, 0), (400, .iload 4, 402, 0, 0, 0, 0), (402, .iconst 2, 403, 0, 0, 0, 0), (403, .iadd, 404, 0, 0, 0, 0), (404, .iaload, 405, 0, 0, 0, 0), (405, .aload_n 0, 406, 0, 0, 0, 0), (406, .iload 4, 408, 0, 0, 0, 0), (408, .iconst 3, 409, 0, 0, 0, 0), (409, .iadd, 410, 0, 0, 0, 0), (410, .iaload, 411, 0, 0, 0, 0), (411, .aload_n 3, 412, 0, 0, 0, 0), (412, .invokestatic 137, 415, 0, 194, 5, 0), (415, .istore 5, 417, 0, 0, 0, 0), (417, .aload_n 2, 418, 0, 0, 0, 0), (418, .aload_n 0, 419, 0, 0, 0, 0), (419, .iload 4, 421, 0, 0, 0, 0), (421, .iconst 1, 422, 0, 0, 0, 0), (422, .iadd, 423, 0, 0, 0, 0), (423, .iaload, 424, 0, 0, 0, 0), (424, .aload_n 0, 425, 0, 0, 0, 0), (425, .iload 4, 427, 0, 0, 0, 0), (427, .iconst 2, 428, 0, 0, 0, 0), (428, .iadd, 429, 0, 0, 0, 0), (429, .iaload, 430, 0, 0, 0, 0), (430, .aload_n 0, 431, 0, 0, 0, 0), (431, .iload 4, 433, 0, 0, 0, 0), (433, .iconst 3, 434, 0, 0, 0, 0), (434, .iadd, 435, 0, 0, 0, 0), (435, .iaload, 436, 0, 0, 0, 0), (436, .invokevirtual 140, 439, 0, 144, 3, 7), (439, .istore 6, 441, 0, 0, 0, 0), (441, .goto 831, 444, 1272, 0, 0, 0), (444, .aload_n 1, 445, 0, 0, 0, 0), (445, .aload_n 0, 446, 0, 0, 0, 0), (446, .iload 4, 448, 0, 0, 0, 0), (448, .iconst 1, 449, 0, 0, 0, 0), (449, .iadd, 450, 0, 0, 0, 0), (450, .iaload, 451, 0, 0, 0, 0), (451, .aload_n 0, 452, 0, 0, 0, 0), (452, .iload 4, 454, 0, 0, 0, 0), (454, .iconst 2, 455, 0, 0, 0, 0), (455, .iadd, 456, 0, 0, 0, 0), (456, .iaload, 457, 0, 0, 0, 0), (457, .aload_n 0, 458, 0, 0, 0, 0), (458, .iload 4, 460, 0, 0, 0, 0), (460, .iconst 3, 461, 0, 0, 0, 0), (461, .iadd, 462, 0, 0, 0, 0), (462, .iaload, 463, 0, 0, 0, 0), (463, .aload_n 3, 464, 0, 0, 0, 0), (464, .invokestatic 141, 467, 0, 195, 5, 0), (467, .istore 5, 469, 0, 0, 0, 0), (469, .aload_n 2, 470, 0, 0, 0, 0), (470, .aload_n 0, 471, 0, 0, 0, 0), (471, .iload 4, 473, 0, 0, 0, 0), (473, .iconst 1, 474, 0, 0, 0, 0), (474, .iadd, 475, 0, 0, 0, 0), (475, .iaload, 476, 0, 0, 0, 0), (476, .aload_n 0, 477, 0, 0, 0, 0), (477, .iload 4, 479, 0, 0, 0, 0), (479, .iconst 2, 480, 0, 0, 0, 0), (480, .iadd, 481, 0, 0, 0, 0), (481, .iaload, 482, 0, 0, 0, 0), (482, .aload_n 0, 483, 0, 0, 0, 0), (483, .iload 4, 485, 0, 0, 0, 0), (485, .iconst 3, 486, 0, 0, 0, 0), (486, .iadd, 487, 0, 0, 0, 0), (487, .iaload, 488, 0, 0, 0, 0), (488, .invokevirtual 143, 491, 0, 145, 3, 7), (491, .istore 6, 493, 0, 0, 0, 0), (493, .goto 779, 496, 1272, 0, 0, 0), (496, .aload_n 1, 497, 0, 0, 0, 0), (497, .aload_n 0, 498, 0, 0, 0, 0), (498, .iload 4, 500, 0, 0, 0, 0), (500, .iconst 1, 501, 0, 0, 0, 0), (501, .iadd, 502, 0, 0, 0, 0), (502, .iaload, 503, 0, 0, 0, 0), (503, .aload_n 0, 504, 0, 0, 0, 0), (504, .iload 4, 506, 0, 0, 0, 0), (506, .iconst 2, 507, 0, 0, 0, 0), (507, .iadd, 508, 0, 0, 0, 0), (508, .iaload, 509, 0, 0, 0, 0), (509, .aload_n 0, 510, 0, 0, 0, 0), (510, .iload 4, 512, 0, 0, 0, 0), (512, .iconst 3, 513, 0, 0, 0, 0), (513, .iadd, 514, 0, 0, 0, 0), (514, .iaload, 515, 0, 0, 0, 0), (515, .aload_n 0, 516, 0, 0, 0, 0), (516, .iload 4, 518, 0, 0, 0, 0), (518, .iconst 4, 519, 0, 0, 0, 0), (519, .iadd, 520, 0, 0, 0, 0), (520, .iaload, 521, 0, 0, 0, 0), (521, .ifCond .eq 7, 524, 528, 0, 0, 0), (524, .iconst 1, 525, 0, 0, 0, 0), (525, .goto 4, 528, 529, 0, 0, 0), (528, .iconst 0, 529, 0, 0, 0, 0), (529, .aload_n 0, 530, 0, 0, 0, 0), (530, .iload 4, 532, 0, 0, 0, 0), (532, .iconst 5, 533, 0, 0, 0, 0), (533, .iadd, 534, 0, 0, 0, 0), (534, .iaload, 535, 0, 0, 0, 0), (535, .ifCond .eq 7, 538, 542, 0, 0, 0), (538, .iconst 1, 539, 0, 0, 0, 0), (539, .goto 4, 542, 543, 0, 0, 0), (542, .iconst 0, 543, 0, 0, 0, 0), (543, .aload_n 3, 544, 0, 0, 0, 0), (544, .invokestatic 144, 547, 0, 196, 7, 0), (547, .istore 5, 549, 0, 0, 0, 0), (549, .aload_n 2, 550, 0, 0, 0, 0), (550, .aload_n 0, 551, 0, 0, 0, 0), (551, .iload 4, 553, 0, 0, 0, 0), (553, .iconst 1, 554, 0, 0, 0, 0), (554, .iadd, 555, 0, 0, 0, 0), (555, .iaload, 556, 0, 0, 0, 0), (556, .aload_n 0, 557, 0, 0, 0, 0), (557, .iload 4, 559, 0, 0, 0, 0), (559, .iconst 2, 560, 0, 0, 0, 0), (560, .iadd, 561, 0, 0, 0, 0), (561, .iaload, 562, 0, 0, 0, 0), (562, .aload_n 0, 563, 0, 0, 0, 0), (563, .iload 4, 565, 0, 0, 0, 0), (565, .iconst 3, 566, 0, 0, 0, 0), (566, .iadd, 567, 0, 0, 0, 0), (567, .iaload, 568, 0, 0, 0, 0), (568, .aload_n 0, 569, 0, 0, 0, 0), (569, .iload 4, 571, 0, 0, 0, 0), (571, .iconst 4, 572, 0, 0, 0, 0), (572, .iadd, 573, 0, 0, 0, 0), (573, .iaload, 574, 0, 0, 0, 0), (574, .ifCond .eq 7, 577, 581, 0, 0, 0), (577, .iconst 1, 578, 0, 0, 0, 0), (578, .goto 4, 581, 582, 0, 0, 0), (581, .iconst 0, 582, 0, 0, 0, 0), (582, .aload_n 0, 583, 0, 0, 0, 0), (583, .iload 4, 585, 0, 0, 0, 0), (585, .iconst 5, 586, 0, 0, 0, 0), (586, .iadd, 587, 0, 0, 0, 0), (587, .iaload, 588, 0, 0, 0, 0), (588, .ifCond .eq 7, 591, 595, 0, 0, 0), (591, .iconst 1, 592, 0, 0, 0, 0), (592, .goto 4, 595, 596, 0, 0, 0), (595, .iconst 0, 596, 0, 0, 0, 0), (596, .invokevirtual 147, 599, 0, 146, 5, 7), (599, .istore 6, 601, 0, 0, 0, 0), (601, .goto 671, 604, 1272, 0, 0, 0), (604, .aload_n 1, 605, 0, 0, 0, 0), (605, .aload_n 0, 606, 0, 0, 0, 0), (606, .iload 4, 608, 0, 0, 0, 0), (608, .iconst 1, 609, 0, 0, 0, 0), (609, .iadd, 610, 0, 0, 0, 0), (610, .iaload, 611, 0, 0, 0, 0), (611, .aload_n 0, 612, 0, 0, 0, 0), (612, .iload 4, 614, 0, 0, 0, 0), (614, .iconst 2, 615, 0, 0, 0, 0), (615, .iadd, 616, 0, 0, 0, 0), (616, .iaload, 617, 0, 0, 0, 0), (617, .aload_n 3, 618, 0, 0, 0, 0), (618, .invokestatic 148, 621, 0, 197, 4, 0), (621, .istore 5, 623, 0, 0, 0, 0), (623, .aload_n 2, 624, 0, 0, 0, 0), (624, .aload_n 0, 625, 0, 0, 0, 0), (625, .iload 4, 627, 0, 0, 0, 0), (627, .iconst 1, 628, 0, 0, 0, 0), (628, .iadd, 629, 0, 0, 0, 0), (629, .iaload, 630, 0, 0, 0, 0), (630, .aload_n 0, 631, 0, 0, 0, 0), (631, .iload 4, 633, 0, 0, 0, 0), (633, .iconst 2, 634, 0, 0, 0, 0), (634, .iadd, 635, 0, 0, 0, 0), (635, .iaload, 636, 0, 0, 0, 0), (636, .invokevirtual 150, 639, 0, 147, 2, 7), (639, .istore 6, 641, 0, 0, 0, 0), (641, .goto 631, 644, 1272, 0, 0, 0), (644, .aload_n 1, 645, 0, 0, 0, 0), (645, .aload_n 0, 646, 0, 0, 0, 0), (646, .iload 4, 648, 0, 0, 0, 0), (648, .iconst 1, 649, 0, 0, 0, 0), (649, .iadd, 650, 0, 0, 0, 0), (650, .iaload, 651, 0, 0, 0, 0), (651, .aload_n 0, 652, 0, 0, 0, 0), (652, .iload 4, 654, 0, 0, 0, 0), (654, .iconst 2, 655, 0, 0, 0, 0), (655, .iadd, 656, 0, 0, 0, 0), (656, .iaload, 657, 0, 0, 0, 0), (657, .ifCond .eq 7, 660, 664, 0, 0, 0), (660, .iconst 1, 661, 0, 0, 0, 0), (661, .goto 4, 664, 665, 0, 0, 0), (664, .iconst 0, 665, 0, 0, 0, 0), (665, .aload_n 3, 666, 0, 0, 0, 0), (666, .invokestatic 151, 669, 0, 198, 4, 0), (669, .istore 5, 671, 0, 0, 0, 0), (671, .aload_n 2, 672, 0, 0, 0, 0), (672, .aload_n 0, 673, 0, 0, 0, 0), (673, .iload 4, 675, 0, 0, 0, 0), (675, .iconst 1, 676, 0, 0, 0, 0), (676, .iadd, 677, 0, 0, 0, 0), (677, .iaload, 678, 0, 0, 0, 0), (678, .aload_n 0, 679, 0, 0, 0, 0), (679, .iload 4, 681, 0, 0, 0, 0), (681, .iconst 2, 682, 0, 0, 0, 0), (682, .iadd, 683, 0, 0, 0, 0), (683, .iaload, 684, 0, 0, 0, 0), (684, .ifCond .eq 7, 687, 691, 0, 0, 0), (687, .iconst 1, 688, 0, 0, 0, 0), (688, .goto 4, 691, 692, 0, 0, 0), (691, .iconst 0, 692, 0, 0, 0, 0), (692, .invokevirtual 154, 695, 0, 148, 2, 7), (695, .istore 6, 697, 0, 0, 0, 0), (697, .goto 575, 700, 1272, 0, 0, 0), (700, .aload_n 1, 701, 0, 0, 0, 0), (701, .aload_n 0, 702, 0, 0, 0, 0), (702, .iload 4, 704, 0, 0, 0, 0), (704, .iconst 1, 705, 0, 0, 0, 0), (705, .iadd, 706, 0, 0, 0, 0), (706, .iaload, 707, 0, 0, 0, 0), (707, .aload_n 3, 708, 0, 0, 0, 0), (708, .invokestatic 155, 711, 0, 199, 3, 0), (711, .istore 5, 713, 0, 0, 0, 0), (713, .aload_n 2, 714, 0, 0, 0, 0), (714, .aload_n 0, 715, 0, 0, 0, 0), (715, .iload 4, 717, 0, 0, 0, 0), (717, .iconst 1, 718, 0, 0, 0, 0), (718, .iadd, 719, 0, 0, 0, 0), (719, .iaload, 720, 0, 0, 0, 0), (720, .invokevirtual 157, 723, 0, 150, 1, 7), (723, .istore 6, 725, 0, 0, 0, 0), (725, .goto 547, 728, 1272, 0, 0, 0), (728, .aload_n 1, 729, 0, 0, 0, 0), (729, .invokevirtual 158, 732, 0, 64, 0, 5), (732, .pop, 733, 0, 0, 0, 0), (733, .aload_n 2, 734, 0, 0, 0, 0), (734, .invokevirtual 162, 737, 0, 151, 0, 7), (737, .pop, 738, 0, 0, 0, 0), (738, .goto 534, 741, 1272, 0, 0, 0), (741, .aload_n 1, 742, 0, 0, 0, 0), (742, .invokevirtual 163, 745, 0, 65, 0, 5), (745, .pop, 746, 0, 0, 0, 0), (746, .aload_n 2, 747, 0, 0, 0, 0), (747, .invokevirtual 166, 750, 0, 152, 0, 7), (750, .pop, 751, 0, 0, 0, 0), (751, .goto 521, 754, 1272, 0, 0, 0), (754, .aload_n 1, 755, 0, 0, 0, 0), (755, .aload_n 0, 756, 0, 0, 0, 0), (756, .iload 4, 758, 0, 0, 0, 0), (758, .iconst 1, 759, 0, 0, 0, 0), (759, .iadd, 760, 0, 0, 0, 0), (760, .iaload, 761, 0, 0, 0, 0), (761, .aload_n 3, 762, 0, 0, 0, 0), (762, .invokestatic 167, 765, 0, 200, 3, 0), (765, .istore 5, 767, 0, 0, 0, 0), (767, .aload_n 2, 768, 0, 0, 0, 0), (768, .aload_n 0, 769, 0, 0, 0, 0), (769, .iload 4, 771, 0, 0, 0, 0), (771, .iconst 1, 772, 0, 0, 0, 0), (772, .iadd, 773, 0, 0, 0, 0), (773, .iaload, 774, 0, 0, 0, 0), (774, .invokevirtual 169, 777, 0, 153, 1, 7), (777, .istore 6, 779, 0, 0, 0, 0), (779, .goto 493, 782, 1272, 0, 0, 0), (782, .aload_n 1, 783, 0, 0, 0, 0), (783, .aload_n 0, 784, 0, 0, 0, 0), (784, .iload 4, 786, 0, 0, 0, 0), (786, .iconst 1, 787, 0, 0, 0, 0), (787, .iadd, 788, 0, 0, 0, 0), (788, .iaload, 789, 0, 0, 0, 0), (789, .aload_n 3, 790, 0, 0, 0, 0), (790, .invokestatic 170, 793, 0, 201, 3, 0), (793, .istore 5, 795, 0, 0, 0, 0), (795, .aload_n 2, 796, 0, 0, 0, 0), (796, .aload_n 0, 797, 0, 0, 0, 0), (797, .iload 4, 799, 0, 0, 0, 0), (799, .iconst 1, 800, 0, 0, 0, 0), (800, .iadd, 801, 0, 0, 0, 0), (801, .iaload, 802, 0, 0, 0, 0), (802, .invokevirtual 172, 805, 0, 154, 1, 7), (805, .istore 6, 807, 0, 0, 0, 0), (807, .goto 465, 810, 1272, 0, 0, 0), (810, .aload_n 1, 811, 0, 0, 0, 0), (811, .aload_n 0, 812, 0, 0, 0, 0), (812, .iload 4, 814, 0, 0, 0, 0), (814, .iconst 1, 815, 0, 0, 0, 0), (815, .iadd, 816, 0, 0, 0, 0), (816, .iaload, 817, 0, 0, 0, 0), (817, .aload_n 0, 818, 0, 0, 0, 0), (818, .iload 4, 820, 0, 0, 0, 0), (820, .iconst 2, 821, 0, 0, 0, 0), (821, .iadd, 822, 0, 0, 0, 0), (822, .iaload, 823, 0, 0, 0, 0), (823, .aload_n 3, 824, 0, 0, 0, 0), (824, .invokestatic 173, 827, 0, 202, 4, 0), (827, .istore 5, 829, 0, 0, 0, 0), (829, .aload_n 2, 830, 0, 0, 0, 0), (830, .aload_n 0, 831, 0, 0, 0, 0), (831, .iload 4, 833, 0, 0, 0, 0), (833, .iconst 1, 834, 0, 0, 0, 0), (834, .iadd, 835, 0, 0, 0, 0), (835, .iaload, 836, 0, 0, 0, 0), (836, .aload_n 0, 837, 0, 0, 0, 0), (837, .iload 4, 839, 0, 0, 0, 0), (839, .iconst 2, 840, 0, 0, 0, 0), (840, .iadd, 841, 0, 0, 0, 0), (841, .iaload, 842, 0, 0, 0, 0), (842, .invokevirtual 175, 845, 0, 155, 2, 7), (845, .istore 6, 847, 0, 0, 0, 0), (847, .goto 425, 850, 1272, 0, 0, 0), (850, .aload_n 1, 851, 0, 0, 0, 0), (851, .aload_n 0, 852, 0, 0, 0, 0), (852, .iload 4, 854, 0, 0, 0, 0), (854, .iconst 1, 855, 0, 0, 0, 0), (855, .iadd, 856, 0, 0, 0, 0), (856, .iaload, 857, 0, 0, 0, 0), (857, .aload_n 3, 858, 0, 0, 0, 0), (858, .invokestatic 176, 861, 0, 203, 3, 0), (861, .istore 5, 863, 0, 0, 0, 0), (863, .aload_n 2, 864, 0, 0, 0, 0), (864, .aload_n 0, 865, 0, 0, 0, 0), (865, .iload 4, 867, 0, 0, 0, 0), (867, .iconst 1, 868, 0, 0, 0, 0), (868, .iadd, 869, 0, 0, 0, 0), (869, .iaload, 870, 0, 0, 0, 0), (870, .invokevirtual 178, 873, 0, 157, 1, 7), (873, .istore 6, 875, 0, 0, 0, 0), (875, .goto 397, 878, 1272, 0, 0, 0), (878, .aload_n 1, 879, 0, 0, 0, 0), (879, .aload_n 0, 880, 0, 0, 0, 0), (880, .iload 4, 882, 0, 0, 0, 0), (882, .iconst 1, 883, 0, 0, 0, 0), (883, .iadd, 884, 0, 0, 0, 0), (884, .iaload, 885, 0, 0, 0, 0), (885, .aload_n 0, 886, 0, 0, 0, 0), (886, .iload 4, 888, 0, 0, 0, 0), (888, .iconst 2, 889, 0, 0, 0, 0), (889, .iadd, 890, 0, 0, 0, 0), (890, .iaload, 891, 0, 0, 0, 0), (891, .aload_n 3, 892, 0, 0, 0, 0), (892, .invokestatic 179, 895, 0, 204, 4, 0), (895, .istore 5, 897, 0, 0, 0, 0), (897, .aload_n 2, 898, 0, 0, 0, 0), (898, .aload_n 0, 899, 0, 0, 0, 0), (899, .iload 4, 901, 0, 0, 0, 0), (901, .iconst 1, 902, 0, 0, 0, 0), (902, .iadd, 903, 0, 0, 0, 0), (903, .iaload, 904, 0, 0, 0, 0), (904, .aload_n 0, 905, 0, 0, 0, 0), (905, .iload 4, 907, 0, 0, 0, 0), (907, .iconst 2, 908, 0, 0, 0, 0), (908, .iadd, 909, 0, 0, 0, 0), (909, .iaload, 910, 0, 0, 0, 0), (910, .invokevirtual 181, 913, 0, 160, 2, 7), (913, .istore 6, 915, 0, 0, 0, 0), (915, .goto 357, 918, 1272, 0, 0, 0), (918, .aload_n 1, 919, 0, 0, 0, 0), (919, .aload_n 0, 920, 0, 0, 0, 0), (920, .iload 4, 922, 0, 0, 0, 0), (922, .iconst 1, 923, 0, 0, 0, 0), (923, .iadd, 924, 0, 0, 0, 0), (924, .iaload, 925, 0, 0, 0, 0), (925, .aload_n 0, 926, 0, 0, 0, 0), (926, .iload 4, 928, 0, 0, 0, 0), (928, .iconst 2, 929, 0, 0, 0, 0), (929, .iadd, 930, 0, 0, 0, 0), (930, .iaload, 931, 0, 0, 0, 0), (931, .aload_n 0, 932, 0, 0, 0, 0), (932, .iload 4, 934, 0, 0, 0, 0), (934, .iconst 3, 935, 0, 0, 0, 0), (935, .iadd, 936, 0, 0, 0, 0), (936, .iaload, 937, 0, 0, 0, 0), (937, .aload_n 3, 938, 0, 0, 0, 0), (938, .invokestatic 182, 941, 0, 205, 5, 0), (941, .istore 5, 943, 0, 0, 0, 0), (943, .aload_n 2, 944, 0, 0, 0, 0), (944, .aload_n 0, 945, 0, 0, 0, 0), (945, .iload 4, 947, 0, 0, 0, 0), (947, .iconst 1, 948, 0, 0, 0, 0), (948, .iadd, 949, 0, 0, 0, 0), (949, .iaload, 950, 0, 0, 0, 0), (950, .aload_n 0, 951, 0, 0, 0, 0), (951, .iload 4, 953, 0, 0, 0, 0), (953, .iconst 2, 954, 0, 0, 0, 0), (954, .iadd, 955, 0, 0, 0, 0), (955, .iaload, 956, 0, 0, 0, 0), (956, .aload_n 0, 957, 0, 0, 0, 0), (957, .iload 4, 959, 0, 0, 0, 0), (959, .iconst 3, 960, 0, 0, 0, 0), (960, .iadd, 961, 0, 0, 0, 0), (961, .iaload, 962, 0, 0, 0, 0), (962, .invokevirtual 184, 965, 0, 164, 3, 7), (965, .istore 6, 967, 0, 0, 0, 0), (967, .goto 305, 970, 1272, 0, 0, 0), (970, .aload_n 1, 971, 0, 0, 0, 0), (971, .aload_n 0, 972, 0, 0, 0, 0), (972, .iload 4, 974, 0, 0, 0, 0), (974, .iconst 1, 975, 0, 0, 0, 0), (975, .iadd, 976, 0, 0, 0, 0), (976, .iaload, 977, 0, 0, 0, 0), (977, .aload_n 0, 978, 0, 0, 0, 0), (978, .iload 4, 980, 0, 0, 0, 0), (980, .iconst 2, 981, 0, 0, 0, 0), (981, .iadd, 982, 0, 0, 0, 0), (982, .iaload, 983, 0, 0, 0, 0), (983, .aload_n 3, 984, 0, 0, 0, 0), (984, .invokestatic 185, 987, 0, 206, 4, 0), (987, .istore 5, 989, 0, 0, 0, 0), (989, .aload_n 2, 990, 0, 0, 0, 0), (990, .aload_n 0, 991, 0, 0, 0, 0), (991, .iload 4, 993, 0, 0, 0, 0), (993, .iconst 1, 994, 0, 0, 0, 0), (994, .iadd, 995, 0, 0, 0, 0), (995, .iaload, 996, 0, 0, 0, 0), (996, .aload_n 0, 997, 0, 0, 0, 0), (997, .iload 4, 999, 0, 0, 0, 0), (999, .iconst 2, 1000, 0, 0, 0, 0), (1000, .iadd, 1001, 0, 0, 0, 0), (1001, .iaload, 1002, 0, 0, 0, 0), (1002, .invokevirtual 187, 1005, 0, 165, 2, 7), (1005, .istore 6, 1007, 0, 0, 0, 0), (1007, .goto 265, 1010, 1272, 0, 0, 0), (1010, .aload_n 1, 1011, 0, 0, 0, 0), (1011, .aload_n 0, 1012, 0, 0, 0, 0), (1012, .iload 4, 1014, 0, 0, 0, 0), (1014, .iconst 1, 1015, 0, 0, 0, 0), (1015, .iadd, 1016, 0, 0, 0, 0), (1016, .iaload, 1017, 0, 0, 0, 0), (1017, .aload_n 0, 1018, 0, 0, 0, 0), (1018, .iload 4, 1020, 0, 0, 0, 0), (1020, .iconst 2, 1021, 0, 0, 0, 0), (1021, .iadd, 1022, 0, 0, 0, 0), (1022, .iaload, 1023, 0, 0, 0, 0), (1023, .ifCond .eq 7, 1026, 1030, 0, 0, 0), (1026, .iconst 1, 1027, 0, 0, 0, 0), (1027, .goto 4, 1030, 1031, 0, 0, 0), (1030, .iconst 0, 1031, 0, 0, 0, 0), (1031, .aload_n 3, 1032, 0, 0, 0, 0), (1032, .invokestatic 188, 1035, 0, 207, 4, 0), (1035, .istore 5, 1037, 0, 0, 0, 0), (1037, .aload_n 2, 1038, 0, 0, 0, 0), (1038, .aload_n 0, 1039, 0, 0, 0, 0), (1039, .iload 4, 1041, 0, 0, 0, 0), (1041, .iconst 1, 1042, 0, 0, 0, 0), (1042, .iadd, 1043, 0, 0, 0, 0), (1043, .iaload, 1044, 0, 0, 0, 0), (1044, .aload_n 0, 1045, 0, 0, 0, 0), (1045, .iload 4, 1047, 0, 0, 0, 0), (1047, .iconst 2, 1048, 0, 0, 0, 0), (1048, .iadd, 1049, 0, 0, 0, 0), (1049, .iaload, 1050, 0, 0, 0, 0), (1050, .ifCond .eq 7, 1053, 1057, 0, 0, 0), (1053, .iconst 1, 1054, 0, 0, 0, 0), (1054, .goto 4, 1057, 1058, 0, 0, 0), (1057, .iconst 0, 1058, 0, 0, 0, 0), (1058, .invokevirtual 190, 1061, 0, 170, 2, 7), (1061, .istore 6, 1063, 0, 0, 0, 0), (1063, .goto 209, 1066, 1272, 0, 0, 0), (1066, .aload_n 1, 1067, 0, 0, 0, 0), (1067, .aload_n 0, 1068, 0, 0, 0, 0), (1068, .iload 4, 1070, 0, 0, 0, 0), (1070, .iconst 1, 1071, 0, 0, 0, 0), (1071, .iadd, 1072, 0, 0, 0, 0), (1072, .iaload, 1073, 0, 0, 0, 0), (1073, .aload_n 3, 1074, 0, 0, 0, 0), (1074, .invokestatic 191, 1077, 0, 208, 3, 0), (1077, .istore 5, 1079, 0, 0, 0, 0), (1079, .aload_n 2, 1080, 0, 0, 0, 0), (1080, .aload_n 0, 1081, 0, 0, 0, 0), (1081, .iload 4, 1083, 0, 0, 0, 0), (1083, .iconst 1, 1084, 0, 0, 0, 0), (1084, .iadd, 1085, 0, 0, 0, 0), (1085, .iaload, 1086, 0, 0, 0, 0), (1086, .invokevirtual 193, 1089, 0, 172, 1, 7), (1089, .istore 6, 1091, 0, 0, 0, 0), (1091, .goto 181, 1094, 1272, 0, 0, 0), (1094, .aload_n 1, 1095, 0, 0, 0, 0), (1095, .aload_n 0, 1096, 0, 0, 0, 0), (1096, .iload 4, 1098, 0, 0, 0, 0), (1098, .iconst 1, 1099, 0, 0, 0, 0), (1099, .iadd, 1100, 0, 0, 0, 0), (1100, .iaload, 1101, 0, 0, 0, 0), (1101, .aload_n 3, 1102, 0, 0, 0, 0), (1102, .invokestatic 194, 1105, 0, 209, 3, 0), (1105, .istore 5, 1107, 0, 0, 0, 0), (1107, .aload_n 2, 1108, 0, 0, 0, 0), (1108, .aload_n 0, 1109, 0, 0, 0, 0), (1109, .iload 4, 1111, 0, 0, 0, 0), (1111, .iconst 1, 1112, 0, 0, 0, 0), (1112, .iadd, 1113, 0, 0, 0, 0), (1113, .iaload, 1114, 0, 0, 0, 0), (1114, .invokevirtual 196, 1117, 0, 174, 1, 7), (1117, .dstore 6, 1119, 0, 0, 0, 0), (1119, .goto 153, 1122, 1272, 0, 0, 0), (1122, .aload_n 1, 1123, 0, 0, 0, 0), (1123, .aload_n 0, 1124, 0, 0, 0, 0), (1124, .iload 4, 1126, 0, 0, 0, 0), (1126, .iconst 1, 1127, 0, 0, 0, 0), (1127, .iadd, 1128, 0, 0, 0, 0), (1128, .iaload, 1129, 0, 0, 0, 0), (1129, .aload_n 0, 1130, 0, 0, 0, 0), (1130, .iload 4, 1132, 0, 0, 0, 0), (1132, .iconst 2, 1133, 0, 0, 0, 0), (1133, .iadd, 1134, 0, 0, 0, 0), (1134, .iaload, 1135, 0, 0, 0, 0), (1135, .aload_n 3, 1136, 0, 0, 0, 0), (1136, .invokestatic 197, 1139, 0, 210, 4, 0), (1139, .istore 5, 1141, 0, 0, 0, 0), (1141, .aload_n 2, 1142, 0, 0, 0, 0), (1142, .aload_n 0, 1143, 0, 0, 0, 0), (1143, .iload 4, 1145, 0, 0, 0, 0), (1145, .iconst 1, 1146, 0, 0, 0, 0), (1146, .iadd, 1147, 0, 0, 0, 0), (1147, .iaload, 1148, 0, 0, 0, 0), (1148, .aload_n 0, 1149, 0, 0, 0, 0), (1149, .iload 4, 1151, 0, 0, 0, 0), (1151, .iconst 2, 1152, 0, 0, 0, 0), (1152, .iadd, 1153, 0, 0, 0, 0), (1153, .iaload, 1154, 0, 0, 0, 0), (1154, .invokevirtual 199, 1157, 0, 175, 2, 7), (1157, .astore 6, 1159, 0, 0, 0, 0), (1159, .goto 113, 1162, 1272, 0, 0, 0), (1162, .aload_n 1, 1163, 0, 0, 0, 0), (1163, .aload_n 0, 1164, 0, 0, 0, 0), (1164, .iload 4, 1166, 0, 0, 0, 0), (1166, .iconst 1, 1167, 0, 0, 0, 0), (1167, .iadd, 1168, 0, 0, 0, 0), (1168, .iaload, 1169, 0, 0, 0, 0), (1169, .aload_n 3, 1170, 0, 0, 0, 0), (1170, .invokestatic 200, 1173, 0, 211, 3, 0), (1173, .istore 5, 1175, 0, 0, 0, 0), (1175, .aload_n 2, 1176, 0, 0, 0, 0), (1176, .aload_n 0, 1177, 0, 0, 0, 0), (1177, .iload 4, 1179, 0, 0, 0, 0), (1179, .iconst 1, 1180, 0, 0, 0, 0), (1180, .iadd, 1181, 0, 0, 0, 0), (1181, .iaload, 1182, 0, 0, 0, 0), (1182, .invokevirtual 202, 1185, 0, 178, 1, 7), (1185, .istore 6, 1187, 0, 0, 0, 0), (1187, .goto 85, 1190, 1272, 0, 0, 0), (1190, .aload_n 1, 1191, 0, 0, 0, 0), (1191, .aload_n 0, 1192, 0, 0, 0, 0), (1192, .iload 4, 1194, 0, 0, 0, 0), (1194, .iconst 1, 1195, 0, 0, 0, 0), (1195, .iadd, 1196, 0, 0, 0, 0), (1196, .iaload, 1197, 0, 0, 0, 0), (1197, .aload_n 3, 1198, 0, 0, 0, 0), (1198, .invokestatic 203, 1201, 0, 212, 3, 0), (1201, .istore 5, 1203, 0, 0, 0, 0), (1203, .aload_n 2, 1204, 0, 0, 0, 0), (1204, .aload_n 0, 1205, 0, 0, 0, 0), (1205, .iload 4, 1207, 0, 0, 0, 0), (1207, .iconst 1, 1208, 0, 0, 0, 0), (1208, .iadd, 1209, 0, 0, 0, 0), (1209, .iaload, 1210, 0, 0, 0, 0), (1210, .invokevirtual 205, 1213, 0, 180, 1, 7), (1213, .istore 6, 1215, 0, 0, 0, 0), (1215, .goto 57, 1218, 1272, 0, 0, 0), (1218, .aload_n 1, 1219, 0, 0, 0, 0), (1219, .aload_n 0, 1220, 0, 0, 0, 0), (1220, .iload 4, 1222, 0, 0, 0, 0), (1222, .iconst 1, 1223, 0, 0, 0, 0), (1223, .iadd, 1224, 0, 0, 0, 0), (1224, .iaload, 1225, 0, 0, 0, 0), (1225, .aload_n 3, 1226, 0, 0, 0, 0), (1226, .invokestatic 206, 1229, 0, 213, 3, 0), (1229, .istore 5, 1231, 0, 0, 0, 0), (1231, .aload_n 2, 1232, 0, 0, 0, 0), (1232, .aload_n 0, 1233, 0, 0, 0, 0), (1233, .iload 4, 1235, 0, 0, 0, 0), (1235, .iconst 1, 1236, 0, 0, 0, 0), (1236, .iadd, 1237, 0, 0, 0, 0), (1237, .iaload, 1238, 0, 0, 0, 0), (1238, .invokevirtual 208, 1241, 0, 185, 1, 7), (1241, .istore 6, 1243, 0, 0, 0, 0), (1243, .goto 29, 1246, 1272, 0, 0, 0), (1246, .aload_n 1, 1247, 0, 0, 0, 0), (1247, .invokevirtual 209, 1250, 0, 80, 0, 5), (1250, .aload_n 2, 1251, 0, 0, 0, 0), (1251, .invokevirtual 213, 1254, 0, 187, 0, 7), (1254, .if_icmp .eq 18, 1257, 1272, 0, 0, 0), (1257, .iconst 0, 1258, 0, 0, 0, 0), (1258, .ireturn, 1259, 1, 0, 0, 0), (1259, .aload_n 1, 1260, 0, 0, 0, 0), (1260, .invokevirtual 214, 1263, 0, 81, 0, 5), (1263, .pop2, 1264, 0, 0, 0, 0), (1264, .aload_n 2, 1265, 0, 0, 0, 0), (1265, .invokevirtual 218, 1268, 0, 188, 0, 7), (1268, .pop2, 1269, 0, 0, 0, 0), (1269, .goto 3, 1272, 1272, 0, 0, 0), (1272, .iinc 4 6, 1275, 0, 0, 0, 0), (1275, .goto (-1248), 1278, 27, 0, 0, 0), (1278, .iconst 1, 1279, 0, 0, 0, 0), (1279, .ireturn, 1280, 1, 0, 0, 0)]
def zc_J0_init_81219 : List zRow := [(0, .aload_n 0, 1, 0, 0, 0, 0), (1, .aload_n 1, 2, 0, 0, 0, 0), (2, .aconst_null, 3, 0, 0, 0, 0), (3, .invokespecial 489, 6, 0, 216, 2, 0), (6, .return_, 7, 0, 0, 0, 0)]
def zc_J0_init_db425 : List zRow := [(0, .aload_n 0, 1, 0, 0, 0, 0), (1, .invokespecial 1, 4, 8, 0, 0, 0), (4, .aload_n 1, 5, 0, 0, 0, 0), (5, .invokevirtual 552, 8, 6, 225, 0, 8), (8, .astore_n 3, 9, 0, 0, 0, 0), (9, .aload_n 1, 10, 0, 0, 0, 0), (10, .invokevirtual 549, 13, 6, 246, 0, 8), (13, .istore 4, 15, 0, 0, 0, 0), (15, .aload_n 1, 16, 0, 0, 0, 0), (16, .invokevirtual 1047, 19, 6, 227, 0, 8), (19, .ifCond .eq 22, 22, 41, 0, 0, 0), (22, .aload_n 0, 23, 0, 0, 0, 0), (23, .iconst 0, 24, 0, 0, 0, 0), (24, .putfield 15, 27, 1, 74, 0, 0), (27, .aload_n 0, 28, 0, 0, 0, 0), (28, .aload_n 3, 29, 0, 0, 0, 0), (29, .iconst 0, 30, 0, 0, 0, 0), (30, .iload 4, 32, 0, 0, 0, 0), (32, .invokestatic 54, 35, 0, 232, 3, 0), (35, .putfield 9, 38, 0, 73, 0, 0), (38, .goto 59, 41, 97, 0, 0, 0), (41, .getstatic 38, 44, 0, 0, 0, 0), (44, .ifCond .eq 35, 47, 79, 0, 0, 0), (47, .aload_n 1, 48, 0, 0, 0, 0), (48, .getfield 1048, 51, 2, 71, 0, 0), (51, .ifCond .eq 28, 54, 79, 0, 0, 0), (54, .aload_n 0, 55, 0, 0, 0, 0), (55, .aload_n 3, 56, 0, 0, 0, 0), (56, .iconst 0, 57, 0, 0, 0, 0), (57, .iload 4, 59, 0, 0, 0, 0), (62, .putfield 9, 65, 0, 73, 0, 0), (65, .aload_n 0, 66, 0, 0, 0, 0), (66, .aload_n 0, 67, 0, 0, 0, 0), (67, .getfield 9, 70, 0, 73, 0, 0), (70, .iload 4, 72, 0, 0, 0, 0), (75, .putfield 15, 78, 1, 74, 0, 0), (78, .return_, 79, 0, 0, 0, 0), (79, .aload_n 0, 80, 0, 0, 0, 0), (80, .iconst 1, 81, 0, 0, 0, 0), (81, .putfield 15, 84, 1, 74, 0, 0), (84, .aload_n 0, 85, 0, 0, 0, 0), (85, .aload_n 3, 86, 0, 0, 0, 0), (86, .iconst 0, 87, 0, 0, 0, 0), (87, .iload 4, 89, 0, 0, 0, 0), (89, .iconst 1, 90, 0, 0, 0, 0), (90, .ishl, 91, 0, 0, 0, 0), (91, .invokestatic 54, 94, 0, 232, 3, 0), (94, .putfield 9, 97, 0, 73, 0, 0), (97, .return_, 98, 0, 0, 0, 0)]
def zc_J15_checkIndex_7cf53 : List zRow := [(0, .iload_n 0, 1, 0, 0, 0, 0), (1, .iload_n 1, 2, 0, 0, 0, 0), (2, .aconst_null, 3, 0, 0, 0, 0), (3, .invokestatic 105, 6, 0, 219, 3, 0), (6, .ireturn, 7, 0, 0, 0, 0)]
def zc_J1_canEncode_fc78d : List zRow := [(0, .iload_n 0, 1, 0, 0, 0, 0), (1, .sipush 255, 4, 0, 0, 0, 0), (4, .if_icmp .gt 7, 7, 11, 0, 0, 0), (7, .iconst 1, 8, 0, 0, 0, 0), (8, .goto 4, 11, 12, 0, 0, 0), (11, .iconst 0, 12, 0, 0, 0, 0), (12, .ireturn, 13, 1, 0, 0, 0)]
def zc_J3_checkIndex_8e157 : List zRow := [(0, .iload_n 0, 1, 0, 0, 0, 0), (1, .ifCond .lt 8, 4, 9, 0, 0, 0), (4, .iload_n 0, 5, 0, 0, 0, 0), (5, .iload_n 1, 6, 0, 0, 0, 0), (6, .if_icmp .lt 10, 9, 16, 0, 0, 0), (9, .aload_n 2, 10, 0, 0, 0, 0), (10, .iload_n 0, 11, 0, 0, 0, 0), (11, .iload_n 1, 12, 0, 0, 0, 0), (15, .athrow, 16, 0, 0, 0, 0), (16, .iload_n 0, 17, 0, 0, 0, 0), (17, .ireturn, 18, 0, 0, 0, 0)]
def zc_J4_append_cf468 : List zRow := [(0, .aload_n 0, 1, 0, 0, 0, 0), (1, .iload_n 1, 2, 0, 0, 0, 0), (2, .invokespecial 50, 5, 7, 223, 1, 8), (5, .pop, 6, 0, 0, 0, 0), (6, .aload_n 0, 7, 0, 0, 0, 0), (7, .areturn, 8, 0, 0, 0, 0)]
def zc_J4_init_da8c8 : List zRow := [(0, .aload_n 0, 1, 0, 0, 0, 0), (1, .bipush 16, 3, 0, 0, 0, 0), (3, .invokespecial 1, 6, 0, 226, 1, 0), (6, .return_, 7, 0, 0, 0, 0)]
def zc_J4_toString_0e30d : List zRow := [(0, .new 18, 3, 0, 0, 0, 9), (3, .dup, 4, 0, 0, 0, 0), (4, .aload_n 0, 5, 0, 0, 0, 0), (5, .invokespecial 137, 8, 0, 215, 1, 0), (8, .areturn, 9, 0, 0, 0, 0)]
def zc_J5_append_3fe6f : List zRow := [(0, .aload_n 0, 1, 0, 0, 0, 0), (1, .aload_n 0, 2, 0, 0, 0, 0), (2, .getfield 79, 5, 3, 72, 0, 0), (5, .iconst 1, 6, 0, 0, 0, 0), (6, .iadd, 7, 0, 0, 0, 0), (7, .invokevirtual 100, 10, 6, 224, 1, 8), (10, .aload_n 0, 11, 0, 0, 0, 0), (11, .invokevirtual 83, 14, 6, 227, 0, 8), (14, .ifCond .eq 31, 17, 45, 0, 0, 0), (17, .iload_n 1, 18, 0, 0, 0, 0), (18, .invokestatic 191, 21, 0, 218, 1, 0), (21, .ifCond .eq 24, 24, 45, 0, 0, 0), (24, .aload_n 0, 25, 0, 0, 0, 0), (25, .getfield 15, 28, 0, 69, 0, 0), (28, .aload_n 0, 29, 0, 0, 0, 0), (29, .dup, 30, 0, 0, 0, 0), (30, .getfield 79, 33, 3, 72, 0, 0), (33, .dup_x1, 34, 0, 0, 0, 0), (34, .iconst 1, 35, 0, 0, 0, 0), (35, .iadd, 36, 0, 0, 0, 0), (36, .putfield 79, 39, 3, 72, 0, 0), (39, .iload_n 1, 40, 0, 0, 0, 0), (40, .i2b, 41, 0, 0, 0, 0), (41, .bastore, 42, 102, 0, 0, 0), (42, .goto 33, 45, 75, 0, 0, 0), (45, .aload_n 0, 46, 0, 0, 0, 0), (46, .invokevirtual 83, 49, 6, 227, 0, 8), (49, .ifCond .eq 7, 52, 56, 0, 0, 0), (52, .aload_n 0, 53, 0, 0, 0, 0), (56, .aload_n 0, 57, 0, 0, 0, 0), (57, .getfield 15, 60, 0, 69, 0, 0), (60, .aload_n 0, 61, 0, 0, 0, 0), (61, .dup, 62, 0, 0, 0, 0), (62, .getfield 79, 65, 3, 72, 0, 0), (65, .dup_x1, 66, 0, 0, 0, 0), (66, .iconst 1, 67, 0, 0, 0, 0), (67, .iadd, 68, 0, 0, 0, 0), (68, .putfield 79, 71, 3, 72, 0, 0), (71, .iload_n 1, 72, 0, 0, 0, 0), (75, .aload_n 0, 76, 0, 0, 0, 0), (76, .areturn, 77, 0, 0, 0, 0)]
def zc_J5_ensureCapacityInternal_d00df : List zRow := [(0, .aload_n 0, 1, 0, 0, 0, 0), (1, .getfield 15, 4, 0, 69, 0, 0), (4, .arraylength, 5, 0, 0, 0, 0), (5, .aload_n 0, 6, 0, 0, 0, 0), (6, .getfield 22, 9, 1, 70, 0, 0), (9, .ishr, 10, 0, 0, 0, 0), (10, .istore_n 2, 11, 0, 0, 0, 0), (11, .iload_n 1, 12, 0, 0, 0, 0), (12, .iload_n 2, 13, 0, 0, 0, 0), (13, .isub, 14, 0, 0, 0, 0), (14, .ifCond .le 24, 17, 38, 0, 0, 0), (17, .aload_n 0, 18, 0, 0, 0, 0), (18, .aload_n 0, 19, 0, 0, 0, 0), (19, .getfield 15, 22, 0, 69, 0, 0), (22, .aload_n 0, 23, 0, 0, 0, 0), (23, .iload_n 1, 24, 0, 0, 0, 0), (27, .aload_n 0, 28, 0, 0, 0, 0), (28, .getfield 22, 31, 1, 70, 0, 0), (31, .ishl, 32, 0, 0, 0, 0), (35, .putfield 15, 38, 0, 69, 0, 0), (38, .return_, 39, 0, 0, 0, 0)]
def zc_J5_getValue_6d5f1 : List zRow := [(0, .aload_n 0, 1, 0, 0, 0, 0), (1, .getfield 15, 4, 0, 69, 0, 0), (4, .areturn, 5, 0, 0, 0, 0)]
def zc_J5_init_d00df : List zRow := [(0, .aload_n 0, 1, 0, 0, 0, 0), (1, .invokespecial 3, 4, 8, 0, 0, 0), (4, .getstatic 18, 7, 0, 0, 0, 0), (7, .ifCond .eq 18, 10, 25, 0, 0, 0), (10, .aload_n 0, 11, 0, 0, 0, 0), (11, .iload_n 1, 12, 0, 0, 0, 0), (12, .newarray .byte, 14, 0, 0, 0, 0), (14, .putfield 15, 17, 0, 69, 0, 0), (17, .aload_n 0, 18, 0, 0, 0, 0), (18, .iconst 0, 19, 0, 0, 0, 0), (19, .putfield 22, 22, 1, 70, 0, 0), (22, .goto 16, 25, 38, 0, 0, 0), (25, .aload_n 0, 26, 0, 0, 0, 0), (26, .iload_n 1, 27, 0, 0, 0, 0), (30, .putfield 15, 33, 0, 69, 0, 0), (33, .aload_n 0, 34, 0, 0, 0, 0), (34, .iconst 1, 35, 0, 0, 0, 0), (35, .putfield 22, 38, 1, 70, 0, 0), (38, .return_, 39, 0, 0, 0, 0)]
def zc_J5_isLatin1_aae02 : List zRow := [(0, .getstatic 18, 3, 0, 0, 0, 0), (3, .ifCond .eq 14, 6, 17, 0, 0, 0), (6, .aload_n 0, 7, 0, 0, 0, 0), (7, .getfield 22, 10, 1, 70, 0, 0), (10, .ifCond .ne 7, 13, 17, 0, 0, 0), (13, .iconst 1, 14, 0, 0, 0, 0), (14, .goto 4, 17, 18, 0, 0, 0), (17, .iconst 0, 18, 0, 0, 0, 0), (18, .ireturn, 19, 1, 0, 0, 0)]
def zc_J5_length_8abf5 : List zRow := [(0, .aload_n 0, 1, 0, 0, 0, 0), (1, .getfield 79, 4, 3, 72, 0, 0), (4, .ireturn, 5, 0, 0, 0, 0)]
def zc_J6_bitCount_0f7a4 : List zRow := [(0, .iload_n 0, 1, 0, 0, 0, 0), (1, .iload_n 0, 2, 0, 0, 0, 0), (2, .iconst 1, 3, 0, 0, 0, 0), (3, .iushr, 4, 0, 0, 0, 0), (4, .ldc_w 265, 7, 0, 1431655765, 0, 0), (7, .iand, 8, 0, 0, 0, 0), (8, .isub, 9, 0, 0, 0, 0), (9, .istore_n 0, 10, 0, 0, 0, 0), (10, .iload_n 0, 11, 0, 0, 0, 0), (11, .ldc_w 266, 14, 0, 858993459, 0, 0), (14, .iand, 15, 0, 0, 0, 0), (15, .iload_n 0, 16, 0, 0, 0, 0), (16, .iconst 2, 17, 0, 0, 0, 0), (17, .iushr, 18, 0, 0, 0, 0), (18, .ldc_w 266, 21, 0, 858993459, 0, 0), (21, .iand, 22, 0, 0, 0, 0), (22, .iadd, 23, 0, 0, 0, 0), (23, .istore_n 0, 24, 0, 0, 0, 0), (24, .iload_n 0, 25, 0, 0, 0, 0), (25, .iload_n 0, 26, 0, 0, 0, 0), (26, .iconst 4, 27, 0, 0, 0, 0), (27, .iushr, 28, 0, 0, 0, 0), (28, .iadd, 29, 0, 0, 0, 0), (29, .ldc_w 267, 32, 0, 252645135, 0, 0), (32, .iand, 33, 0, 0, 0, 0), (33, .istore_n 0, 34, 0, 0, 0, 0), (34, .iload_n 0, 35, 0, 0, 0, 0), (35, .iload_n 0, 36, 0, 0, 0, 0), (36, .bipush 8, 38, 0, 0, 0, 0), (38, .iushr, 39, 0, 0, 0, 0), (39, .iadd, 40, 0, 0, 0, 0), (40, .istore_n 0, 41, 0, 0, 0, 0), (41, .iload_n 0, 42, 0, 0, 0, 0), (42, .iload_n 0, 43, 0, 0, 0, 0), (43, .bipush 16, 45, 0, 0, 0, 0), (45, .iushr, 46, 0, 0, 0, 0), (46, .iadd, 47, 0, 0, 0, 0), (47, .istore_n 0, 48, 0, 0, 0, 0), (48, .iload_n 0, 49, 0, 0, 0, 0), (49, .bipush 63, 51, 0, 0, 0, 0), (51, .iand, 52, 0, 0, 0, 0), (52, .ireturn, 53, 0, 0, 0, 0)]
def zc_J7_checkLength_df160 : List zRow := [(0, .iload_n 1, 1, 0, 0, 0, 0), (1, .iload_n 0, 2, 0, 0, 0, 0), (2, .if_icmp .ge 35, 5, 37, 0, 0, 0), (8, .dup, 9, 0, 0, 0, 0), (9, .new 45, 12, 0, 0, 0, 8), (12, .dup, 13, 0, 0, 0, 0), (13, .invokespecial 47, 16, 0, 221, 0, 0), (16, .iload_n 0, 17, 0, 0, 0, 0), (26, .iload_n 1, 27, 0, 0, 0, 0), (30, .invokevirtual 61, 33, 0, 222, 0, 8), (36, .athrow, 37, 0, 0, 0, 0), (37, .return_, 38, 0, 0, 0, 0)]
def zc_J7_copyOfRangeByte_39247 : List zRow := [(0, .iload_n 1, 1, 0, 0, 0, 0), (1, .iload_n 2, 2, 0, 0, 0, 0), (2, .invokestatic 343, 5, 0, 230, 2, 0), (5, .iload_n 2, 6, 0, 0, 0, 0), (6, .iload_n 1, 7, 0, 0, 0, 0), (7, .isub, 8, 0, 0, 0, 0), (8, .istore_n 3, 9, 0, 0, 0, 0), (9, .iload_n 3, 10, 0, 0, 0, 0), (10, .newarray .byte, 12, 0, 0, 0, 0), (12, .astore 4, 14, 0, 0, 0, 0), (14, .aload_n 0, 15, 0, 0, 0, 0), (15, .iload_n 1, 16, 0, 0, 0, 0), (16, .aload 4, 18, 0, 0, 0, 0), (18, .iconst 0, 19, 0, 0, 0, 0), (19, .aload_n 0, 20, 0, 0, 0, 0), (20, .arraylength, 21, 0, 0, 0, 0), (21, .iload_n 1, 22, 0, 0, 0, 0), (22, .isub, 23, 0, 0, 0, 0), (23, .iload_n 3, 24, 0, 0, 0, 0), (24, .invokestatic 304, 27, 13, 0, 2, 0), (27, .invokestatic 150, 30, 10, 0, 5, 0), (30, .aload 4, 32, 0, 0, 0, 0), (32, .areturn, 33, 0, 0, 0, 0)]
def zc_J7_copyOfRange_39247 : List zRow := [(0, .iload_n 1, 1, 0, 0, 0, 0), (1, .ifCond .ne 9, 4, 10, 0, 0, 0), (4, .iload_n 2, 5, 0, 0, 0, 0), (5, .aload_n 0, 6, 0, 0, 0, 0), (6, .arraylength, 7, 0, 0, 0, 0), (7, .if_icmp .eq 10, 10, 17, 0, 0, 0), (10, .aload_n 0, 11, 0, 0, 0, 0), (11, .iload_n 1, 12, 0, 0, 0, 0), (12, .iload_n 2, 13, 0, 0, 0, 0), (13, .invokestatic 339, 16, 0, 231, 3, 0), (16, .areturn, 17, 0, 0, 0, 0), (17, .aload_n 0, 18, 0, 0, 0, 0), (24, .areturn, 25, 0, 0, 0, 0)]
def zc_J7_copyOf_1904c : List zRow := [(0, .aload_n 0, 1, 0, 0, 0, 0), (1, .iload_n 1, 2, 0, 0, 0, 0), (2, .aload_n 0, 3, 0, 0, 0, 0), (3, .invokevirtual 86, 6, 11, 0, 0, 0), (6, .invokestatic 300, 9, 0, 234, 3, 0), (9, .areturn, 10, 0, 0, 0, 0)]
def zc_J7_copyOf_6403c : List zRow := [(0, .aload_n 2, 1, 0, 0, 0, 0), (1, .ldc 110, 3, 2, 0, 0, 0), (3, .if_acmp .ne 10, 6, 13, 0, 0, 0), (6, .iload_n 1, 7, 0, 0, 0, 0), (7, .anewarray 2, 10, 0, 0, 0, 0), (10, .goto 14, 13, 24, 0, 0, 0), (13, .aload_n 2, 14, 0, 0, 0, 0), (17, .iload_n 1, 18, 0, 0, 0, 0), (21, .checkcast 110, 24, 103, 0, 0, 0), (24, .astore_n 3, 25, 0, 0, 0, 0), (25, .aload_n 0, 26, 0, 0, 0, 0), (26, .iconst 0, 27, 0, 0, 0, 0), (27, .aload_n 3, 28, 0, 0, 0, 0), (28, .iconst 0, 29, 0, 0, 0, 0), (29, .aload_n 0, 30, 0, 0, 0, 0), (30, .arraylength, 31, 0, 0, 0, 0), (31, .iload_n 1, 32, 0, 0, 0, 0), (32, .invokestatic 304, 35, 13, 0, 2, 0), (35, .invokestatic 150, 38, 10, 0, 5, 0), (38, .aload_n 3, 39, 0, 0, 0, 0), (39, .areturn, 40, 0, 0, 0, 0)]
def zc_J8_newLength_cabcc : List zRow := [(0, .iload_n 0, 1, 0, 0, 0, 0), (1, .iload_n 1, 2, 0, 0, 0, 0), (2, .iload_n 2, 3, 0, 0, 0, 0), (3, .invokestatic 194, 6, 12, 0, 2, 0), (6, .iadd, 7, 0, 0, 0, 0), (7, .istore_n 3, 8, 0, 0, 0, 0), (8, .iconst 0, 9, 0, 0, 0, 0), (9, .iload_n 3, 10, 0, 0, 0, 0), (10, .if_icmp .ge 11, 13, 21, 0, 0, 0), (13, .iload_n 3, 14, 0, 0, 0, 0), (14, .ldc 200, 16, 0, 2147483639, 0, 0), (16, .if_icmp .gt 5, 19, 21, 0, 0, 0), (19, .iload_n 3, 20, 0, 0, 0, 0), (20, .ireturn, 21, 0, 0, 0, 0), (21, .iload_n 0, 22, 0, 0, 0, 0), (22, .iload_n 1, 23, 0, 0, 0, 0), (26, .ireturn, 27, 0, 0, 0, 0)]
def zc_Jx4a65c_add_72be8 : List zRow := [(0, .iload_n 3, 1, 0, 0, 0, 0), (1, .aload_n 2, 2, 0, 0, 0, 0), (2, .arraylength, 3, 0, 0, 0, 0), (3, .if_icmp .ne 8, 6, 11, 0, 0, 0), (6, .aload_n 0, 7, 0, 0, 0, 0), (7, .invokevirtual 129, 10, 0, 241, 0, 10), (10, .astore_n 2, 11, 0, 0, 0, 0), (11, .aload_n 2, 12, 0, 0, 0, 0), (12, .iload_n 3, 13, 0, 0, 0, 0), (13, .aload_n 1, 14, 0, 0, 0, 0), (14, .aastore, 15, 0, 0, 0, 0), (15, .aload_n 0, 16, 0, 0, 0, 0), (16, .iload_n 3, 17, 0, 0, 0, 0), (17, .iconst 1, 18, 0, 0, 0, 0), (18, .iadd, 19, 0, 0, 0, 0), (19, .putfield 48, 22, 2, 79, 0, 0), (22, .return_, 23, 0, 0, 0, 0)]
def zc_Jx4a65c_add_9ea2d : List zRow := [(0, .aload_n 0, 1, 0, 0, 0, 0), (1, .dup, 2, 0, 0, 0, 0), (2, .getfield 63, 5, 0, 77, 0, 0), (5, .iconst 1, 6, 0, 0, 0, 0), (6, .iadd, 7, 0, 0, 0, 0), (7, .putfield 63, 10, 0, 77, 0, 0), (10, .aload_n 0, 11, 0, 0, 0, 0), (11, .aload_n 1, 12, 0, 0, 0, 0), (12, .aload_n 0, 13, 0, 0, 0, 0), (13, .getfield 9, 16, 1, 78, 0, 0), (16, .aload_n 0, 17, 0, 0, 0, 0), (17, .getfield 48, 20, 2, 79, 0, 0), (20, .invokevirtual 131, 23, 0, 236, 3, 10), (23, .iconst 1, 24, 0, 0, 0, 0), (24, .ireturn, 25, 1, 0, 0, 0)]
def zc_Jx4a65c_elementData_915e3 : List zRow := [(0, .aload_n 0, 1, 0, 0, 0, 0), (1, .getfield 9, 4, 1, 78, 0, 0), (4, .iload_n 1, 5, 0, 0, 0, 0), (5, .aaload, 6, 0, 0, 0, 0), (6, .areturn, 7, 0, 0, 0, 0)]
def zc_Jx4a65c_get_915e3 : List zRow := [(0, .iload_n 1, 1, 0, 0, 0, 0), (1, .aload_n 0, 2, 0, 0, 0, 0), (2, .getfield 48, 5, 2, 79, 0, 0), (5, .invokestatic 118, 8, 0, 217, 2, 0), (8, .pop, 9, 0, 0, 0, 0), (9, .aload_n 0, 10, 0, 0, 0, 0), (10, .iload_n 1, 11, 0, 0, 0, 0), (11, .invokevirtual 123, 14, 0, 238, 1, 10), (14, .areturn, 15, 0, 0, 0, 0)]
def zc_Jx4a65c_grow_92f84 : List zRow := [(0, .aload_n 0, 1, 0, 0, 0, 0), (1, .getfield 9, 4, 1, 78, 0, 0), (4, .arraylength, 5, 0, 0, 0, 0), (5, .istore_n 2, 6, 0, 0, 0, 0), (6, .iload_n 2, 7, 0, 0, 0, 0), (7, .ifCond .gt 13, 10, 20, 0, 0, 0), (10, .aload_n 0, 11, 0, 0, 0, 0), (11, .getfield 9, 14, 1, 78, 0, 0), (14, .getstatic 39, 17, 1, 0, 0, 0), (17, .if_acmp .eq 28, 20, 45, 0, 0, 0), (20, .iload_n 2, 21, 0, 0, 0, 0), (21, .iload_n 1, 22, 0, 0, 0, 0), (22, .iload_n 2, 23, 0, 0, 0, 0), (23, .isub, 24, 0, 0, 0, 0), (24, .iload_n 2, 25, 0, 0, 0, 0), (25, .iconst 1, 26, 0, 0, 0, 0), (26, .ishr, 27, 0, 0, 0, 0), (27, .invokestatic 73, 30, 0, 235, 3, 0), (30, .istore_n 3, 31, 0, 0, 0, 0), (31, .aload_n 0, 32, 0, 0, 0, 0), (32, .aload_n 0, 33, 0, 0, 0, 0), (33, .getfield 9, 36, 1, 78, 0, 0), (36, .iload_n 3, 37, 0, 0, 0, 0), (37, .invokestatic 66, 40, 0, 233, 2, 0), (40, .dup_x1, 41, 0, 0, 0, 0), (41, .putfield 9, 44, 1, 78, 0, 0), (44, .areturn, 45, 0, 0, 0, 0), (45, .aload_n 0, 46, 0, 0, 0, 0), (46, .bipush 10, 48, 0, 0, 0, 0), (48, .iload_n 1, 49, 0, 0, 0, 0), (49, .invokestatic 79, 52, 12, 0, 2, 0), (52, .anewarray 7, 55, 0, 0, 0, 0), (55, .dup_x1, 56, 0, 0, 0, 0), (56, .putfield 9, 59, 1, 78, 0, 0), (59, .areturn, 60, 0, 0, 0, 0)]
def zc_Jx4a65c_grow_d5877 : List zRow := [(0, .aload_n 0, 1, 0, 0, 0, 0), (1, .aload_n 0, 2, 0, 0, 0, 0), (2, .getfield 48, 5, 2, 79, 0, 0), (5, .iconst 1, 6, 0, 0, 0, 0), (6, .iadd, 7, 0, 0, 0, 0), (7, .invokevirtual 69, 10, 0, 240, 1, 10), (10, .areturn, 11, 0, 0, 0, 0)]
def zc_Jx4a65c_init_da8c8 : List zRow := [(0, .aload_n 0, 1, 0, 0, 0, 0), (1, .invokespecial 1, 4, 0, 245, 0, 0), (4, .aload_n 0, 5, 0, 0, 0, 0), (5, .getstatic 39, 8, 1, 0, 0, 0), (8, .putfield 9, 11, 1, 78, 0, 0), (11, .return_, 12, 0, 0, 0, 0)]
def zc_Jx4a65c_size_8abf5 : List zRow := [(0, .aload_n 0, 1, 0, 0, 0, 0), (1, .getfield 48, 4, 2, 79, 0, 0), (4, .ireturn, 5, 0, 0, 0, 0)]
def zc_Jxa1e45_init_da8c8 : List zRow := [(0, .aload_n 0, 1, 0, 0, 0, 0), (1, .invokespecial 1, 4, 8, 0, 0, 0), (4, .return_, 5, 0, 0, 0, 0)]
def zc_Jxc12de_init_da8c8 : List zRow := [(0, .aload_n 0, 1, 0, 0, 0, 0), (1, .invokespecial 1, 4, 0, 244, 0, 0), (4, .aload_n 0, 5, 0, 0, 0, 0), (5, .iconst 0, 6, 0, 0, 0, 0), (6, .putfield 7, 9, 0, 77, 0, 0), (9, .return_, 10, 0, 0, 0, 0)]
def zc_J4_length_8abf5 : List zRow := [(0, .aload_n 0, 1, 0, 0, 0, 0), (1, .invokespecial 343, 4, 7, 228, 0, 8), (4, .ireturn, 5, 0, 0, 0, 0)]
def zmc (y : Nat) : List zRow := ([zc_X0_init, zc_X0_isDataColumn, zc_X0_dataColumnsOf, zc_X0_make, zc_X0_makeDataColumns, zc_X0_words, zc_X0_dataMask, zc_X0_hasBit, zc_X0_syndromeOf, zc_X0_turnOf, zc_X0_isClean, zc_X0_verdictOf, zc_X0_bitOf, zc_X0_dataOf, zc_X0_wordOf, zc_X0_wronglyMended, zc_X0_thirdBits, zc_X0_oneIfMended, zc_X0_isInOrder, zc_X1_init, zc_X1_isFull, zc_X1_add, zc_X1_keepBitsBelow, zc_X1_countIn, zc_X2_init, zc_X2_get, zc_X2_set, zc_X2_fill, zc_X2_sum, zc_X3_init, zc_X3_empty, zc_X3_add, zc_X3_guiltyOf, zc_X3_isGuilty, zc_X3_suspectOf, zc_X3_guiltyCell, zc_X3_isToldAgain, zc_X3_isMendedIn, zc_X3_isInOrder, zc_X4_init, zc_X4_wipe, zc_X4_put, zc_X4_asStuck, zc_X4_open, zc_X4_turnDrawnBit, zc_X4_draw, zc_X4_beginTick, zc_X4_isRefreshedAt, zc_X4_leaksWithin, zc_X4_isLeakable, zc_X4_isOverWithin, zc_X4_isInOrder, zc_X5_init, zc_X5_code, zc_X5_write, zc_X5_read, zc_X5_ray, zc_X5_stick, zc_X5_weak, zc_X5_hammer, zc_X5_run, zc_X5_spare, zc_X5_retire, zc_X5_pass, zc_X5_clear, zc_X5_call, zc_X5_column, zc_X5_encode, zc_X5_decode, zc_X5_fooled, zc_X5_ofWord, zc_X5_ofLine, zc_X5_ofEntry, zc_X5_blame, zc_X5_board, zc_X5_health, zc_X5_tell, zc_X5_wouldRead, zc_X5_wouldSpare, zc_X5_wouldLeak, zc_X5_isSound, zc_X5_digest, zc_X5_checkAddress, zc_X5_checkBank, zc_X5_checkRow, zc_X5_checkTicks, zc_X5_checkData, zc_X5_checkNotRetired, zc_X5_firstAddress, zc_X5_twinOf, zc_X5_lineAt, zc_X5_cellAt, zc_X5_wordAt, zc_X5_rowOn, zc_X5_rowsHaveOwnLines, zc_X5_isPoisoned, zc_X5_isRetired, zc_X5_dataAt, zc_X5_signOf, zc_X5_stuckIn, zc_X5_uncleanIn, zc_X5_store, zc_X5_replace, zc_X5_report, zc_X5_readTwin, zc_X5_scrubSteps, zc_X5_moveRow, zc_X5_mix, zc_X5_mixBank, zc_X6_init, zc_X7_init, zc_X7_no, zc_X7_in, zc_X7_has, zc_X7_weight, zc_X7_dataColumns, zc_X7_columnsOf, zc_X7_bits, zc_X7_syndrome, zc_X7_encoded, zc_X7_bitOf, zc_X7_kind, zc_X7_mended, zc_X7_dataOf, zc_X7_lineOf, zc_X7_wordAt, zc_X7_put, zc_X7_putAt, zc_X7_draw, zc_X7_open, zc_X7_note, zc_X7_mirror, zc_X7_writeAt, zc_X7_take, zc_X7_readAt, zc_X7_leak, zc_X7_patrol, zc_X7_tick, zc_X7_isAddress, zc_X7_code, zc_X7_write, zc_X7_read, zc_X7_ray, zc_X7_stick, zc_X7_weak, zc_X7_hammer, zc_X7_run, zc_X7_spare, zc_X7_retire, zc_X7_many, zc_X7_pass, zc_X7_clear, zc_X7_call, zc_X7_column, zc_X7_encode, zc_X7_decode, zc_X7_fooledNow, zc_X7_fooled, zc_X7_cells, zc_X7_wordNow, zc_X7_ofWord, zc_X7_unclean, zc_X7_rowOf, zc_X7_lineNow, zc_X7_ofLine, zc_X7_ofEntry, zc_X7_isMended, zc_X7_spread, zc_X7_twice, zc_X7_blameNow, zc_X7_blame, zc_X7_boardNow, zc_X7_board, zc_X7_healthNow, zc_X7_health, zc_X7_tell, zc_X7_wouldTell, zc_X7_wouldReadNow, zc_X7_wouldRead, zc_X7_wouldSpareNow, zc_X7_wouldSpare, zc_X7_isStuck, zc_X7_wouldLeak, zc_X7_wouldLeakNow, zc_X7_areOne, zc_X7_wouldLeak_, zc_X7_isSoundNow, zc_X7_isSound, zc_X7_digest, zc_L_code, zc_L_write, zc_L_read, zc_L_ray, zc_L_stick, zc_L_weak, zc_L_hammer, zc_L_run, zc_L_spare, zc_L_retire, zc_L_pass, zc_L_column, zc_L_encode, zc_L_decode, zc_L_fooled, zc_L_ofWord, zc_L_ofLine, zc_L_ofEntry, zc_L_blame, zc_L_board, zc_L_health, zc_L_tell, zc_L_wouldRead, zc_L_wouldSpare, zc_L_wouldLeak, zc_L_law, zc_J0_init_81219, zc_J0_init_db425, zc_J15_checkIndex_7cf53, zc_J1_canEncode_fc78d, zc_J3_checkIndex_8e157, zc_J4_append_cf468, zc_J4_init_da8c8, zc_J4_toString_0e30d, zc_J5_append_3fe6f, zc_J5_ensureCapacityInternal_d00df, zc_J5_getValue_6d5f1, zc_J5_init_d00df, zc_J5_isLatin1_aae02, zc_J5_length_8abf5, zc_J6_bitCount_0f7a4, zc_J7_checkLength_df160, zc_J7_copyOfRangeByte_39247, zc_J7_copyOfRange_39247, zc_J7_copyOf_1904c, zc_J7_copyOf_6403c, zc_J8_newLength_cabcc, zc_Jx4a65c_add_72be8, zc_Jx4a65c_add_9ea2d, zc_Jx4a65c_elementData_915e3, zc_Jx4a65c_get_915e3, zc_Jx4a65c_grow_92f84, zc_Jx4a65c_grow_d5877, zc_Jx4a65c_init_da8c8, zc_Jx4a65c_size_8abf5, zc_Jxa1e45_init_da8c8, zc_Jxc12de_init_da8c8, zc_J4_length_8abf5] : List (List zRow)).getD y []
end zg8
