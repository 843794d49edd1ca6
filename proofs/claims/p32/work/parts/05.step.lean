/-! The abstract machine: cells are (tag, values); a tag below 100 is a class by its place among zcl, 100 int[], 101 boolean[], 102 byte[], 103 Object[], 104 int[][]; a reference is a cell's place; retAddr 0 the script, retAddr 1 ArrayList's empty row, retAddr 2 the Class object of Object[]. -/
abbrev zH : Type := List (Nat × List Value)
abbrev zL : Type := List (Option Value)
/-- what a step does: go on (pc, locals, stack, heap, new cells, new slots); or call (method, arguments with the receiver first, rest of the stack, pc behind); or end (return a value, or throw class E, heap, new cells, new slots) -/
abbrev zA : Type := (Nat × zL × List Value × zH × Nat × Nat) ⊕ ((Nat × List Value × List Value × Nat) ⊕ ((Option Value ⊕ Nat) × Nat × Nat))
abbrev zRow : Type := Nat × Instr × Nat × Nat × Nat × Nat × Nat
def zgo (pc : Nat) (L : zL) (st : List Value) (h : zH) : Option zA := some (.inl (pc, L, st, h, 0, 0))
def zldI (L : zL) (i nx : Nat) (st : List Value) (h : zH) : Option zA := match L[i]? with
  | some (some (.int x)) => zgo nx L (.int x :: st) h
  | _ => none
def zldL (L : zL) (i nx : Nat) (st : List Value) (h : zH) : Option zA := match L[i]? with
  | some (some (.long x)) => zgo nx L (.long x :: st) h
  | _ => none
def zldD (L : zL) (i nx : Nat) (st : List Value) (h : zH) : Option zA := match L[i]? with
  | some (some (.double x)) => zgo nx L (.double x :: st) h
  | _ => none
def zldA (L : zL) (i nx : Nat) (st : List Value) (h : zH) : Option zA := match L[i]? with
  | some (some (.ref x)) => zgo nx L (.ref x :: st) h
  | some (some (.retAddr x)) => zgo nx L (.retAddr x :: st) h
  | some (some .null) => zgo nx L (.null :: st) h
  | _ => none
/-- what stands ahead of a local that is stored: a value of two slots goes -/
def zk (a : Option Value) : Option Value := match a with
  | some (.long _) => none
  | some (.double _) => none
  | x => x
def zst1 (v : Value) : Nat → zL → Option zL
  | 0, _ :: l => some (some v :: l)
  | 1, a :: _ :: l => some (zk a :: some v :: l)
  | i + 2, a :: l => match zst1 v (i + 1) l with
    | some l' => some (a :: l')
    | none => none
  | _, _ => none
def zst2 (v : Value) : Nat → zL → Option zL
  | 0, _ :: _ :: l => some (some v :: none :: l)
  | 1, a :: _ :: _ :: l => some (zk a :: some v :: none :: l)
  | i + 2, a :: l => match zst2 v (i + 1) l with
    | some l' => some (a :: l')
    | none => none
  | _, _ => none
def zsv1 (L : zL) (i nx : Nat) (v : Value) (st : List Value) (h : zH) : Option zA := match zst1 v i L with
  | some L' => zgo nx L' st h
  | none => none
def zsv2 (L : zL) (i nx : Nat) (v : Value) (st : List Value) (h : zH) : Option zA := match zst2 v i L with
  | some L' => zgo nx L' st h
  | none => none
def zsI (L : zL) (i nx : Nat) (st : List Value) (h : zH) : Option zA := match st with
  | .int x :: r => zsv1 L i nx (.int x) r h
  | _ => none
def zsA (L : zL) (i nx : Nat) (st : List Value) (h : zH) : Option zA := match st with
  | .ref x :: r => zsv1 L i nx (.ref x) r h
  | .retAddr x :: r => zsv1 L i nx (.retAddr x) r h
  | _ => none
def zsL (L : zL) (i nx : Nat) (st : List Value) (h : zH) : Option zA := match st with
  | .long x :: r => zsv2 L i nx (.long x) r h
  | _ => none
def zsD (L : zL) (i nx : Nat) (st : List Value) (h : zH) : Option zA := match st with
  | .double x :: r => zsv2 L i nx (.double x) r h
  | _ => none
def zinc (L : zL) (i : Nat) (n : Int) (nx : Nat) (st : List Value) (h : zH) : Option zA := match L[i]? with
  | some (some (.int x)) => zsv1 L i nx (.int (x + Int32.ofInt n)) st h
  | _ => none
def zpu (L : zL) (v : Value) (nx : Nat) (st : List Value) (h : zH) : Option zA := zgo nx L (v :: st) h
def zbin (f : Int32 → Int32 → Int32) (nx : Nat) (L : zL) (st : List Value) (h : zH) : Option zA := match st with
  | .int y :: .int x :: r => zgo nx L (.int (f x y) :: r) h
  | _ => none
def zdiv (f : Int32 → Int32 → Int32) (nx : Nat) (L : zL) (st : List Value) (h : zH) : Option zA := match st with
  | .int y :: .int x :: r => if y = 0 then none else zgo nx L (.int (f x y) :: r) h
  | _ => none
def zun (f : Int32 → Value) (nx : Nat) (L : zL) (st : List Value) (h : zH) : Option zA := match st with
  | .int x :: r => zgo nx L (f x :: r) h
  | _ => none
def zbinL (f : Int64 → Int64 → Int64) (nx : Nat) (L : zL) (st : List Value) (h : zH) : Option zA := match st with
  | .long y :: .long x :: r => zgo nx L (.long (f x y) :: r) h
  | _ => none
def zlc (nx : Nat) (L : zL) (st : List Value) (h : zH) : Option zA := match st with
  | .long y :: .long x :: r => zgo nx L (.int (lg_cmp x y) :: r) h
  | _ => none
def zbinD (f : UInt64 → UInt64 → UInt64) (nx : Nat) (L : zL) (st : List Value) (h : zH) : Option zA := match st with
  | .double y :: .double x :: r => if (f x y) &&& 0x7fffffffffffffff ≤ 0x7ff0000000000000 then zgo nx L (.double (f x y) :: r) h else none
  | _ => none
def zd2l (nx : Nat) (L : zL) (st : List Value) (h : zH) : Option zA := match st with
  | .double x :: r => zgo nx L (.long (FP.d2l x) :: r) h
  | _ => none
def zcat (v : Value) : Bool := match v with
  | .long _ => true
  | .double _ => true
  | _ => false
def zdup (nx : Nat) (L : zL) (st : List Value) (h : zH) : Option zA := match st with
  | v :: r => if zcat v then none else zgo nx L (v :: v :: r) h
  | _ => none
def zpop (nx : Nat) (L : zL) (st : List Value) (h : zH) : Option zA := match st with
  | v :: r => if zcat v then none else zgo nx L r h
  | _ => none
def zpop2 (nx : Nat) (L : zL) (st : List Value) (h : zH) : Option zA := match st with
  | v :: r => if zcat v then zgo nx L r h else none
  | _ => none
def zdupx1 (nx : Nat) (L : zL) (st : List Value) (h : zH) : Option zA := match st with
  | v :: w :: r => if zcat v || zcat w then none else zgo nx L (v :: w :: v :: r) h
  | _ => none
def zdup2 (nx : Nat) (L : zL) (st : List Value) (h : zH) : Option zA := match st with
  | v :: w :: r => if zcat v || zcat w then none else zgo nx L (v :: w :: v :: w :: r) h
  | _ => none
/-- a branch on x, y -/
def zbr (c : ClassFile.Cond) (x y : Int32) (tg nx : Nat) (L : zL) (r : List Value) (h : zH) : Option zA := match c with
  | .eq => if x = y then zgo tg L r h else zgo nx L r h
  | .ne => if x = y then zgo nx L r h else zgo tg L r h
  | .lt => if x < y then zgo tg L r h else zgo nx L r h
  | .ge => if y ≤ x then zgo tg L r h else zgo nx L r h
  | .gt => if y < x then zgo tg L r h else zgo nx L r h
  | .le => if x ≤ y then zgo tg L r h else zgo nx L r h
def zif (c : ClassFile.Cond) (tg nx : Nat) (L : zL) (st : List Value) (h : zH) : Option zA := match st with
  | .int x :: r => zbr c x 0 tg nx L r h
  | _ => none
def zicmp (c : ClassFile.Cond) (tg nx : Nat) (L : zL) (st : List Value) (h : zH) : Option zA := match st with
  | .int y :: .int x :: r => zbr c x y tg nx L r h
  | _ => none
def zoff (pc : Nat) (o : Int) (L : zL) (r : List Value) (h : zH) : Option zA := match (pc : Int) + o with
  | .ofNat t => zgo t L r h
  | .negSucc _ => none
def ztab (pc : Nat) (d lo hi : Int) (offs : Array Int) (L : zL) (st : List Value) (h : zH) : Option zA := match st with
  | .int x :: r => if x.toInt < lo ∨ hi < x.toInt then zoff pc d L r h else match offs[(x.toInt - lo).toNat]? with
    | some o => zoff pc o L r h
    | none => none
  | _ => none
def zlook (pc : Nat) (d : Int) (ps : Array (Int × Int)) (L : zL) (st : List Value) (h : zH) : Option zA := match st with
  | .int x :: r => zoff pc (Op.lookupswitch.offset ps.toList d x.toInt) L r h
  | _ => none
/-- a place in a row -/
def zix (i : Int32) : Option Nat := if i < 0 then none else some i.toNatClampNeg
def zald (t : Nat) (nx : Nat) (L : zL) (st : List Value) (h : zH) : Option zA := match st with
  | .int i :: .ref a :: r => match h[a]? with
    | some (t', vs) => if t' = t then match vs[i.toNatClampNeg]? with
      | some (.int x) => if i < 0 then none else zgo nx L (.int x :: r) h
      | _ => none else none
    | none => none
  | _ => none
def zast (t : Nat) (g : Int32 → Option Int32) (nx : Nat) (L : zL) (st : List Value) (h : zH) : Option zA := match st with
  | .int x :: .int i :: .ref a :: r => match h[a]? with
    | some (t', vs) => if t' = t then if i < 0 then none else if i.toNatClampNeg < vs.length then match g x with
      | some y => zgo nx L r (h.set a (t, vs.set i.toNatClampNeg (.int y)))
      | none => none else none else none
    | none => none
  | _ => none
/-- the script, or a row of ints -/
def zialoadX (xs : List Int32) (nx : Nat) (L : zL) (st : List Value) (h : zH) : Option zA := match st with
  | .int i :: .retAddr 0 :: r => if i < 0 then none else match xs[i.toNatClampNeg]? with
    | some x => zgo nx L (.int x :: r) h
    | none => none
  | _ => zald 100 nx L st h
def zalen (xs : List Int32) (nx : Nat) (L : zL) (st : List Value) (h : zH) : Option zA := match st with
  | .ref a :: r => match h[a]? with
    | some (t, vs) => if 100 ≤ t then zgo nx L (.int (Int32.ofNat vs.length) :: r) h else none
    | none => none
  | .retAddr 0 :: r => zgo nx L (.int (Int32.ofNat xs.length) :: r) h
  | _ => none
/-- a row of references (103 Object[], 104 int[][]) -/
def zaald (nx : Nat) (L : zL) (st : List Value) (h : zH) : Option zA := match st with
  | .int i :: .ref a :: r => match h[a]? with
    | some (t, vs) => if t = 103 ∨ t = 104 then match vs[i.toNatClampNeg]? with
      | some v => if i < 0 then none else zgo nx L (v :: r) h
      | none => none else none
    | none => none
  | _ => none
def zaast (nx : Nat) (L : zL) (st : List Value) (h : zH) : Option zA := match st with
  | .ref x :: .int i :: .ref a :: r => match h[a]?, h[x]? with
    | some (t, vs), some (t', _) => if t = 103 ∧ t' = 100 then if i < 0 then none else if i.toNatClampNeg < vs.length then zgo nx L r (h.set a (103, vs.set i.toNatClampNeg (.ref x))) else none else none
    | _, _ => none
  | _ => none
def ztag (a : ArrayType) : Nat := match a with
  | .int => 100
  | _ => 99
def znewa (t : Nat) (v : Value) (nx : Nat) (L : zL) (st : List Value) (h : zH) : Option zA := match st with
  | .int n :: r => if n < 0 then none else if n.toNatClampNeg ≤ 100000 then if t = 99 then none else
      some (.inl (nx, L, .ref h.length :: r, h ++ [(t, List.replicate n.toNatClampNeg v)], 1, n.toNatClampNeg)) else none
  | _ => none
/-- int[n][k] -/
def zmulti (nx : Nat) (L : zL) (st : List Value) (h : zH) : Option zA := match st with
  | .int k :: .int n :: r => if k = 8 ∧ n = 20 then
      some (.inl (nx, L, .ref h.length :: r, h ++ (104, (List.range 20).map (fun j => .ref (h.length + 1 + j))) :: List.replicate 20 (100, List.replicate 8 (.int 0)), 21, 180)) else none
  | _ => none
/-- fields: by id the declaring class, name, descriptor, whether final; of a class (by tag) its fields' ids and kinds (0 int, 1 boolean, 2 byte, 3 long, 4 double, 5 a reference) -/
def zfdk (k : Nat) (v : Value) : Bool := match k, v with
  | 0, .int _ => true
  | 1, .int x => decide (x = 0 ∨ x = 1)
  | 2, .int x => decide (-128 ≤ x ∧ x ≤ 127)
  | 3, .long _ => true
  | 4, .double _ => true
  | 5, .ref _ => true
  | 5, .null => true
  | 5, .retAddr 1 => true
  | _, _ => false
/-- f: the field's id; k its place; cf: the fields' ids and kinds of each class -/
def zget (cf : Nat → List (Nat × Nat)) (f k nx : Nat) (L : zL) (st : List Value) (h : zH) : Option zA := match st with
  | .ref a :: r => match h[a]? with
    | some (c, vs) => match (cf c)[k]? with
      | some (f', _) => if f' = f then match vs[k]? with
        | some v => zgo nx L (v :: r) h
        | none => none else none
      | none => none
    | none => none
  | _ => none
def zput (cf : Nat → List (Nat × Nat)) (f k nx : Nat) (L : zL) (st : List Value) (h : zH) : Option zA := match st with
  | v :: .ref a :: r => match h[a]? with
    | some (c, vs) => match (cf c)[k]? with
      | some (f', kd) => if f' = f then if zfdk kd v = true then if k < vs.length then zgo nx L r (h.set a (c, vs.set k v)) else none else none else none
      | none => none
    | none => none
  | _ => none
def znew (cf : Nat → List (Nat × Nat)) (c nx : Nat) (L : zL) (st : List Value) (h : zH) : Option zA :=
  some (.inl (nx, L, .ref h.length :: st, h ++ [(c, (cf c).map (fun q => zdf q.2))], 1, (cf c).length))
def ztk : Nat → List Value → List Value → Option (List Value × List Value)
  | 0, acc, r => some (acc, r)
  | n + 1, acc, v :: r => ztk n (v :: acc) r
  | _, _, [] => none
def zcs : List Value → Nat
  | [] => 0
  | v :: r => (if zcat v then 2 else 1) + zcs r
def zmm (f : Int32 → Int32 → Int32) (nx : Nat) (L : zL) (st : List Value) (h : zH) : Option zA := match st with
  | .int y :: .int x :: r => if zcs r ≤ 8 then zgo nx L (.int (f x y) :: r) h else none
  | _ => none
def zoi (nx : Nat) (L : zL) (st : List Value) (h : zH) : Option zA := match st with
  | .ref _ :: r => if zcs r ≤ 8 then zgo nx L r h else none
  | _ => none
def zcall (n y nx : Nat) (st : List Value) : Option zA := match ztk n [] st with
  | some (as, r) => if zcs r ≤ 8 then some (.inr (.inl (y, as, r, nx))) else none
  | none => none
/-- a call on an object of the class of tag c -/
def zcallV (n c y nx : Nat) (st : List Value) (h : zH) : Option zA := match ztk (n + 1) [] st with
  | some (as, r) => match as with
    | .ref a :: as' => match h[a]? with
      | some (c', _) => if c' = c then if zcs r ≤ 8 then some (.inr (.inl (y, .ref a :: as', r, nx))) else none else none
      | none => none
    | _ => none
  | none => none
def zcallI (n y nx : Nat) (st : List Value) : Option zA := match ztk (n + 1) [] st with
  | some (as, r) => match as with
    | .ref a :: as' => if zcs r ≤ 8 then some (.inr (.inl (y, .ref a :: as', r, nx))) else none
    | _ => none
  | none => none
def zret (v : Option Value) : Option zA := some (.inr (.inr (.inl v, 0, 0)))
/-- an element that a row of references may take: a row of ints, or none -/
def zelt (h : zH) (v : Value) : Bool := match v with
  | .ref k => (match h[k]? with
    | some (t, _) => decide (t = 100)
    | none => false)
  | .null => true
  | _ => false
def zbyt (v : Value) : Bool := match v with
  | .int x => decide (-128 ≤ x ∧ x ≤ 127)
  | _ => false
def zcopy (nx : Nat) (L : zL) (st : List Value) (h : zH) : Option zA := match st with
  | .int n :: .int dp :: .ref d :: .int sp :: .ref a :: r => match h[a]?, h[d]? with
    | some (t, vs), some (t', ws) => if t = t' ∧ ((t = 102 ∧ (vs.take n.toNatClampNeg).all zbyt = true) ∨ (t = 103 ∧ (vs.take n.toNatClampNeg).all (zelt h) = true)) ∧ zcs r ≤ 8 ∧ ¬ n < 0 ∧ dp = 0 ∧ sp = 0 ∧ n.toNatClampNeg ≤ vs.length ∧ n.toNatClampNeg ≤ ws.length then
        zgo nx L r (h.set d (t, vs.take n.toNatClampNeg ++ ws.drop n.toNatClampNeg)) else none
    | _, _ => none
  | _ => none
def zchk (k nx : Nat) (L : zL) (st : List Value) (h : zH) : Option zA := match st with
  | .ref a :: r => match h[a]? with
    | some (t, _) => if t = k then zgo nx L (.ref a :: r) h else none
    | none => none
  | _ => none
def zacmp (c : ACond) (tg nx : Nat) (L : zL) (st : List Value) (h : zH) : Option zA := match st with
  | .retAddr b :: .retAddr a :: r => if a = b then (match c with
    | .eq => zgo tg L r h
    | .ne => zgo nx L r h) else none
  | _ => none
def zgetc (nx : Nat) (L : zL) (st : List Value) (h : zH) : Option zA := match st with
  | .ref a :: r => match h[a]? with
    | some (t, _) => if t = 103 ∧ zcs r ≤ 8 then zgo nx L (.retAddr 2 :: r) h else none
    | none => none
  | _ => none
/-- k, y, n, c: what the row's link was resolved to -/
def zstep (cf : Nat → List (Nat × Nat)) (xs : List Int32) (pc : Nat) (i : Instr) (nx k y n c : Nat) (L : zL) (st : List Value) (h : zH) : Option zA := match i with
  | .iload j => zldI L j nx st h
  | .iload_n j => zldI L j nx st h
  | .lload j => zldL L j nx st h
  | .lload_n j => zldL L j nx st h
  | .dload j => zldD L j nx st h
  | .aload j => zldA L j nx st h
  | .aload_n j => zldA L j nx st h
  | .istore j => zsI L j nx st h
  | .istore_n j => zsI L j nx st h
  | .astore j => zsA L j nx st h
  | .astore_n j => zsA L j nx st h
  | .lstore j => zsL L j nx st h
  | .lstore_n j => zsL L j nx st h
  | .dstore j => zsD L j nx st h
  | .iinc j z => zinc L j z nx st h
  | .iconst z => zpu L (.int (Int32.ofInt z)) nx st h
  | .bipush z => zpu L (.int (Int8.ofInt z).toInt32) nx st h
  | .sipush z => zpu L (.int (Int16.ofInt z).toInt32) nx st h
  | .lconst z => zpu L (.long (Int64.ofNat z)) nx st h
  | .aconst_null => zpu L .null nx st h
  | .ldc _ => if k = 0 then zpu L (.int (Int32.ofNat y)) nx st h else if k = 2 then zpu L (.retAddr 2) nx st h else if k = 3 then zpu L (.retAddr 3) nx st h else none
  | .getstatic _ => if k = 0 then zpu L (.int 1) nx st h else if k = 1 then zpu L (.retAddr 1) nx st h else none
  | .checkcast _ => zchk k nx L st h
  | .if_acmp q _ => zacmp q k nx L st h
  | .ldc_w _ => if k = 0 then zpu L (.int (Int32.ofNat y)) nx st h else none
  | .ldc2_w _ => if k = 0 then zpu L (.long (Int64.ofNat y)) nx st h else if k = 1 then zpu L (.double (UInt64.ofNat y)) nx st h else none
  | .iadd => zbin (fun x y => x + y) nx L st h
  | .isub => zbin (fun x y => x - y) nx L st h
  | .imul => zbin (fun x y => x * y) nx L st h
  | .iand => zbin (fun x y => x &&& y) nx L st h
  | .ior => zbin (fun x y => x ||| y) nx L st h
  | .ixor => zbin (fun x y => x ^^^ y) nx L st h
  | .ishl => zbin (fun x y => x <<< (y &&& 31)) nx L st h
  | .ishr => zbin (fun x y => x >>> (y &&& 31)) nx L st h
  | .iushr => zbin (fun x y => (x.toUInt32 >>> (y.toUInt32 &&& Int32.toUInt32 31)).toInt32) nx L st h
  | .idiv => zdiv (fun x y => x / y) nx L st h
  | .irem => zdiv (fun x y => x - x / y * y) nx L st h
  | .ineg => zun (fun x => .int (-x)) nx L st h
  | .i2l => zun (fun x => .long x.toInt64) nx L st h
  | .i2b => zun (fun x => .int x.toInt8.toInt32) nx L st h
  | .i2c => zun (fun x => .int (x.toUInt32 % 65536).toInt32) nx L st h
  | .i2d => zun (fun x => .double (FP.i2d x)) nx L st h
  | .ladd => zbinL (fun x y => x + y) nx L st h
  | .lmul => zbinL (fun x y => x * y) nx L st h
  | .lcmp => zlc nx L st h
  | .ddiv => zbinD FP.ddiv nx L st h
  | .dmul => zbinD FP.dmul nx L st h
  | .d2l => zd2l nx L st h
  | .dup => zdup nx L st h
  | .pop => zpop nx L st h
  | .pop2 => zpop2 nx L st h
  | .dup_x1 => zdupx1 nx L st h
  | .dup2 => zdup2 nx L st h
  | .ifCond q _ => zif q k nx L st h
  | .if_icmp q _ => zicmp q k nx L st h
  | .goto _ => zgo k L st h
  | .tableswitch d lo hi os => ztab pc d lo hi os L st h
  | .lookupswitch d ps => zlook pc d ps L st h
  | .iaload => zialoadX xs nx L st h
  | .iastore => zast 100 some nx L st h
  | .baload => zald k nx L st h
  | .bastore => if k = 101 then zast 101 (fun x => if x = 0 ∨ x = 1 then some x else none) nx L st h else zast 102 (fun x => some x.toInt8.toInt32) nx L st h
  | .aaload => zaald nx L st h
  | .aastore => zaast nx L st h
  | .arraylength => zalen xs nx L st h
  | .newarray t => znewa (ztag t) (.int 0) nx L st h
  | .anewarray _ => znewa 103 .null nx L st h
  | .multianewarray _ _ => zmulti nx L st h
  | .getfield _ => zget cf y k nx L st h
  | .putfield _ => zput cf y k nx L st h
  | .new _ => if k = 9 then (if zcs st ≤ 8 then some (.inr (.inr (.inr y, 1, 6))) else none) else znew cf c nx L st h
  | .invokestatic _ => if k = 10 then zcopy nx L st h else if k = 12 then zmm (fun x y => if x < y then y else x) nx L st h else if k = 13 then zmm (fun x y => if y < x then y else x) nx L st h else zcall n y nx st
  | .invokevirtual _ => if k = 11 then zgetc nx L st h else zcallV n c y nx st h
  | .invokeinterface _ _ => zcallV n c y nx st h
  | .invokespecial _ => if k = 8 then zoi nx L st h else if k = 7 then zcallV n c y nx st h else zcallI n y nx st
  | .ireturn => (match st with
      | [.int v] => if k = 0 ∨ (k = 1 ∧ (v = 0 ∨ v = 1)) ∨ (k = 2 ∧ 0 ≤ v ∧ v ≤ 255) then zret (some (.int v)) else none
      | _ => none)
  | .lreturn => (match st with
      | [.long v] => zret (some (.long v))
      | _ => none)
  | .dreturn => (match st with
      | [.double v] => zret (some (.double v))
      | _ => none)
  | .areturn => (match st with
      | [.ref v] => zret (some (.ref v))
      | [.retAddr v] => zret (some (.retAddr v))
      | _ => none)
  | .return_ => (match st with
      | [] => zret none
      | _ => none)
  | _ => none
