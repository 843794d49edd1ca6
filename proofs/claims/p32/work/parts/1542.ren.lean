/-! The same run elsewhere in the heap: places renamed one to one. -/
def zrnv (f : Nat → Nat) (v : Value) : Value := match v with
  | .ref k => .ref (f k)
  | x => x
def zrl (f : Nat → Nat) (L : zL) : zL := L.map (fun o => o.map (zrnv f))
def zrs (f : Nat → Nat) (st : List Value) : List Value := st.map (zrnv f)
def zrc (f : Nat → Nat) (c : Nat × List Value) : Nat × List Value := (c.1, c.2.map (zrnv f))
def zrr (f : Nat → Nat) (r : Option Value ⊕ Nat) : Option Value ⊕ Nat := match r with
  | .inl v => .inl (v.map (zrnv f))
  | .inr E => .inr E
/-- a heap stands, renamed, in another one -/
def zrh (f : Nat → Nat) (h h' : zH) : Prop := (∀ k c, h[k]? = some c → h'[f k]? = some (zrc f c)) ∧ (∀ k, f (h.length + k) = h'.length + k) ∧ ∀ i j, f i = f j → i = j
/-- what is elsewhere stays -/
def zrfr (f : Nat → Nat) (h' g' : zH) : Prop := h'.length ≤ g'.length ∧ ∀ j, j < h'.length → (∀ k, f k ≠ j) → g'[j]? = h'[j]?
def zrq (f : Nat → Nat) (h' : zH) (a a' : zA) : Prop := match a with
  | .inl (pc, L, st, h, dc, ds) => ∃ g', a' = .inl (pc, zrl f L, zrs f st, g', dc, ds) ∧ zrh f h g' ∧ zrfr f h' g'
  | .inr (.inl (y, as, r, nx)) => a' = .inr (.inl (y, zrs f as, zrs f r, nx))
  | .inr (.inr (r, dc, ds)) => a' = .inr (.inr (zrr f r, dc, ds))
def zrO (f : Nat → Nat) (h' : zH) (x x' : Option zA) : Prop := ∀ a, x = some a → ∃ a', x' = some a' ∧ zrq f h' a a'
section ZRN
variable {f : Nat → Nat} {h h' g' : zH} {L L' : zL} {st r : List Value} {x' : Option zA} {pc nx i k y n c j : Nat} {v w : Value}
theorem zrfr_rf : zrfr f h' h' := ⟨Nat.le_refl _, fun _ _ _ => rfl⟩
theorem zrfr_tr {a b d : zH} (h1 : zrfr f a b) (h2 : zrfr f b d) : zrfr f a d := ⟨Nat.le_trans h1.1 h2.1, fun j hj ne => (h2.2 j (Nat.lt_of_lt_of_le hj h1.1) ne).trans (h1.2 j hj ne)⟩
theorem zrO_n : zrO f h' none x' := fun a e => by cases e
theorem zrO_go (R : zrh f h h') : zrO f h' (zgo pc L st h) (zgo pc (zrl f L) (zrs f st) h') := fun a e => by
  cases e
  exact ⟨_, rfl, h', rfl, R, zrfr_rf⟩
theorem zrO_ite {c : Prop} [Decidable c] {x y x' y' : Option zA} (h1 : zrO f h' x x') (h2 : zrO f h' y y') : zrO f h' (if c then x else y) (if c then x' else y') := by
  split
  · exact h1
  · exact h2
theorem zrnv_cat : zcat (zrnv f v) = zcat v := by cases v <;> rfl
theorem zrs_cs : ∀ r : List Value, zcs (zrs f r) = zcs r
  | [] => rfl
  | v :: r => by
    show (if zcat (zrnv f v) then 2 else 1) + zcs (zrs f r) = (if zcat v then 2 else 1) + zcs r
    rw [zrnv_cat, zrs_cs r]
theorem zrl_at (i : Nat) : (zrl f L)[i]? = (L[i]?).map (fun o => o.map (zrnv f)) := by
  unfold zrl
  exact List.getElem?_map ..
theorem zrk_k {a : Option Value} : zk (a.map (zrnv f)) = (zk a).map (zrnv f) := by
  rcases a with _ | v
  · rfl
  · cases v <;> rfl
theorem zr_st1 : ∀ (i : Nat) (L : zL), zst1 (zrnv f v) i (zrl f L) = (zst1 v i L).map (zrl f)
  | 0, [] => rfl
  | 0, _ :: _ => rfl
  | 1, [] => rfl
  | 1, [_] => rfl
  | 1, a :: b :: l => by
    show some (zk (a.map (zrnv f)) :: some (zrnv f v) :: zrl f l) = some (zrl f (zk a :: some v :: l))
    rw [zrk_k]
    rfl
  | i + 2, [] => rfl
  | i + 2, a :: l => by
    have ih := zr_st1 (i + 1) l
    show (match zst1 (zrnv f v) (i + 1) (zrl f l) with
      | some l' => some (a.map (zrnv f) :: l')
      | none => none) = (match zst1 v (i + 1) l with
      | some l' => some (a :: l')
      | none => none).map (zrl f)
    rw [ih]
    cases zst1 v (i + 1) l <;> rfl
theorem zr_st2 : ∀ (i : Nat) (L : zL), zst2 (zrnv f v) i (zrl f L) = (zst2 v i L).map (zrl f)
  | 0, [] => rfl
  | 0, [_] => rfl
  | 0, _ :: _ :: _ => rfl
  | 1, [] => rfl
  | 1, [_] => rfl
  | 1, [_, _] => rfl
  | 1, a :: b :: d :: l => by
    show some (zk (a.map (zrnv f)) :: some (zrnv f v) :: none :: zrl f l) = some (zrl f (zk a :: some v :: none :: l))
    rw [zrk_k]
    rfl
  | i + 2, [] => rfl
  | i + 2, a :: l => by
    have ih := zr_st2 (i + 1) l
    show (match zst2 (zrnv f v) (i + 1) (zrl f l) with
      | some l' => some (a.map (zrnv f) :: l')
      | none => none) = (match zst2 v (i + 1) l with
      | some l' => some (a :: l')
      | none => none).map (zrl f)
    rw [ih]
    cases zst2 v (i + 1) l <;> rfl
theorem r_sv1 (R : zrh f h h') : zrO f h' (zsv1 L i nx v st h) (zsv1 (zrl f L) i nx (zrnv f v) (zrs f st) h') := by
  unfold zsv1
  rw [zr_st1]
  cases zst1 v i L with
  | none => exact zrO_n
  | some L' => exact zrO_go R
theorem r_sv2 (R : zrh f h h') : zrO f h' (zsv2 L i nx v st h) (zsv2 (zrl f L) i nx (zrnv f v) (zrs f st) h') := by
  unfold zsv2
  rw [zr_st2]
  cases zst2 v i L with
  | none => exact zrO_n
  | some L' => exact zrO_go R
theorem r_ldI (R : zrh f h h') : zrO f h' (zldI L i nx st h) (zldI (zrl f L) i nx (zrs f st) h') := by
  unfold zldI
  rw [zrl_at]
  rcases L[i]? with _ | _ | v
  · exact zrO_n
  · exact zrO_n
  · cases v <;> first | exact zrO_n | exact zrO_go (st := _ :: st) R
theorem r_ldL (R : zrh f h h') : zrO f h' (zldL L i nx st h) (zldL (zrl f L) i nx (zrs f st) h') := by
  unfold zldL
  rw [zrl_at]
  rcases L[i]? with _ | _ | v
  · exact zrO_n
  · exact zrO_n
  · cases v <;> first | exact zrO_n | exact zrO_go (st := _ :: st) R
theorem r_ldA (R : zrh f h h') : zrO f h' (zldA L i nx st h) (zldA (zrl f L) i nx (zrs f st) h') := by
  unfold zldA
  rw [zrl_at]
  rcases L[i]? with _ | _ | v
  · exact zrO_n
  · exact zrO_n
  · cases v with
    | ref x => exact zrO_go (st := .ref x :: st) R
    | retAddr x => exact zrO_go (st := .retAddr x :: st) R
    | null => exact zrO_go (st := .null :: st) R
    | _ => exact zrO_n
theorem r_sI (R : zrh f h h') : zrO f h' (zsI L i nx st h) (zsI (zrl f L) i nx (zrs f st) h') := by
  rcases st with _ | ⟨v, r⟩
  · exact zrO_n
  · cases v with
    | int x => exact r_sv1 (v := .int x) R
    | _ => exact zrO_n
theorem r_sL (R : zrh f h h') : zrO f h' (zsL L i nx st h) (zsL (zrl f L) i nx (zrs f st) h') := by
  rcases st with _ | ⟨v, r⟩
  · exact zrO_n
  · cases v with
    | long x => exact r_sv2 (v := .long x) R
    | _ => exact zrO_n
theorem r_inc {z : Int} (R : zrh f h h') : zrO f h' (zinc L i z nx st h) (zinc (zrl f L) i z nx (zrs f st) h') := by
  unfold zinc
  rw [zrl_at]
  rcases L[i]? with _ | _ | v
  · exact zrO_n
  · exact zrO_n
  · cases v with
    | int x => exact r_sv1 (v := .int (x + Int32.ofInt z)) R
    | _ => exact zrO_n
theorem r_pu (hv : zrnv f v = v) (R : zrh f h h') : zrO f h' (zpu L v nx st h) (zpu (zrl f L) v nx (zrs f st) h') := by
  have g := zrO_go (pc := nx) (L := L) (st := v :: st) R
  have e : zrs f (v :: st) = v :: zrs f st := by
    show zrnv f v :: zrs f st = _
    rw [hv]
  rw [e] at g
  exact g
theorem r_bin {p : Int32 → Int32 → Int32} (R : zrh f h h') : zrO f h' (zbin p nx L st h) (zbin p nx (zrl f L) (zrs f st) h') := by
  rcases st with _ | ⟨v, _ | ⟨w, r⟩⟩
  · exact zrO_n
  · cases v <;> exact zrO_n
  · cases v <;> first | exact zrO_n | (cases w <;> first | exact zrO_n | exact zrO_go (st := .int _ :: r) R)
theorem r_div {p : Int32 → Int32 → Int32} (R : zrh f h h') : zrO f h' (zdiv p nx L st h) (zdiv p nx (zrl f L) (zrs f st) h') := by
  rcases st with _ | ⟨v, _ | ⟨w, r⟩⟩
  · exact zrO_n
  · cases v <;> exact zrO_n
  · cases v <;> first | exact zrO_n | (cases w <;> first | exact zrO_n | exact zrO_ite zrO_n (zrO_go (st := .int _ :: r) R))
theorem r_un {p : Int32 → Value} (hp : ∀ x, zrnv f (p x) = p x) (R : zrh f h h') : zrO f h' (zun p nx L st h) (zun p nx (zrl f L) (zrs f st) h') := by
  rcases st with _ | ⟨v, r⟩
  · exact zrO_n
  · cases v with
    | int x => exact r_pu (hp x) R
    | _ => exact zrO_n
theorem r_binL {p : Int64 → Int64 → Int64} (R : zrh f h h') : zrO f h' (zbinL p nx L st h) (zbinL p nx (zrl f L) (zrs f st) h') := by
  rcases st with _ | ⟨v, _ | ⟨w, r⟩⟩
  · exact zrO_n
  · cases v <;> exact zrO_n
  · cases v <;> first | exact zrO_n | (cases w <;> first | exact zrO_n | exact zrO_go (st := .long _ :: r) R)
theorem r_binD {p : UInt64 → UInt64 → UInt64} (R : zrh f h h') : zrO f h' (zbinD p nx L st h) (zbinD p nx (zrl f L) (zrs f st) h') := by
  rcases st with _ | ⟨v, _ | ⟨w, r⟩⟩
  · exact zrO_n
  · cases v <;> exact zrO_n
  · cases v <;> first | exact zrO_n | (cases w <;> first | exact zrO_n | exact zrO_ite (zrO_go (st := .double _ :: r) R) zrO_n)
theorem r_d2l (R : zrh f h h') : zrO f h' (zd2l nx L st h) (zd2l nx (zrl f L) (zrs f st) h') := by
  rcases st with _ | ⟨v, r⟩
  · exact zrO_n
  · cases v <;> first | exact zrO_n | exact zrO_go (st := .long _ :: r) R
theorem r_dup (R : zrh f h h') : zrO f h' (zdup nx L st h) (zdup nx (zrl f L) (zrs f st) h') := by
  rcases st with _ | ⟨v, r⟩
  · exact zrO_n
  · show zrO f h' (if zcat v then none else zgo nx L (v :: v :: r) h) (if zcat (zrnv f v) then none else zgo nx (zrl f L) (zrs f (v :: v :: r)) h')
    rw [zrnv_cat]
    exact zrO_ite zrO_n (zrO_go R)
theorem r_br {q : ClassFile.Cond} {x z : Int32} {tg : Nat} (R : zrh f h h') : zrO f h' (zbr q x z tg nx L r h) (zbr q x z tg nx (zrl f L) (zrs f r) h') := by
  cases q <;> exact zrO_ite (zrO_go R) (zrO_go R)
theorem r_if {q : ClassFile.Cond} {tg : Nat} (R : zrh f h h') : zrO f h' (zif q tg nx L st h) (zif q tg nx (zrl f L) (zrs f st) h') := by
  rcases st with _ | ⟨v, r⟩
  · exact zrO_n
  · cases v <;> first | exact zrO_n | exact r_br R
theorem r_icmp {q : ClassFile.Cond} {tg : Nat} (R : zrh f h h') : zrO f h' (zicmp q tg nx L st h) (zicmp q tg nx (zrl f L) (zrs f st) h') := by
  rcases st with _ | ⟨v, _ | ⟨w, r⟩⟩
  · exact zrO_n
  · cases v <;> exact zrO_n
  · cases v <;> first | exact zrO_n | (cases w <;> first | exact zrO_n | exact r_br R)
theorem r_off {o : Int} (R : zrh f h h') : zrO f h' (zoff pc o L r h) (zoff pc o (zrl f L) (zrs f r) h') := by
  unfold zoff
  split
  · exact zrO_go R
  · exact zrO_n
theorem r_tab {d lo hi : Int} {offs : Array Int} (R : zrh f h h') : zrO f h' (ztab pc d lo hi offs L st h) (ztab pc d lo hi offs (zrl f L) (zrs f st) h') := by
  rcases st with _ | ⟨v, r⟩
  · exact zrO_n
  · cases v with
    | int x =>
      refine zrO_ite (r_off R) ?_
      show zrO f h' (match offs[(x.toInt - lo).toNat]? with
        | some o => zoff pc o L r h
        | none => none) (match offs[(x.toInt - lo).toNat]? with
        | some o => zoff pc o (zrl f L) (zrs f r) h'
        | none => none)
      cases offs[(x.toInt - lo).toNat]? with
      | none => exact zrO_n
      | some o => exact r_off R
    | _ => exact zrO_n
theorem zrs_at (i : Nat) (vs : List Value) : (vs.map (zrnv f))[i]? = (vs[i]?).map (zrnv f) := List.getElem?_map ..
theorem r_ald {t : Nat} (R : zrh f h h') : zrO f h' (zald t nx L st h) (zald t nx (zrl f L) (zrs f st) h') := by
  rcases st with _ | ⟨v, _ | ⟨w, r⟩⟩
  · exact zrO_n
  · cases v <;> exact zrO_n
  · cases v with
    | int x =>
      cases w with
      | ref a =>
        show zrO f h' (match h[a]? with
          | some (t', vs) => if t' = t then match vs[x.toNatClampNeg]? with
            | some (.int z) => if x < 0 then none else zgo nx L (.int z :: r) h
            | _ => none else none
          | none => none) (match h'[f a]? with
          | some (t', vs) => if t' = t then match vs[x.toNatClampNeg]? with
            | some (.int z) => if x < 0 then none else zgo nx (zrl f L) (.int z :: zrs f r) h'
            | _ => none else none
          | none => none)
        cases hc : h[a]? with
        | none => exact zrO_n
        | some cc =>
          obtain ⟨t', vs⟩ := cc
          rw [R.1 _ _ hc]
          show zrO f h' (if t' = t then match vs[x.toNatClampNeg]? with
            | some (.int z) => if x < 0 then none else zgo nx L (.int z :: r) h
            | _ => none else none) (if t' = t then match (vs.map (zrnv f))[x.toNatClampNeg]? with
            | some (.int z) => if x < 0 then none else zgo nx (zrl f L) (.int z :: zrs f r) h'
            | _ => none else none)
          refine zrO_ite ?_ zrO_n
          rw [zrs_at]
          rcases vs[x.toNatClampNeg]? with _ | u
          · exact zrO_n
          · cases u <;> first | exact zrO_n | exact zrO_ite zrO_n (zrO_go (st := .int _ :: r) R)
      | _ => exact zrO_n
    | _ => exact zrO_n
theorem r_iald {xs : List Int32} (R : zrh f h h') : zrO f h' (zialoadX xs nx L st h) (zialoadX xs nx (zrl f L) (zrs f st) h') := by
  rcases st with _ | ⟨v, _ | ⟨w, r⟩⟩
  · exact zrO_n
  · cases v <;> exact zrO_n
  · cases v with
    | int x =>
      cases w with
      | retAddr a =>
        match a with
        | 0 =>
          refine zrO_ite zrO_n ?_
          show zrO f h' (match xs[x.toNatClampNeg]? with
            | some z => zgo nx L (.int z :: r) h
            | none => none) (match xs[x.toNatClampNeg]? with
            | some z => zgo nx (zrl f L) (.int z :: zrs f r) h'
            | none => none)
          cases xs[x.toNatClampNeg]? with
          | none => exact zrO_n
          | some z => exact zrO_go (st := .int z :: r) R
        | a + 1 => exact zrO_n
      | ref a => exact r_ald (t := 100) (st := .int x :: .ref a :: r) R
      | _ => exact zrO_n
    | _ => cases w <;> exact zrO_n
theorem zrh_set {a t : Nat} {vs : List Value} (R : zrh f h h') (hc : h[a]? = some (t, vs)) (k : Nat) (v : Value) : zrh f (h.set a (t, vs.set k v)) (h'.set (f a) (t, (vs.map (zrnv f)).set k (zrnv f v))) ∧ zrfr f h' (h'.set (f a) (t, (vs.map (zrnv f)).set k (zrnv f v))) := by
  have h9 := R.1 _ _ hc
  refine ⟨⟨fun j c e => ?_, fun j => ?_, R.2.2⟩, Nat.le_of_eq (List.length_set ..).symm, fun j hj ne => List.getElem?_set_ne (ne a)⟩
  · by_cases q : a = j
    · subst q
      rw [List.getElem?_set_self (List.getElem?_eq_some_iff.mp hc).1] at e
      cases e
      rw [List.getElem?_set_self (List.getElem?_eq_some_iff.mp h9).1]
      show some (t, (vs.map (zrnv f)).set k (zrnv f v)) = some (t, (vs.set k v).map (zrnv f))
      rw [List.map_set]
    · rw [List.getElem?_set_ne q] at e
      rw [List.getElem?_set_ne (fun z => q (R.2.2 _ _ z))]
      exact R.1 _ _ e
  · rw [List.length_set, List.length_set]
    exact R.2.1 j
theorem r_ast {t : Nat} {p : Int32 → Option Int32} (R : zrh f h h') : zrO f h' (zast t p nx L st h) (zast t p nx (zrl f L) (zrs f st) h') := by
  rcases st with _ | ⟨v, _ | ⟨w, _ | ⟨u, r⟩⟩⟩
  · exact zrO_n
  · cases v <;> exact zrO_n
  · cases v <;> first | exact zrO_n | (cases w <;> exact zrO_n)
  · cases v with
    | int x =>
      cases w with
      | int i =>
        cases u with
        | ref a =>
          show zrO f h' (match h[a]? with
            | some (t', vs) => if t' = t then if i < 0 then none else if i.toNatClampNeg < vs.length then match p x with
              | some y => zgo nx L r (h.set a (t, vs.set i.toNatClampNeg (.int y)))
              | none => none else none else none
            | none => none) (match h'[f a]? with
            | some (t', vs) => if t' = t then if i < 0 then none else if i.toNatClampNeg < vs.length then match p x with
              | some y => zgo nx (zrl f L) (zrs f r) (h'.set (f a) (t, vs.set i.toNatClampNeg (.int y)))
              | none => none else none else none
            | none => none)
          cases hc : h[a]? with
          | none => exact zrO_n
          | some cc =>
            obtain ⟨t', vs⟩ := cc
            rw [R.1 _ _ hc]
            show zrO f h' (if t' = t then if i < 0 then none else if i.toNatClampNeg < vs.length then match p x with
              | some y => zgo nx L r (h.set a (t, vs.set i.toNatClampNeg (.int y)))
              | none => none else none else none) (if t' = t then if i < 0 then none else if i.toNatClampNeg < (vs.map (zrnv f)).length then match p x with
              | some y => zgo nx (zrl f L) (zrs f r) (h'.set (f a) (t, (vs.map (zrnv f)).set i.toNatClampNeg (.int y)))
              | none => none else none else none)
            rw [List.length_map]
            by_cases q : t' = t
            · subst q
              refine zrO_ite (zrO_ite zrO_n (zrO_ite ?_ zrO_n)) zrO_n
              cases p x with
              | none => exact zrO_n
              | some z =>
                intro a0 e
                cases e
                obtain ⟨s1, s2⟩ := zrh_set R hc i.toNatClampNeg (.int z)
                exact ⟨_, rfl, _, rfl, s1, s2⟩
            · rw [if_neg q, if_neg q]
              exact zrO_n
        | _ => exact zrO_n
      | _ => cases u <;> exact zrO_n
    | _ => cases w <;> cases u <;> exact zrO_n
theorem r_alen {xs : List Int32} (R : zrh f h h') : zrO f h' (zalen xs nx L st h) (zalen xs nx (zrl f L) (zrs f st) h') := by
  rcases st with _ | ⟨v, r⟩
  · exact zrO_n
  · cases v with
    | ref a =>
      show zrO f h' (match h[a]? with
        | some (t, vs) => if 100 ≤ t then zgo nx L (.int (Int32.ofNat vs.length) :: r) h else none
        | none => none) (match h'[f a]? with
        | some (t, vs) => if 100 ≤ t then zgo nx (zrl f L) (.int (Int32.ofNat vs.length) :: zrs f r) h' else none
        | none => none)
      cases hc : h[a]? with
      | none => exact zrO_n
      | some cc =>
        obtain ⟨t', vs⟩ := cc
        rw [R.1 _ _ hc]
        show zrO f h' (if 100 ≤ t' then zgo nx L (.int (Int32.ofNat vs.length) :: r) h else none) (if 100 ≤ t' then zgo nx (zrl f L) (.int (Int32.ofNat (vs.map (zrnv f)).length) :: zrs f r) h' else none)
        rw [List.length_map]
        exact zrO_ite (zrO_go (st := .int _ :: r) R) zrO_n
    | retAddr a =>
      match a with
      | 0 => exact zrO_go (st := .int _ :: r) R
      | 1 => first | exact zrO_n | exact zrO_go (st := .int _ :: r) R
      | a + 2 => exact zrO_n
    | _ => exact zrO_n
theorem r_get {cf : Nat → List (Nat × Nat)} {fd : Nat} (R : zrh f h h') : zrO f h' (zget cf fd k nx L st h) (zget cf fd k nx (zrl f L) (zrs f st) h') := by
  rcases st with _ | ⟨v, r⟩
  · exact zrO_n
  · cases v with
    | ref a =>
      show zrO f h' (match h[a]? with
        | some (c, vs) => match (cf c)[k]? with
          | some (f', _) => if f' = fd then match vs[k]? with
            | some v => zgo nx L (v :: r) h
            | none => none else none
          | none => none
        | none => none) (match h'[f a]? with
        | some (c, vs) => match (cf c)[k]? with
          | some (f', _) => if f' = fd then match vs[k]? with
            | some v => zgo nx (zrl f L) (v :: zrs f r) h'
            | none => none else none
          | none => none
        | none => none)
      cases hc : h[a]? with
      | none => exact zrO_n
      | some cc =>
        obtain ⟨c9, vs⟩ := cc
        rw [R.1 _ _ hc]
        show zrO f h' (match (cf c9)[k]? with
          | some (f', _) => if f' = fd then match vs[k]? with
            | some v => zgo nx L (v :: r) h
            | none => none else none
          | none => none) (match (cf c9)[k]? with
          | some (f', _) => if f' = fd then match (vs.map (zrnv f))[k]? with
            | some v => zgo nx (zrl f L) (v :: zrs f r) h'
            | none => none else none
          | none => none)
        rcases (cf c9)[k]? with _ | ⟨f', kd⟩
        · exact zrO_n
        · refine zrO_ite ?_ zrO_n
          rw [zrs_at]
          rcases vs[k]? with _ | u
          · exact zrO_n
          · exact zrO_go (st := u :: r) R
    | _ => exact zrO_n
theorem zr_fdk {kd : Nat} : zfdk kd (zrnv f v) = zfdk kd v := by
  match kd with
  | 0 => cases v <;> rfl
  | 1 => cases v <;> rfl
  | 2 => cases v <;> rfl
  | 3 => cases v <;> rfl
  | 4 => cases v <;> rfl
  | 5 => cases v <;> rfl
  | kd + 6 => cases v <;> rfl
theorem r_put {cf : Nat → List (Nat × Nat)} {fd : Nat} (R : zrh f h h') : zrO f h' (zput cf fd k nx L st h) (zput cf fd k nx (zrl f L) (zrs f st) h') := by
  rcases st with _ | ⟨v, _ | ⟨w, r⟩⟩
  · exact zrO_n
  · cases v <;> exact zrO_n
  · cases w with
    | ref a =>
      show zrO f h' (match h[a]? with
        | some (c, vs) => match (cf c)[k]? with
          | some (f', kd) => if f' = fd then if zfdk kd v = true then if k < vs.length then zgo nx L r (h.set a (c, vs.set k v)) else none else none else none
          | none => none
        | none => none) (match h'[f a]? with
        | some (c, vs) => match (cf c)[k]? with
          | some (f', kd) => if f' = fd then if zfdk kd (zrnv f v) = true then if k < vs.length then zgo nx (zrl f L) (zrs f r) (h'.set (f a) (c, vs.set k (zrnv f v))) else none else none else none
          | none => none
        | none => none)
      cases hc : h[a]? with
      | none => exact zrO_n
      | some cc =>
        obtain ⟨c9, vs⟩ := cc
        rw [R.1 _ _ hc]
        show zrO f h' (match (cf c9)[k]? with
          | some (f', kd) => if f' = fd then if zfdk kd v = true then if k < vs.length then zgo nx L r (h.set a (c9, vs.set k v)) else none else none else none
          | none => none) (match (cf c9)[k]? with
          | some (f', kd) => if f' = fd then if zfdk kd (zrnv f v) = true then if k < (vs.map (zrnv f)).length then zgo nx (zrl f L) (zrs f r) (h'.set (f a) (c9, (vs.map (zrnv f)).set k (zrnv f v))) else none else none else none
          | none => none)
        rcases (cf c9)[k]? with _ | ⟨f', kd⟩
        · exact zrO_n
        · dsimp only
          rw [zr_fdk, List.length_map]
          refine zrO_ite (zrO_ite (zrO_ite ?_ zrO_n) zrO_n) zrO_n
          intro a0 e
          cases e
          obtain ⟨s1, s2⟩ := zrh_set R hc k v
          exact ⟨_, rfl, _, rfl, s1, s2⟩
    | _ => cases v <;> exact zrO_n
theorem zrh_new {t : Nat} {vs : List Value} (R : zrh f h h') (hv : vs.map (zrnv f) = vs) : zrh f (h ++ [(t, vs)]) (h' ++ [(t, vs)]) ∧ zrfr f h' (h' ++ [(t, vs)]) := by
  have e0 : f h.length = h'.length := R.2.1 0
  refine ⟨⟨fun j c e => ?_, fun j => ?_, R.2.2⟩, by simp, fun j hj _ => List.getElem?_append_left hj⟩
  · by_cases q : j < h.length
    · rw [List.getElem?_append_left q] at e
      have z := R.1 _ _ e
      rw [List.getElem?_append_left (List.getElem?_eq_some_iff.mp z).1]
      exact z
    · have hj := (List.getElem?_eq_some_iff.mp e).1
      rw [List.length_append] at hj
      have hj : j < h.length + 1 := hj
      obtain rfl : j = h.length := by omega
      rw [List.getElem?_concat_length] at e
      cases e
      rw [e0, List.getElem?_concat_length]
      show some (t, vs) = some (t, vs.map (zrnv f))
      rw [hv]
  · rw [List.length_append, List.length_append]
    have := R.2.1 (1 + j)
    show f (h.length + 1 + j) = h'.length + 1 + j
    rw [Nat.add_assoc, this, Nat.add_assoc]
theorem r_newa {t : Nat} {v : Value} (hv : zrnv f v = v) (R : zrh f h h') : zrO f h' (znewa t v nx L st h) (znewa t v nx (zrl f L) (zrs f st) h') := by
  rcases st with _ | ⟨w, r⟩
  · exact zrO_n
  · cases w with
    | int m =>
      refine zrO_ite zrO_n (zrO_ite (zrO_ite zrO_n ?_) zrO_n)
      intro a0 e
      cases e
      have hr : (List.replicate m.toNatClampNeg v).map (zrnv f) = List.replicate m.toNatClampNeg v := by
        rw [List.map_replicate, hv]
      obtain ⟨s1, s2⟩ := zrh_new (t := t) R hr
      refine ⟨_, rfl, _, ?_, s1, s2⟩
      have e0 : f h.length = h'.length := R.2.1 0
      show _ = Sum.inl (nx, zrl f L, .ref (f h.length) :: zrs f r, _, 1, m.toNatClampNeg)
      rw [e0]
      rfl
    | _ => exact zrO_n
theorem r_new {cf : Nat → List (Nat × Nat)} (hv : ∀ q, zrnv f (zdf q) = zdf q) (R : zrh f h h') : zrO f h' (znew cf c nx L st h) (znew cf c nx (zrl f L) (zrs f st) h') := by
  intro a0 e
  cases e
  have hr : ((cf c).map (fun q => zdf q.2)).map (zrnv f) = (cf c).map (fun q => zdf q.2) := by
    rw [List.map_map]
    exact List.map_congr_left (fun q _ => hv q.2)
  obtain ⟨s1, s2⟩ := zrh_new (t := c) R hr
  refine ⟨_, rfl, _, ?_, s1, s2⟩
  have e0 : f h.length = h'.length := R.2.1 0
  show _ = Sum.inl (nx, zrl f L, .ref (f h.length) :: zrs f st, _, 1, (cf c).length)
  rw [e0]
theorem zr_tk : ∀ (n : Nat) (acc st : List Value), ztk n (zrs f acc) (zrs f st) = (ztk n acc st).map (fun q => (zrs f q.1, zrs f q.2))
  | 0, _, _ => rfl
  | n + 1, _, [] => rfl
  | n + 1, acc, v :: r => zr_tk n (v :: acc) r
theorem r_call : zrO f h' (zcall n y nx st) (zcall n y nx (zrs f st)) := by
  unfold zcall
  rw [show ztk n [] (zrs f st) = _ from zr_tk n [] st]
  rcases ztk n [] st with _ | ⟨as, r⟩
  · exact zrO_n
  · show zrO f h' (if zcs r ≤ 8 then _ else _) (if zcs (zrs f r) ≤ 8 then _ else _)
    rw [zrs_cs]
    refine zrO_ite (fun a e => ?_) zrO_n
    cases e
    exact ⟨_, rfl, rfl⟩
theorem r_callI : zrO f h' (zcallI n y nx st) (zcallI n y nx (zrs f st)) := by
  unfold zcallI
  rw [show ztk (n + 1) [] (zrs f st) = _ from zr_tk (n + 1) [] st]
  rcases ztk (n + 1) [] st with _ | ⟨_ | ⟨v, as⟩, r⟩
  · exact zrO_n
  · exact zrO_n
  · cases v with
    | ref a =>
      show zrO f h' (if zcs r ≤ 8 then _ else _) (if zcs (zrs f r) ≤ 8 then _ else _)
      rw [zrs_cs]
      refine zrO_ite (fun a e => ?_) zrO_n
      cases e
      exact ⟨_, rfl, rfl⟩
    | _ => exact zrO_n
theorem r_callV (R : zrh f h h') : zrO f h' (zcallV n c y nx st h) (zcallV n c y nx (zrs f st) h') := by
  unfold zcallV
  rw [show ztk (n + 1) [] (zrs f st) = _ from zr_tk (n + 1) [] st]
  rcases ztk (n + 1) [] st with _ | ⟨_ | ⟨v, as⟩, r⟩
  · exact zrO_n
  · exact zrO_n
  · cases v with
    | ref a =>
      show zrO f h' (match h[a]? with
        | some (c', _) => if c' = c then if zcs r ≤ 8 then some (.inr (.inl (y, .ref a :: as, r, nx))) else none else none
        | none => none) (match h'[f a]? with
        | some (c', _) => if c' = c then if zcs (zrs f r) ≤ 8 then some (.inr (.inl (y, .ref (f a) :: zrs f as, zrs f r, nx))) else none else none
        | none => none)
      cases hc : h[a]? with
      | none => exact zrO_n
      | some cc =>
        obtain ⟨c9, vs⟩ := cc
        rw [R.1 _ _ hc, zrs_cs]
        refine zrO_ite (zrO_ite (fun a e => ?_) zrO_n) zrO_n
        cases e
        exact ⟨_, rfl, rfl⟩
    | _ => exact zrO_n
theorem r_oi (R : zrh f h h') : zrO f h' (zoi nx L st h) (zoi nx (zrl f L) (zrs f st) h') := by
  rcases st with _ | ⟨v, r⟩
  · exact zrO_n
  · cases v with
    | ref a =>
      show zrO f h' (if zcs r ≤ 8 then _ else _) (if zcs (zrs f r) ≤ 8 then _ else _)
      rw [zrs_cs]
      exact zrO_ite (zrO_go R) zrO_n
    | _ => exact zrO_n
theorem r_ret {o : Option Value} : zrO f h' (zret o) (zret (o.map (zrnv f))) := fun a e => by
  cases e
  exact ⟨_, rfl, rfl⟩
/-- what may stand in such code -/
def zrk (i : Instr) (k : Nat) : Bool := match i with
  | .iload _ => true
  | .iload_n _ => true
  | .lload _ => true
  | .lload_n _ => true
  | .aload _ => true
  | .aload_n _ => true
  | .istore _ => true
  | .istore_n _ => true
  | .lstore _ => true
  | .lstore_n _ => true
  | .iinc _ _ => true
  | .iconst _ => true
  | .bipush _ => true
  | .sipush _ => true
  | .lconst _ => true
  | .ldc_w _ => true
  | .ldc2_w _ => true
  | .iadd => true
  | .isub => true
  | .imul => true
  | .iand => true
  | .ior => true
  | .ixor => true
  | .ishl => true
  | .ishr => true
  | .iushr => true
  | .idiv => true
  | .irem => true
  | .i2l => true
  | .i2d => true
  | .ladd => true
  | .lmul => true
  | .ddiv => true
  | .dmul => true
  | .d2l => true
  | .dup => true
  | .ifCond _ _ => true
  | .if_icmp _ _ => true
  | .goto _ => true
  | .tableswitch _ _ _ _ => true
  | .iaload => true
  | .iastore => true
  | .arraylength => true
  | .newarray _ => true
  | .new _ => true
  | .getfield _ => true
  | .putfield _ => true
  | .invokestatic _ => k == 0
  | .invokevirtual _ => k == 0
  | .invokespecial _ => k == 0 || k == 8
  | .ireturn => true
  | .lreturn => true
  | .dreturn => true
  | .return_ => true
  | .athrow => true
  | _ => false
end ZRN
section ZRM
variable {f : Nat → Nat} {xs : List Int32} {h h' g' : zH} {L L' : zL} {st r : List Value} {pc nx k y n c d : Nat} {i : Instr} {nc ns D : Nat}
theorem zrn_df (q : Nat) : zrnv f (zdf q) = zdf q := by
  match q with
  | 0 => rfl
  | 1 => rfl
  | 2 => rfl
  | 3 => rfl
  | 4 => rfl
  | 5 => rfl
  | q + 6 => rfl
theorem zrn_step (hk : zrk i k = true) (R : zrh f h h') : zrO f h' (zstep zcf xs pc i nx k y n c L st h) (zstep zcf xs pc i nx k y n c (zrl f L) (zrs f st) h') := by
  cases i <;> first
    | (cases hk; done)
    | exact r_ldI R
    | exact r_ldL R
    | exact r_ldA R
    | exact r_sI R
    | exact r_sL R
    | exact r_inc R
    | exact r_pu rfl R
    | exact r_bin R
    | exact r_div R
    | exact r_un (fun _ => rfl) R
    | exact r_binL R
    | exact r_binD R
    | exact r_d2l R
    | exact r_dup R
    | exact r_if R
    | exact r_icmp R
    | exact zrO_go R
    | exact r_tab R
    | exact r_iald R
    | exact r_ast R
    | exact r_ast (t := 100) (p := some) R
    | (show zrO f h' (zast 100 some nx L st h) (zast 100 some nx (zrl f L) (zrs f st) h')
       exact r_ast R)
    | exact r_alen R
    | exact r_newa rfl R
    | exact r_get R
    | exact r_put R
    | exact zrO_n
    | exact zrO_ite (r_pu rfl R) (zrO_ite (r_pu rfl R) (zrO_ite (r_pu rfl R) zrO_n))
    | exact zrO_ite (r_pu rfl R) (zrO_ite (r_pu rfl R) zrO_n)
    | exact zrO_ite (r_pu rfl R) zrO_n
    | (show zrO f h' (if k = 9 then (if zcs st ≤ 8 then some (.inr (.inr (.inr y, 1, 6))) else none) else znew zcf c nx L st h) (if k = 9 then (if zcs (zrs f st) ≤ 8 then some (.inr (.inr (.inr y, 1, 6))) else none) else znew zcf c nx (zrl f L) (zrs f st) h')
       rw [zrs_cs]
       refine zrO_ite (zrO_ite (fun a e => ?_) zrO_n) (r_new zrn_df R)
       cases e
       exact ⟨_, rfl, rfl⟩)
    | (obtain rfl : k = 0 := by simpa [zrk] using hk
       exact r_call)
    | (obtain rfl : k = 0 := by simpa [zrk] using hk
       exact r_callV R)
    | (rcases (show k = 0 ∨ k = 8 by simpa [zrk] using hk) with rfl | rfl
       · exact r_callI
       · exact r_oi R)
    | (rcases st with _ | ⟨v, _ | ⟨w, r⟩⟩
       · first | exact zrO_n | exact r_ret
       · cases v <;> first | exact zrO_n | exact zrO_ite r_ret zrO_n | exact r_ret
       · cases v <;> exact zrO_n)
def zrp (i : Instr) (k : Nat) : Bool := match i with
  | .invokestatic _ => true
  | .invokevirtual _ => true
  | .invokespecial _ => k == 0
  | _ => false
theorem zrn_y {y' nx' : Nat} {as r : List Value} (hz : zrk i k = true) (e : zstep zcf xs pc i nx k y n c L st h = some (.inr (.inl (y', as, r, nx')))) : y' = y ∧ zrp i k = true := by
  by_cases hj : znj i = true
  · exact absurd e (zis_ok hj _)
  · cases i <;> first
      | exact absurd rfl hj
      | (cases hz; done)
      | (obtain rfl : k = 0 := by simpa [zrk] using hz
         have e : zcall n y nx st = _ := e
         unfold zcall at e
         split at e
         · split at e
           · cases e
             exact ⟨rfl, rfl⟩
           · cases e
         · cases e)
      | (obtain rfl : k = 0 := by simpa [zrk] using hz
         have e : zcallV n c y nx st h = _ := e
         obtain ⟨_, _, _, _, _, _, _, _, z⟩ := zcallV_sp e
         exact ⟨z.symm, rfl⟩)
      | (rcases (show k = 0 ∨ k = 8 by simpa [zrk] using hz) with rfl | rfl
         · have e : zcallI n y nx st = _ := e
           obtain ⟨_, _, _, _, _, _, z⟩ := zcallI_sp e
           exact ⟨z.symm, rfl⟩
         · have e : zoi nx L st h = _ := e
           unfold zoi at e
           split at e
           · split at e
             · cases e
             · cases e
           · cases e)
      | (have e : (if k = 9 then (if zcs st ≤ 8 then some (.inr (.inr (.inr y, 1, 6))) else none) else znew zcf c nx L st h) = _ := e
         split at e
         · split at e <;> cases e
         · cases e)
      | (simp only [zstep, zret] at e
         repeat' split at e
         all_goals cases e)
/-- a set of methods that call each other alone, hold such code, and catch nothing -/
def zry (ok : List Nat) (y : Nat) : Bool := decide (zmh y = []) && (zmc y).all (fun r => zrk r.2.1 r.2.2.2.1 && (!(zrp r.2.1 r.2.2.2.1) || ok.contains r.2.2.2.2.1))
theorem zrn_ex : ∀ as : List Value, zex (zrs f as) = zrl f (zex as)
  | [] => rfl
  | v :: r => by
    have ih := zrn_ex r
    show (if zcat (zrnv f v) then some (zrnv f v) :: none :: zex (zrs f r) else some (zrnv f v) :: zex (zrs f r)) = zrl f (if zcat v then some v :: none :: zex r else some v :: zex r)
    rw [zrnv_cat, ih]
    split <;> rfl
theorem zrn_en {nL : Nat} {as : List Value} : zen nL (zrs f as) = (zen nL as).map (zrl f) := by
  unfold zen
  rw [zrn_ex, show (zrl f (zex as)).length = (zex as).length from List.length_map ..]
  split
  · show some _ = some (zrl f _)
    unfold zrl
    rw [List.map_append, List.map_replicate]
    rfl
  · rfl
theorem zrn_ev {ok : List Nat} (hok : ok.all (zry ok) = true) : ∀ (n d y pc : Nat) (L : zL) (st : List Value) (h h' : zH) (nc ns : Nat) (o : zO), y ∈ ok → zrh f h h' → zev xs n d y pc L st h nc ns = some o → ∃ g', zev xs n d y pc (zrl f L) (zrs f st) h' nc ns = some (zrr f o.1, g', o.2.2.1, o.2.2.2) ∧ zrh f o.2.1 g' ∧ zrfr f h' g'
  | 0, _, _, _, _, _, _, _, _, _, _, _, _, e => by cases e
  | n + 1, d, y, pc, L, st, h, h', nc, ns, o, hy, R, e => by
    have hyo := List.all_eq_true.mp hok y hy
    simp only [zry, Bool.and_eq_true, decide_eq_true_eq] at hyo
    obtain ⟨hm, hyo⟩ := hyo
    unfold zev at e ⊢
    cases e1 : zat (zmc y) pc with
    | none =>
      rw [e1] at e
      cases e
    | some q =>
      obtain ⟨i, nx, k, yy, n9, c⟩ := q
      have hr := List.all_eq_true.mp hyo _ (zat_mem e1)
      simp only [Bool.and_eq_true, Bool.or_eq_true, Bool.not_eq_true'] at hr
      obtain ⟨hk, hc⟩ := hr
      rw [e1] at e
      dsimp only at e ⊢
      cases e2 : zstep zcf xs pc i nx k yy n9 c L st h with
      | none =>
        rw [e2] at e
        cases e
      | some w =>
        obtain ⟨a', s1, s2⟩ := zrn_step (nx := nx) (y := yy) (n := n9) (c := c) (xs := xs) (pc := pc) (L := L) (st := st) hk R w e2
        rw [s1]
        rw [e2] at e
        rcases w with ⟨pc', L', st', h1, dc, ds⟩ | ⟨y', as, r, nx'⟩ | ⟨r, dc, ds⟩
        · obtain ⟨g1, rfl, R1, F1⟩ := s2
          dsimp only at e ⊢
          obtain ⟨g2, t1, t2, t3⟩ := zrn_ev hok n d y pc' L' st' h1 g1 _ _ o hy R1 e
          exact ⟨g2, t1, t2, zrfr_tr F1 t3⟩
        · obtain ⟨rfl, hp⟩ := zrn_y hk e2
          have s2 : a' = .inr (.inl (y', zrs f as, zrs f r, nx')) := s2
          subst s2
          dsimp only at e ⊢
          have hy' : y' ∈ ok := by
            rcases hc with hc | hc
            · rw [hc] at hp
              cases hp
            · exact List.contains_iff_mem.mp hc
          cases d with
          | zero => cases e
          | succ d' =>
            dsimp only at e ⊢
            rw [zrn_en]
            cases e3 : zen (zmL y') as with
            | none =>
              rw [e3] at e
              cases e
            | some L0 =>
              rw [e3] at e
              show ∃ g', (match zev xs n d' y' 0 (zrl f L0) [] h' nc ns with
                | some (.inl v, h', nc', ns') => zev xs n (d' + 1) y nx' (zrl f L) (v.toList ++ zrs f r) h' nc' ns'
                | some (.inr E, h', nc', ns') => match zmh y with
                  | [] => some (.inr E, h', nc', ns')
                  | _ :: _ => match zcatch y pc E (zrl f L) with
                    | some (pc2, L2) => zev xs n (d' + 1) y pc2 L2 [] h' nc' ns'
                    | none => none
                | none => none) = _ ∧ _
              dsimp only at e
              cases e4 : zev xs n d' y' 0 L0 [] h nc ns with
              | none =>
                rw [e4] at e
                cases e
              | some o1 =>
                obtain ⟨g1, t1, t2, t3⟩ := zrn_ev hok n d' y' 0 L0 [] h h' _ _ o1 hy' R e4
                have t1 : zev xs n d' y' 0 (zrl f L0) [] h' nc ns = _ := t1
                rw [t1]
                rw [e4] at e
                obtain ⟨r1, h1, nc1, ns1⟩ := o1
                rcases r1 with v | E
                · dsimp only at e
                  obtain ⟨g2, u1, u2, u3⟩ := zrn_ev hok n (d' + 1) y nx' L (v.toList ++ r) h1 g1 _ _ o hy t2 e
                  refine ⟨g2, ?_, u2, zrfr_tr t3 u3⟩
                  rw [← u1]
                  show zev xs n (d' + 1) y nx' (zrl f L) ((v.map (zrnv f)).toList ++ zrs f r) g1 nc1 ns1 = zev xs n (d' + 1) y nx' (zrl f L) (zrs f (v.toList ++ r)) g1 nc1 ns1
                  cases v <;> rfl
                · dsimp only at e
                  rw [hm] at e ⊢
                  cases e
                  exact ⟨g1, rfl, t2, t3⟩
        · have s2 : a' = .inr (.inr (zrr f r, dc, ds)) := s2
          subst s2
          dsimp only at e ⊢
          cases e
          exact ⟨h', rfl, R, zrfr_rf⟩
/-- what the other heap becomes is one thing alone -/
theorem zrn_un {h1 a b : zH} (R : zrh f h h') (Ra : zrh f h1 a) (Rb : zrh f h1 b) (Fa : zrfr f h' a) (Fb : zrfr f h' b) : a = b := by
  have la : f h1.length = a.length := Ra.2.1 0
  have lb : f h1.length = b.length := Rb.2.1 0
  have l : a.length = b.length := la.symm.trans lb
  refine List.ext_getElem? (fun j => ?_)
  by_cases hj : j < a.length
  · by_cases q : ∃ k, f k = j
    · obtain ⟨k, rfl⟩ := q
      have hk : k < h1.length := by
        refine Nat.lt_of_not_le (fun z => ?_)
        obtain ⟨m, rfl⟩ := Nat.exists_eq_add_of_le z
        rw [Ra.2.1 m] at hj
        omega
      rw [Ra.1 k _ (List.getElem?_eq_getElem hk), Rb.1 k _ (List.getElem?_eq_getElem hk)]
    · have ne : ∀ k, f k ≠ j := fun k z => q ⟨k, z⟩
      have hj' : j < h'.length := by
        refine Nat.lt_of_not_le (fun z => ?_)
        obtain ⟨m, rfl⟩ := Nat.exists_eq_add_of_le z
        exact ne _ (R.2.1 m)
      rw [Fa.2 j hj' ne, Fb.2 j hj' ne]
  · rw [List.getElem?_eq_none (by omega), List.getElem?_eq_none (by omega)]
theorem zrn_M {ok : List Nat} {as : List Value} {P : zO → Prop} (hok : ok.all (zry ok) = true) (hy : y ∈ ok) (R : zrh f h h') (g : zMs xs D y as h nc ns P) : zMs xs D y (zrs f as) h' nc ns (fun o' => ∃ o, P o ∧ o'.1 = zrr f o.1 ∧ zrh f o.2.1 o'.2.1 ∧ zrfr f h' o'.2.1 ∧ o'.2.2 = o.2.2) := by
  obtain ⟨L0, e0, o, N, p, q⟩ := g
  obtain ⟨g1, t1, t2, t3⟩ := zrn_ev hok N D y 0 L0 [] h h' nc ns o hy R (q D N (Nat.le_refl _) (Nat.le_refl _))
  refine ⟨zrl f L0, by rw [zrn_en, e0]; rfl, (zrr f o.1, g1, o.2.2.1, o.2.2.2), N, ⟨o, p, rfl, t2, t3, rfl⟩, fun d n hd hn => ?_⟩
  obtain ⟨g2, u1, u2, u3⟩ := zrn_ev hok n d y 0 L0 [] h h' nc ns o hy R (q d n hd hn)
  rw [zrn_un R u2 t2 u3 t3] at u1
  exact u1
def zrOK : List Nat := [0, 3, 4, 5, 6, 7, 8, 9, 10, 11, 12, 13, 14, 15, 16, 17, 18, 19, 20, 21, 22, 23, 24, 25, 26, 27, 28, 29, 31, 32, 33, 34, 35, 36, 37, 38, 39, 40, 41, 42, 43, 44, 45, 46, 47, 48, 49, 50, 51, 52, 54, 55, 56, 57, 58, 59, 60, 63, 66, 69, 70, 71, 72, 73, 74, 75, 77, 78, 79, 80, 81, 82, 83, 84, 85, 86, 87, 88, 89, 90, 91, 92, 93, 94, 95, 96, 97, 99, 100, 101, 102, 103, 104, 105, 107, 108, 229]
theorem zrOK_ok : zrOK.all (zry zrOK) = true := by decide +kernel
end ZRM
