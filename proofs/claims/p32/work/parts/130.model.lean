/-! The reference: its cells, and kinds of values; what an accepted table of kinds says is proved in the parts behind this one. -/
abbrev zTy : Type := (Int × Int × Nat × Nat) ⊕ ((Nat × Int × Int × Nat) ⊕ ((Nat × Nat) ⊕ Nat))
theorem zTc {P : zTy → Prop} (t : zTy) (I : ∀ lo hi t s, P ((.inl (lo, hi, t, s)))) (B : ∀ i lo hi t, P ((.inr (.inl (i, lo, hi, t))))) (P' : ∀ lo hi, P ((.inr (.inr (.inl (lo, hi)))))) (N : P (.inr (.inr (.inr 0)))) (J : P (.inr (.inr (.inr 1)))) (D : P (.inr (.inr (.inr 2)))) (F : P (.inr (.inr (.inr 3)))) (Q : P (.inr (.inr (.inr 4)))) (C : P (.inr (.inr (.inr 5)))) (E4 : P (.inr (.inr (.inr 6)))) (E3 : P (.inr (.inr (.inr 7)))) (L : ∀ j, P ((.inr (.inr (.inr (j + 8)))))) : P t := match t with
  | (.inl (lo, hi, t, s)) => I lo hi t s
  | (.inr (.inl (i, lo, hi, t))) => B i lo hi t
  | (.inr (.inr (.inl (lo, hi)))) => P' lo hi
  | (.inr (.inr (.inr 0))) => N
  | (.inr (.inr (.inr 1))) => J
  | (.inr (.inr (.inr 2))) => D
  | (.inr (.inr (.inr 3))) => F
  | (.inr (.inr (.inr 4))) => Q
  | (.inr (.inr (.inr 5))) => C
  | (.inr (.inr (.inr 6))) => E4
  | (.inr (.inr (.inr 7))) => E3
  | (.inr (.inr (.inr (j + 8)))) => L j
abbrev zG : Type := (Nat → Int32) × (Nat → List Int32) × (Nat → Value) × (Nat → Nat) × Nat × Nat × Nat × Nat × (Nat → Nat)
abbrev zG.s (g : zG) : Nat → Int32 := g.1
abbrev zG.a (g : zG) : Nat → List Int32 := g.2.1
abbrev zG.f (g : zG) : Nat → Value := g.2.2.1
abbrev zG.p (g : zG) : Nat → Nat := g.2.2.2.1
abbrev zG.zs (g : zG) : Nat := g.2.2.2.2.1
abbrev zG.zw (g : zG) : Nat := g.2.2.2.2.2.1
abbrev zG.zn (g : zG) : Nat := g.2.2.2.2.2.2.1
abbrev zG.nl (g : zG) : Nat := g.2.2.2.2.2.2.2.1
abbrev zG.ze (g : zG) : Nat → Nat := g.2.2.2.2.2.2.2.2
/-- the bounds that are no numbers: the lists' sizes, the columns' -/
def zta (g : zG) (lg : Nat) : Nat → Int → Prop
  | 0, _ => True
  | 1, x => x < g.zs
  | 2, x => x ≤ g.zs
  | 3, x => x < g.zw
  | 4, x => x ≤ g.zw
  | 5, x => x < lg
  | 6, x => x ≤ lg
  | 7, x => x < g.zn
  | 8, x => x ≤ g.zn
  | _, _ => False
def zel4 (l : List Int32) : Prop := ∃ a b c d : Int32, l = [a, b, c, d] ∧ (0 ≤ a.toInt ∧ a.toInt ≤ 19) ∧ (0 ≤ b.toInt ∧ b.toInt ≤ 7)
def zsz (g : zG) (lg : Nat) : Nat → Nat
  | 0 => g.zs
  | 1 => g.zw
  | 2 => lg
  | j => g.ze j
def zQj : Nat → List Int32 → Prop
  | 2, l => l.length = 3
  | _, l => zel4 l
def zga (g : zG) (lg : Nat) (h : zH) (L : zL) : zTy → Value → Prop
  | (.inr (.inr (.inr 0))), _ => True
  | (.inl (lo, hi, t, src)), v => ∃ x : Int32, v = .int x ∧ lo ≤ x.toInt ∧ x.toInt ≤ hi ∧ zta g lg t x.toInt ∧ (src = 0 ∨ L[src - 1]? = some (some (.int x)))
  | (.inr (.inl (i, lo, hi, t))), v => ∃ x : Int32, v = .int x ∧ (x = 0 ∨ x = 1) ∧ (¬ x = 0 → ∃ w : Int32, L[i]? = some (some (.int w)) ∧ lo ≤ w.toInt ∧ w.toInt ≤ hi ∧ zta g lg t w.toInt)
  | (.inr (.inr (.inr 1))), v => ∃ x, v = .long x
  | (.inr (.inr (.inr 2))), v => ∃ k : Nat, k ≤ 64 ∧ v = .double (FP.ddiv (FP.i2d (Int32.ofNat k)) 4634204016564240384)
  | (.inr (.inr (.inr 3))), v => v = .double 4634204016564240384
  | (.inr (.inr (.inr 4))), v => ∃ x, v = .double x
  | (.inr (.inr (.inl (lo, hi)))), v => ∃ q, v = .ref q ∧ lo ≤ q ∧ q ≤ hi
  | (.inr (.inr (.inr 5))), v => ∃ q l, v = .ref q ∧ 73 ≤ q ∧ h[q]? = some (zar l) ∧ l.length = g.zn
  | (.inr (.inr (.inr 6))), v => ∃ q l, v = .ref q ∧ 73 ≤ q ∧ h[q]? = some (zar l) ∧ zel4 l
  | (.inr (.inr (.inr 7))), v => ∃ q l, v = .ref q ∧ 73 ≤ q ∧ h[q]? = some (zar l) ∧ l.length = 3
  | (.inr (.inr (.inr (j + 8)))), v => v = .ref (g.p j)
def zgs (g : zG) (lg : Nat) (h : zH) (L : zL) : List zTy → List Value → Prop
  | [], [] => True
  | t :: r, v :: s => zga g lg h L t v ∧ zgs g lg h L r s
  | _, _ => False
def zgl (g : zG) (lg : Nat) (h : zH) : List zTy → zL → Prop
  | [], [] => True
  | t :: r, o :: s => (t = (.inr (.inr (.inr 0))) ∨ ∃ v, o = some v ∧ zga g lg h [] t v) ∧ zgl g lg h r s
  | _, _ => False
abbrev zIA : zTy := (.inl ((-2147483648), 2147483647, 0, 0))
/-- the fields of the reference's object -/
def zfs : Nat → zTy
  | 0 => zIA
  | 1 => (.inl (4, 10, 0, 0))
  | 2 => (.inl (4, 6, 0, 0))
  | 3 => (.inr (.inr (.inr 5)))
  | 4 => (.inl (0, 2000, 0, 0))
  | 5 => (.inl (1, 100, 0, 0))
  | 6 => (.inl (2, 100, 0, 0))
  | 7 => (.inl (0, 8, 0, 0))
  | 8 => (.inl (0, 1, 0, 0))
  | 9 => (.inl (0, 1, 0, 0))
  | 10 => (.inl (0, 127, 0, 0))
  | 11 => (.inl ((-1), 250, 0, 0))
  | 12 => zIA
  | 13 => zIA
  | 14 => zIA
  | 15 => zIA
  | 16 => (.inr (.inr (.inl (46, 46))))
  | 17 => (.inr (.inr (.inl (67, 67))))
  | 18 => (.inr (.inr (.inl (68, 68))))
  | 19 => (.inr (.inr (.inl (69, 69))))
  | 20 => (.inr (.inr (.inl (70, 70))))
  | 21 => (.inr (.inr (.inl (71, 71))))
  | 22 => (.inr (.inr (.inl (72, 72))))
  | 23 => (.inr (.inr (.inr 8)))
  | 24 => (.inr (.inr (.inr 9)))
  | 25 => (.inr (.inr (.inr 10)))
  | _ => (.inr (.inr (.inr 0)))
/-- the rows of ints and booleans: tag, length, bounds -/
def zsp (q : Nat) : Option (Nat × Nat × Int × Int) :=
  if 47 ≤ q ∧ q ≤ 66 then some (100, 8, -2147483648, 2147483647)
  else if q = 67 ∨ q = 68 then some (100, 20, -2147483648, 2147483647)
  else if q = 69 then some (100, 16, 0, 19)
  else if q = 70 then some (100, 2, 0, 2)
  else if q = 71 ∨ q = 72 then some (101, 128, 0, 1) else none
/-- the fields that only methods written by hand may change -/
def zfz : List Nat := [1, 2, 3, 4, 13]
def zLi (h : zH) (r n : Nat) (Q : List Int32 → Prop) (dq : Option Nat) : Prop := ∃ es : List Nat, zLs h r dq es ∧ es.length = n ∧ ∀ e ∈ es, 73 ≤ e ∧ ∃ l, h[e]? = some (zar l) ∧ Q l
abbrev zHI (g : zG) (lg : Nat) (h : zH) : Prop := (h.take 44 = zx g.s g.a []) ∧ (∃ vs, h[44]? = some (7, vs) ∧ vs.length = 26 ∧ (∀ k, k < 26 → ∃ v, vs[k]? = some v ∧ zga g lg h [] (zfs k) v) ∧ ∀ k ∈ zfz, vs[k]? = some (g.f k)) ∧ (h[46]? = some (104, (List.range 20).map (fun j => .ref (47 + j)))) ∧ (∀ q t n lo hi, zsp q = some (t, n, lo, hi) → ∃ l : List Int32, h[q]? = some (t, l.map Value.int) ∧ l.length = n ∧ ∀ x ∈ l, lo ≤ x.toInt ∧ x.toInt ≤ hi) ∧ (∃ E : Nat → Option Nat, ∀ j, j < g.nl → 73 ≤ g.p j ∧ zLi h (g.p j) (zsz g lg j) (zQj j) (E j) ∧ (∀ q, E j = some q → 73 ≤ q) ∧ ∀ i, i < g.nl → i ≠ j → g.p i ≠ g.p j ∧ ∀ q, E j = some q → E i ≠ some q) ∧ (∃ x y : Int32, g.f 1 = .int x ∧ g.f 2 = .int y ∧ x.toInt + y.toInt = g.zn) ∧ (g.zs ≤ 24 ∧ g.zw ≤ 24 ∧ lg ≤ 40 ∧ 8 ≤ g.zn ∧ g.zn ≤ 16 ∧ 3 ≤ g.nl ∧ ∀ j, g.ze j ≤ 24)
theorem zHI.cls {g : zG} {lg : Nat} {h : zH} (k : zHI g lg h) : h.take 44 = zx g.s g.a [] := k.1
theorem zHI.obj {g : zG} {lg : Nat} {h : zH} (k : zHI g lg h) : ∃ vs, h[44]? = some (7, vs) ∧ vs.length = 26 ∧ (∀ k, k < 26 → ∃ v, vs[k]? = some v ∧ zga g lg h [] (zfs k) v) ∧ ∀ k ∈ zfz, vs[k]? = some (g.f k) := k.2.1
theorem zHI.outer {g : zG} {lg : Nat} {h : zH} (k : zHI g lg h) : h[46]? = some (104, (List.range 20).map (fun j => .ref (47 + j))) := k.2.2.1
theorem zHI.rows {g : zG} {lg : Nat} {h : zH} (k : zHI g lg h) : ∀ q t n lo hi, zsp q = some (t, n, lo, hi) → ∃ l : List Int32, h[q]? = some (t, l.map Value.int) ∧ l.length = n ∧ ∀ x ∈ l, lo ≤ x.toInt ∧ x.toInt ≤ hi := k.2.2.2.1
theorem zHI.lists {g : zG} {lg : Nat} {h : zH} (k : zHI g lg h) : ∃ E : Nat → Option Nat, ∀ j, j < g.nl → 73 ≤ g.p j ∧ zLi h (g.p j) (zsz g lg j) (zQj j) (E j) ∧ (∀ q, E j = some q → 73 ≤ q) ∧ ∀ i, i < g.nl → i ≠ j → g.p i ≠ g.p j ∧ ∀ q, E j = some q → E i ≠ some q := k.2.2.2.2.1
theorem zHI.bits {g : zG} {lg : Nat} {h : zH} (k : zHI g lg h) : ∃ x y : Int32, g.f 1 = .int x ∧ g.f 2 = .int y ∧ x.toInt + y.toInt = g.zn := k.2.2.2.2.2.1
theorem zHI.sizes {g : zG} {lg : Nat} {h : zH} (k : zHI g lg h) : g.zs ≤ 24 ∧ g.zw ≤ 24 ∧ lg ≤ 40 ∧ 8 ≤ g.zn ∧ g.zn ≤ 16 ∧ 3 ≤ g.nl ∧ ∀ j, g.ze j ≤ 24 := k.2.2.2.2.2.2
/-- what lies behind the fixed cells stays, but for lists -/
def zLE (h h' : zH) : Prop := ∀ q c, 73 ≤ q → h[q]? = some c → ¬ c.1 = 10 → ¬ c.1 = 103 → h'[q]? = some c
theorem zLEz {h h' : zH} {q : Nat} {l : List Int32} (k : zLE h h') (a : 73 ≤ q) (b : h[q]? = some (zar l)) : h'[q]? = some (zar l) := k q _ a b (show ¬ 100 = 10 by decide) (show ¬ 100 = 103 by decide)
/-- a method's contract: arguments, result, depth, cells, slots -/
abbrev zCt : Type := Nat × List zTy × Option zTy × Nat × Nat × Nat
abbrev zCt.y (c : zCt) : Nat := c.1
abbrev zCt.as (c : zCt) : List zTy := c.2.1
abbrev zCt.rt (c : zCt) : Option zTy := c.2.2.1
abbrev zCt.dep (c : zCt) : Nat := c.2.2.2.1
abbrev zCt.dc (c : zCt) : Nat := c.2.2.2.2.1
abbrev zCt.ds (c : zCt) : Nat := c.2.2.2.2.2
def zgo2 (g : zG) (lg : Nat) (h : zH) (L : zL) : Option zTy → Option Value → Prop
  | none, v => v = none
  | some t, v => ∃ w, v = some w ∧ zga g lg h L t w
def zPm (g : zG) (lg : Nat) (h : zH) (nc ns : Nat) (rt : Option zTy) (dc ds : Nat) (as : List Value) : zO → Prop := fun o => ∃ v h' lg' nc' ns', o = (.inl v, h', nc', ns') ∧ zgo2 g lg' h' (as.map some) rt v ∧ zHI g lg' h' ∧ zLE h h' ∧ lg ≤ lg' ∧ nc' + 2 * lg ≤ nc + 2 * lg' + dc ∧ ns' + 100 * lg ≤ ns + 100 * lg' + ds
def zGd (xs : List Int32) (ct : zCt) : Prop := ∀ g lg h nc ns as, zHI g lg h → zgs g lg h [] ct.as as → zMs xs ct.dep ct.y as h nc ns (zPm g lg h nc ns ct.rt ct.dc ct.ds as)
/-! What is kept. -/
theorem zta_mo {g : zG} {lg lg' t : Nat} {x : Int} (hl : lg ≤ lg') (h : zta g lg t x) : zta g lg' t x := by
  unfold zta at h ⊢
  split at h <;> first | exact h | (show x < _; have h : x < (lg : Int) := h; omega) | (show x ≤ _; have h : x ≤ (lg : Int) := h; omega)
theorem zga_mo {g : zG} {lg lg' : Nat} {h h' : zH} {L : zL} {t : zTy} {v : Value} (hl : lg ≤ lg') (hh : zLE h h') (k : zga g lg h L t v) : zga g lg' h' L t v := by
  induction t using zTc with
  | I lo hi t src =>
    obtain ⟨x, e, a, b, c, d⟩ := k
    exact ⟨x, e, a, b, zta_mo hl c, d⟩
  | B i lo hi t =>
    obtain ⟨x, e, a, b⟩ := k
    refine ⟨x, e, a, fun z => ?_⟩
    obtain ⟨w, c1, c2, c3, c4⟩ := b z
    exact ⟨w, c1, c2, c3, zta_mo hl c4⟩
  | C =>
    obtain ⟨q, l, e, a, b, c⟩ := k
    exact ⟨q, l, e, a, zLEz hh a b, c⟩
  | E4 =>
    obtain ⟨q, l, e, a, b, c⟩ := k
    exact ⟨q, l, e, a, zLEz hh a b, c⟩
  | E3 =>
    obtain ⟨q, l, e, a, b, c⟩ := k
    exact ⟨q, l, e, a, zLEz hh a b, c⟩
  | _ => exact k
theorem zgs_mo {g : zG} {lg lg' : Nat} {h h' : zH} {L : zL} (hl : lg ≤ lg') (hh : zLE h h') : ∀ {S : List zTy} {st : List Value}, zgs g lg h L S st → zgs g lg' h' L S st
  | [], [], _ => trivial
  | _ :: _, _ :: _, k => ⟨zga_mo hl hh k.1, zgs_mo hl hh k.2⟩
  | [], _ :: _, k => k.elim
  | _ :: _, [], k => k.elim
theorem zgl_mo {g : zG} {lg lg' : Nat} {h h' : zH} (hl : lg ≤ lg') (hh : zLE h h') : ∀ {S : List zTy} {L : zL}, zgl g lg h S L → zgl g lg' h' S L
  | [], [], _ => trivial
  | _ :: _, _ :: _, k => ⟨k.1.imp id (fun ⟨v, a, b⟩ => ⟨v, a, zga_mo hl hh b⟩), zgl_mo hl hh k.2⟩
  | [], _ :: _, k => k.elim
  | _ :: _, [], k => k.elim
theorem zga_L {g : zG} {lg : Nat} {h : zH} {L : zL} {t : zTy} {v : Value} (k : zga g lg h [] t v) : zga g lg h L t v := by
  induction t using zTc with
  | I lo hi t src =>
    obtain ⟨x, e, a, b, c, d⟩ := k
    refine ⟨x, e, a, b, c, Or.inl (d.resolve_right ?_)⟩
    intro z
    cases z
  | B i lo hi t =>
    obtain ⟨x, e, a, b⟩ := k
    refine ⟨x, e, a, fun z => ?_⟩
    obtain ⟨w, c1, c2, c3, c4⟩ := b z
    cases c1
  | _ => exact k
/-- without what it says of the locals -/
def zfl : zTy → zTy
  | (.inl (lo, hi, t, _)) => (.inl (lo, hi, t, 0))
  | (.inr (.inl (_, _, _, _))) => (.inl (0, 1, 0, 0))
  | t => t
theorem zga_fl {g : zG} {lg : Nat} {h : zH} {L L' : zL} {t : zTy} {v : Value} (k : zga g lg h L t v) : zga g lg h L' (zfl t) v := by
  induction t using zTc with
  | I lo hi t src =>
    obtain ⟨x, e, a, b, c, d⟩ := k
    exact ⟨x, e, a, b, c, Or.inl rfl⟩
  | B i lo hi t =>
    obtain ⟨x, e, a, b⟩ := k
    refine ⟨x, e, ?_, ?_, trivial, Or.inl rfl⟩ <;> rcases a with rfl | rfl <;> decide
  | _ => exact k
def zfree : zTy → Bool
  | (.inl (_, _, _, s)) => s == 0
  | (.inr (.inl (_, _, _, _))) => false
  | _ => true
theorem zgs_free {g : zG} {lg : Nat} {h : zH} {L L' : zL} : ∀ {S : List zTy} {st : List Value}, S.all zfree = true → zgs g lg h L S st → zgs g lg h L' S st
  | [], [], _, _ => trivial
  | t :: r, _ :: _, f, k => by
    rw [List.all_cons, Bool.and_eq_true] at f
    refine ⟨?_, zgs_free f.2 k.2⟩
    have e : zfl t = t := by
      induction t using zTc with
      | I lo hi t s =>
        have z : s = 0 := by simpa [zfree] using f.1
        subst z
        rfl
      | B i lo hi t => exact absurd f.1 (by simp [zfree])
      | _ => rfl
    have z := zga_fl (L' := L') k.1
    rw [e] at z
    exact z
  | [], _ :: _, _, k => k.elim
  | _ :: _, [], _, k => k.elim
/-- below -/
def zsub : zTy → zTy → Bool
  | _, (.inr (.inr (.inr 0))) => true
  | (.inl (a, b, t, s)), (.inl (a', b', t', s')) => decide (a' ≤ a) && decide (b ≤ b') && (t' == 0 || t' == t || (t % 2 == 1 && t' == t + 1)) && (s' == 0 || s' == s)
  | (.inr (.inl (_, _, _, _))), (.inl (a', b', t', s')) => decide (a' ≤ 0) && decide (1 ≤ b') && t' == 0 && s' == 0
  | (.inr (.inl (i, a, b, t))), (.inr (.inl (i', a', b', t'))) => i == i' && decide (a = a') && decide (b = b') && t == t'
  | (.inr (.inr (.inr 1))), (.inr (.inr (.inr 1))) => true
  | (.inr (.inr (.inr 2))), (.inr (.inr (.inr 2))) => true
  | (.inr (.inr (.inr 3))), (.inr (.inr (.inr 3))) => true
  | (.inr (.inr (.inr 4))), (.inr (.inr (.inr 4))) => true
  | (.inr (.inr (.inr 2))), (.inr (.inr (.inr 4))) => true
  | (.inr (.inr (.inl (a, b)))), (.inr (.inr (.inl (a', b')))) => decide (a' ≤ a) && decide (b ≤ b')
  | (.inr (.inr (.inr 5))), (.inr (.inr (.inr 5))) => true
  | (.inr (.inr (.inr 6))), (.inr (.inr (.inr 6))) => true
  | (.inr (.inr (.inr 7))), (.inr (.inr (.inr 7))) => true
  | (.inr (.inr (.inr (j + 8)))), (.inr (.inr (.inr (j' + 8)))) => j == j'
  | _, _ => false
theorem zta_w {g : zG} {lg t : Nat} {x : Int} (h : zta g lg t x) (ht : t % 2 = 1) : zta g lg (t + 1) x := by
  unfold zta at h
  split at h <;> first | omega | exact Int.le_of_lt h | exact h.elim
theorem zsb_ok {g : zG} {lg : Nat} {h : zH} {L : zL} {t t' : zTy} {v : Value} (e : zsub t t' = true) (k : zga g lg h L t v) : zga g lg h L t' v := by
  unfold zsub at e
  split at e
  · trivial
  · next a b t s a' b' t' s' =>
    simp only [Bool.and_eq_true, Bool.or_eq_true, decide_eq_true_eq, beq_iff_eq] at e
    obtain ⟨⟨⟨e1, e2⟩, e3⟩, e4⟩ := e
    obtain ⟨x, q, k1, k2, k3, k4⟩ := k
    refine ⟨x, q, Int.le_trans e1 k1, Int.le_trans k2 e2, ?_, ?_⟩
    · rcases e3 with (rfl | rfl) | ⟨z, rfl⟩
      · trivial
      · exact k3
      · exact zta_w k3 z
    · rcases e4 with rfl | rfl
      · exact Or.inl rfl
      · exact k4
  · next i a b t a' b' t' s' =>
    simp only [Bool.and_eq_true, decide_eq_true_eq, beq_iff_eq] at e
    obtain ⟨⟨⟨e1, e2⟩, rfl⟩, rfl⟩ := e
    obtain ⟨x, q, k1, k2⟩ := k
    refine ⟨x, q, ?_, ?_, trivial, Or.inl rfl⟩ <;> rcases k1 with rfl | rfl
    · show a' ≤ 0
      exact e1
    · show a' ≤ 1
      omega
    · show (0 : Int) ≤ b'
      omega
    · show (1 : Int) ≤ b'
      exact e2
  · next i a b t i' a' b' t' =>
    simp only [Bool.and_eq_true, decide_eq_true_eq, beq_iff_eq] at e
    obtain ⟨⟨⟨rfl, rfl⟩, rfl⟩, rfl⟩ := e
    exact k
  · exact k
  · exact k
  · exact k
  · exact k
  · obtain ⟨q, -, k⟩ := k
    exact ⟨_, k⟩
  · next a b a' b' =>
    simp only [Bool.and_eq_true, decide_eq_true_eq] at e
    obtain ⟨q, rfl, k1, k2⟩ := k
    exact ⟨q, rfl, Nat.le_trans e.1 k1, Nat.le_trans k2 e.2⟩
  · exact k
  · exact k
  · exact k
  · next j j' =>
    rw [beq_iff_eq] at e
    subst e
    exact k
  · cases e
def zsbs : List zTy → List zTy → Bool
  | [], [] => true
  | t :: r, t' :: r' => zsub t t' && zsbs r r'
  | _, _ => false
theorem zsbs_s {g : zG} {lg : Nat} {h : zH} {L : zL} : ∀ {S S' : List zTy} {st : List Value}, zsbs S S' = true → zgs g lg h L S st → zgs g lg h L S' st
  | [], [], [], _, _ => trivial
  | t :: r, t' :: r', v :: s, e, k => by
    have e : (zsub t t' && zsbs r r') = true := e
    rw [Bool.and_eq_true] at e
    exact ⟨zsb_ok e.1 k.1, zsbs_s e.2 k.2⟩
  | [], _, _ :: _, _, k => k.elim
  | _ :: _, _, [], _, k => k.elim
  | [], _ :: _, _, e, _ => by cases e
  | _ :: _, [], _, e, _ => by cases e
theorem zsbs_l {g : zG} {lg : Nat} {h : zH} : ∀ {S S' : List zTy} {L : zL}, zsbs S S' = true → zgl g lg h S L → zgl g lg h S' L
  | [], [], [], _, _ => trivial
  | t :: r, t' :: r', v :: s, e, k => by
    have e : (zsub t t' && zsbs r r') = true := e
    rw [Bool.and_eq_true] at e
    refine ⟨?_, zsbs_l e.2 k.2⟩
    rcases k.1 with rfl | ⟨v, rfl, k1⟩
    · left
      have e := e.1
      induction t' using zTc <;> first | rfl | cases e
    · exact Or.inr ⟨v, rfl, zsb_ok e.1 k1⟩
  | [], _, _ :: _, _, k => k.elim
  | _ :: _, _, [], _, k => k.elim
  | [], _ :: _, _, e, _ => by cases e
  | _ :: _, [], _, e, _ => by cases e
