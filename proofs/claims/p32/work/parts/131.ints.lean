/-! Bounds of ints. -/
theorem zbm {n : Int} (h1 : -2147483648 ≤ n) (h2 : n ≤ 2147483647) : n.bmod (2 ^ 32) = n := by
  rw [Int.bmod_def, show (((2 : Nat) ^ 32 : Nat) : Int) = 4294967296 from rfl]
  split <;> omega
theorem zIA_ok {g : zG} {lg : Nat} {h : zH} {L : zL} (x : Int32) : zga g lg h L zIA (.int x) := ⟨x, rfl, Int32.le_toInt x, by have := Int32.toInt_lt x; omega, trivial, Or.inl rfl⟩
def zmk (lo hi : Int) : zTy := if -2147483648 ≤ lo ∧ hi ≤ 2147483647 then (.inl (lo, hi, 0, 0)) else zIA
theorem zmk_ok {g : zG} {lg : Nat} {h : zH} {L : zL} {x : Int32} {lo hi z : Int} (e : x.toInt = z.bmod (2 ^ 32)) (h1 : lo ≤ z) (h2 : z ≤ hi) : zga g lg h L (zmk lo hi) (.int x) := by
  unfold zmk
  split
  · next q =>
    rw [zbm (by omega) (by omega)] at e
    exact ⟨x, rfl, by omega, by omega, trivial, Or.inl rfl⟩
  · exact zIA_ok x
def zlo : zTy → Option (Int × Int × Nat)
  | (.inl (lo, hi, t, _)) => some (lo, hi, t)
  | (.inr (.inl (_, _, _, _))) => some (0, 1, 0)
  | _ => none
def zsrc : zTy → Nat
  | (.inl (_, _, _, s)) => s
  | _ => 0
theorem zlo_ok {g : zG} {lg : Nat} {h : zH} {L : zL} {t : zTy} {v : Value} {a b : Int} {c : Nat} (e : zlo t = some (a, b, c)) (k : zga g lg h L t v) : ∃ x : Int32, v = .int x ∧ a ≤ x.toInt ∧ x.toInt ≤ b ∧ zta g lg c x.toInt ∧ (zsrc t = 0 ∨ L[zsrc t - 1]? = some (some (.int x))) := by
  induction t using zTc with
  | I lo hi t src =>
    cases e
    exact k
  | B i lo hi t =>
    cases e
    obtain ⟨x, e, k, -⟩ := k
    refine ⟨x, e, ?_, ?_, trivial, Or.inl rfl⟩ <;> rcases k with rfl | rfl <;> decide
  | _ => cases e
/-- below the bound, strictly -/
def ztl : Nat → Nat
  | 2 => 1
  | 4 => 3
  | 6 => 5
  | 8 => 7
  | t => t
theorem ztl_ok {g : zG} {lg t : Nat} {x y : Int} (hx : x < y) (k : zta g lg t y) : zta g lg (ztl t) x := by
  unfold zta at k
  split at k <;> first | trivial | exact k.elim | exact Int.lt_of_lt_of_le hx k | exact Int.lt_trans hx k
theorem zta_le {g : zG} {lg t : Nat} {x y : Int} (hx : x ≤ y) (k : zta g lg t y) : zta g lg t x := by
  unfold zta at k ⊢
  split at k <;> first | trivial | exact k.elim | exact Int.le_trans hx k | exact Int.lt_of_le_of_lt hx k
/-- operations on two ints: x below, y on top -/
def zbA (i : Instr) (a b a2 b2 : Int) (t : Nat) : Option zTy := match i with
  | .iadd => some (zmk (a + a2) (b + b2))
  | .isub => some (if -2147483648 ≤ a - b2 ∧ b - a2 ≤ 2147483647 then (.inl ((a - b2), (b - a2), (if a2 = 1 ∧ b2 = 1 then ztl t else 0), 0)) else zIA)
  | .imul => some (if a2 = b2 ∧ 0 ≤ a2 then zmk (a * a2) (b * a2) else if a = b ∧ 0 ≤ a then zmk (a2 * a) (b2 * a) else zIA)
  | .idiv => if 0 < a2 then some (if 0 ≤ a ∧ a2 = b2 then (.inl ((a / a2), (b / a2), 0, 0)) else zIA) else none
  | .irem => if 0 < a2 then some (if 0 ≤ a then (.inl (0, (min b (b2 - 1)), 0, 0)) else zIA) else none
  | .iand => some zIA
  | .ior => some (if 0 ≤ a ∧ b ≤ 1 ∧ 0 ≤ a2 ∧ b2 ≤ 1 then (.inl (0, 1, 0, 0)) else zIA)
  | .ixor => some zIA
  | .ishl => some zIA
  | .ishr => some zIA
  | _ => none
theorem zbA_ok {g : zG} {lg : Nat} {h : zH} {L : zL} {xs : List Int32} {i : Instr} {a b a2 b2 : Int} {t pc nx k y n c : Nat} {T : zTy} {x z : Int32} {r : List Value} (e : zbA i a b a2 b2 t = some T) (h1 : a ≤ x.toInt) (h2 : x.toInt ≤ b) (h3 : a2 ≤ z.toInt) (h4 : z.toInt ≤ b2) (ht : zta g lg t x.toInt) : ∃ w, zstep zcf xs pc i nx k y n c L (.int z :: .int x :: r) h = some (.inl (nx, L, .int w :: r, h, 0, 0)) ∧ zga g lg h L T (.int w) := by
  unfold zbA at e
  split at e
  · cases e
    refine ⟨x + z, rfl, zmk_ok (Int32.toInt_add x z) (by omega) (by omega)⟩
  · cases e
    refine ⟨x - z, rfl, ?_⟩
    split
    · next q =>
      have e := Int32.toInt_sub x z
      rw [zbm (by omega) (by omega)] at e
      refine ⟨_, rfl, by omega, by omega, ?_, Or.inl rfl⟩
      split
      · exact ztl_ok (by omega) ht
      · trivial
    · exact zIA_ok _
  · cases e
    refine ⟨x * z, rfl, ?_⟩
    split
    · next q =>
      obtain ⟨q1, q2⟩ := q
      have e : z.toInt = a2 := by omega
      refine zmk_ok (Int32.toInt_mul x z) ?_ ?_
      · rw [e]
        exact Int.mul_le_mul_of_nonneg_right h1 q2
      · rw [e]
        exact Int.mul_le_mul_of_nonneg_right h2 q2
    · split
      · next q =>
        obtain ⟨q1, q2⟩ := q
        have e : x.toInt = a := by omega
        refine zmk_ok (Int32.toInt_mul x z) ?_ ?_
        · rw [e, Int.mul_comm]
          exact Int.mul_le_mul_of_nonneg_left h3 q2
        · rw [e, Int.mul_comm b2]
          exact Int.mul_le_mul_of_nonneg_left h4 q2
      · exact zIA_ok _
  · split at e
    · next q =>
      cases e
      have hz : ¬ z = 0 := by
        rintro rfl
        rw [zero_z] at h3
        omega
      refine ⟨x / z, if_neg hz, ?_⟩
      split
      · next q2 =>
        obtain ⟨q2, q3⟩ := q2
        have e2 := Int32.toInt_div_of_ne_right x z (by rintro rfl; have : (-1 : Int32).toInt = -1 := by decide
                                                       omega)
        rw [Int.tdiv_eq_ediv_of_nonneg (by omega), show z.toInt = a2 by omega] at e2
        refine ⟨_, rfl, ?_, ?_, trivial, Or.inl rfl⟩
        · rw [e2]
          exact Int.ediv_le_ediv q h1
        · rw [e2]
          exact Int.ediv_le_ediv q h2
      · exact zIA_ok _
    · cases e
  · split at e
    · next q =>
      cases e
      have hz : ¬ z = 0 := by
        rintro rfl
        rw [zero_z] at h3
        omega
      refine ⟨x - x / z * z, if_neg hz, ?_⟩
      split
      · next q2 =>
        have e2 := Int32.toInt_div_of_ne_right x z (by rintro rfl; have : (-1 : Int32).toInt = -1 := by decide
                                                       omega)
        rw [Int.tdiv_eq_ediv_of_nonneg (by omega)] at e2
        have hx := Int32.toInt_lt x
        have m1 := Int.emod_add_mul_ediv x.toInt z.toInt
        have m2 := Int.emod_nonneg x.toInt (show z.toInt ≠ 0 by omega)
        have m3 := Int.emod_lt_of_pos x.toInt (show 0 < z.toInt by omega)
        have m4 : 0 ≤ x.toInt / z.toInt := Int.ediv_nonneg (by omega) (by omega)
        have m5 : 0 ≤ z.toInt * (x.toInt / z.toInt) := Int.mul_nonneg (by omega) m4
        have e3 := Int32.toInt_mul (x / z) z
        rw [e2, Int.mul_comm, zbm (by omega) (by omega)] at e3
        have e4 := Int32.toInt_sub x (x / z * z)
        rw [e3, zbm (by omega) (by omega)] at e4
        refine ⟨_, rfl, by omega, by omega, trivial, Or.inl rfl⟩
      · exact zIA_ok _
    · cases e
  · cases e
    exact ⟨_, rfl, zIA_ok _⟩
  · cases e
    refine ⟨x ||| z, rfl, ?_⟩
    split
    · next q =>
      have u1 : x = 0 ∨ x = 1 := by
        rcases (show x.toInt = 0 ∨ x.toInt = 1 by omega) with w | w
        · exact Or.inl (Int32.toInt_inj.mp w)
        · exact Or.inr (Int32.toInt_inj.mp w)
      have u2 : z = 0 ∨ z = 1 := by
        rcases (show z.toInt = 0 ∨ z.toInt = 1 by omega) with w | w
        · exact Or.inl (Int32.toInt_inj.mp w)
        · exact Or.inr (Int32.toInt_inj.mp w)
      refine ⟨_, rfl, ?_, ?_, trivial, Or.inl rfl⟩ <;> rcases u1 with rfl | rfl <;> rcases u2 with rfl | rfl <;> decide
    · exact zIA_ok _
  all_goals first
    | (cases e; exact ⟨_, rfl, zIA_ok _⟩)
    | cases e
/-! Branches. -/
def zci (q : ClassFile.Cond) (a b : Int) : Prop := match q with
  | .eq => a = b
  | .ne => ¬ a = b
  | .lt => a < b
  | .ge => b ≤ a
  | .gt => b < a
  | .le => a ≤ b
def znq : ClassFile.Cond → ClassFile.Cond
  | .eq => .ne
  | .ne => .eq
  | .lt => .ge
  | .ge => .lt
  | .gt => .le
  | .le => .gt
def zfq : ClassFile.Cond → ClassFile.Cond
  | .eq => .eq
  | .ne => .ne
  | .lt => .gt
  | .ge => .le
  | .gt => .lt
  | .le => .ge
theorem zci_t {q : ClassFile.Cond} {x y : Int32} (g : zcq q x y) : zci q x.toInt y.toInt := by
  cases q
  · exact zF_eq_t g
  · exact zF_ne_t g
  · exact zF_lt_t g
  · exact zF_ge_t g
  · exact zF_gt_t g
  · exact zF_le_t g
theorem zci_f {q : ClassFile.Cond} {x y : Int32} (g : zcn9 q x y) : zci (znq q) x.toInt y.toInt := by
  cases q
  · exact zF_eq_f g
  · exact zF_ne_f g
  · exact zF_lt_f g
  · exact zF_ge_f g
  · exact zF_gt_f g
  · exact zF_le_f g
theorem zci_s {q : ClassFile.Cond} {a b : Int} (g : zci q a b) : zci (zfq q) b a := by
  cases q <;> first | exact g | exact Eq.symm g | exact fun z => g z.symm
def zrf (q : ClassFile.Cond) (a b : Int) (t : Nat) (a2 b2 : Int) (t2 : Nat) : Int × Int × Nat := match q with
  | .eq => (max a a2, min b b2, if t = 0 then t2 else t)
  | .ne => if a2 = b2 then (if a = a2 then (a + 1, b, t) else if b = a2 then (a, b - 1, t) else (a, b, t)) else (a, b, t)
  | .lt => (a, min b (b2 - 1), if t = 0 then ztl t2 else t)
  | .le => (a, min b b2, if t = 0 then t2 else t)
  | .gt => (max a (a2 + 1), b, t)
  | .ge => (max a a2, b, t)
theorem zrf_ok {g : zG} {lg : Nat} {q : ClassFile.Cond} {a b a2 b2 x y : Int} {t t2 : Nat} (h1 : a ≤ x) (h2 : x ≤ b) (h3 : zta g lg t x) (k1 : a2 ≤ y) (k2 : y ≤ b2) (k3 : zta g lg t2 y) (hq : zci q x y) : (zrf q a b t a2 b2 t2).1 ≤ x ∧ x ≤ (zrf q a b t a2 b2 t2).2.1 ∧ zta g lg (zrf q a b t a2 b2 t2).2.2 x := by
  cases q
  · have hq : x = y := hq
    subst hq
    refine ⟨show max a a2 ≤ x by omega, show x ≤ min b b2 by omega, ?_⟩
    show zta g lg (if t = 0 then t2 else t) x
    split <;> assumption
  · have hq : ¬ x = y := hq
    unfold zrf
    dsimp only
    split
    · split
      · exact ⟨show a + 1 ≤ x by omega, h2, h3⟩
      · split
        · exact ⟨h1, show x ≤ b - 1 by omega, h3⟩
        · exact ⟨h1, h2, h3⟩
    · exact ⟨h1, h2, h3⟩
  · have hq : x < y := hq
    refine ⟨h1, show x ≤ min b (b2 - 1) by omega, ?_⟩
    show zta g lg (if t = 0 then ztl t2 else t) x
    split
    · exact ztl_ok hq k3
    · exact h3
  · have hq : y ≤ x := hq
    exact ⟨show max a a2 ≤ x by omega, h2, h3⟩
  · have hq : y < x := hq
    exact ⟨show max a (a2 + 1) ≤ x by omega, h2, h3⟩
  · have hq : x ≤ y := hq
    refine ⟨h1, show x ≤ min b b2 by omega, ?_⟩
    show zta g lg (if t = 0 then t2 else t) x
    split
    · exact zta_le hq k3
    · exact h3
/-! Locals. -/
theorem zgl_set {g : zG} {lg : Nat} {h : zH} {T : zTy} {v : Value} : ∀ {A : List zTy} {L : zL} {i : Nat}, zgl g lg h A L → L[i]? = some (some v) → zga g lg h [] T v → zgl g lg h (A.set i T) L
  | [], [], _, _, e, _ => by cases e
  | _ :: _, _ :: _, 0, k, e, z => by
    cases e
    exact ⟨Or.inr ⟨_, rfl, z⟩, k.2⟩
  | _ :: _, _ :: _, i + 1, k, e, z => ⟨k.1, zgl_set (i := i) k.2 e z⟩
  | [], _ :: _, _, k, _, _ => k.elim
  | _ :: _, [], _, k, _, _ => k.elim
theorem zgl_get {g : zG} {lg : Nat} {h : zH} {T : zTy} : ∀ {A : List zTy} {L : zL} {i : Nat}, zgl g lg h A L → A[i]? = some T → T = (.inr (.inr (.inr 0))) ∨ ∃ v, L[i]? = some (some v) ∧ zga g lg h [] T v
  | [], [], _, _, e => by cases e
  | _ :: _, _ :: _, 0, k, e => by
    cases e
    exact k.1.imp id (fun ⟨v, a, b⟩ => ⟨v, congrArg some a, b⟩)
  | _ :: _, _ :: _, i + 1, k, e => zgl_get (i := i) k.2 e
  | [], _ :: _, _, k, _ => k.elim
  | _ :: _, [], _, k, _ => k.elim
def zput1 (A : List zTy) (s : Nat) (T : zTy) : List zTy := if s = 0 then A else A.set (s - 1) T
theorem zput1_ok {g : zG} {lg : Nat} {h : zH} {T : zTy} {v : Value} {A : List zTy} {L : zL} {s : Nat} (k : zgl g lg h A L) (e : s = 0 ∨ L[s - 1]? = some (some v)) (z : zga g lg h [] T v) : zgl g lg h (zput1 A s T) L := by
  unfold zput1
  split
  · exact k
  · next q => exact zgl_set k (e.resolve_left q) z
def zbrA (q : ClassFile.Cond) (x y : zTy) (A r : List zTy) (pc : Nat) : List (Nat × List zTy × List zTy) := match zlo x, zlo y with
  | some (a, b, t), some (a2, b2, t2) =>
    if (zrf q a b t a2 b2 t2).1 ≤ (zrf q a b t a2 b2 t2).2.1 ∧ (zrf (zfq q) a2 b2 t2 a b t).1 ≤ (zrf (zfq q) a2 b2 t2 a b t).2.1 then
      [(pc, zput1 (zput1 A (zsrc x) ((.inl ((zrf q a b t a2 b2 t2).1, (zrf q a b t a2 b2 t2).2.1, (zrf q a b t a2 b2 t2).2.2, 0)))) (zsrc y) ((.inl ((zrf (zfq q) a2 b2 t2 a b t).1, (zrf (zfq q) a2 b2 t2 a b t).2.1, (zrf (zfq q) a2 b2 t2 a b t).2.2, 0))), r)] else []
  | _, _ => []
theorem zbrA_ok {g : zG} {lg : Nat} {h : zH} {L : zL} {q : ClassFile.Cond} {X Y : zTy} {A r : List zTy} {pc : Nat} {x y : Int32} (hA : zgl g lg h A L) (hX : zga g lg h L X (.int x)) (hY : zga g lg h L Y (.int y)) (eX : (zlo X).isSome = true) (eY : (zlo Y).isSome = true) (hq : zci q x.toInt y.toInt) : ∃ A', (pc, A', r) ∈ zbrA q X Y A r pc ∧ zgl g lg h A' L := by
  obtain ⟨⟨a, b, t⟩, e1⟩ := Option.isSome_iff_exists.mp eX
  obtain ⟨⟨a2, b2, t2⟩, e2⟩ := Option.isSome_iff_exists.mp eY
  obtain ⟨x', ex, p1, p2, p3, p4⟩ := zlo_ok e1 hX
  obtain ⟨y', ey, s1, s2, s3, s4⟩ := zlo_ok e2 hY
  cases ex
  cases ey
  have u := zrf_ok p1 p2 p3 s1 s2 s3 hq
  have w := zrf_ok s1 s2 s3 p1 p2 p3 (zci_s hq)
  unfold zbrA
  rw [e1, e2]
  dsimp only
  rw [if_pos ⟨Int.le_trans u.1 u.2.1, Int.le_trans w.1 w.2.1⟩]
  exact ⟨_, List.mem_cons_self, zput1_ok (zput1_ok hA p4 ⟨x, rfl, u.1, u.2.1, u.2.2, Or.inl rfl⟩) s4 ⟨y, rfl, w.1, w.2.1, w.2.2, Or.inl rfl⟩⟩
/-! Stores. -/
def zkA : zTy → zTy
  | (.inr (.inr (.inr 1))) => (.inr (.inr (.inr 0)))
  | (.inr (.inr (.inr 2))) => (.inr (.inr (.inr 0)))
  | (.inr (.inr (.inr 3))) => (.inr (.inr (.inr 0)))
  | (.inr (.inr (.inr 4))) => (.inr (.inr (.inr 0)))
  | (.inr (.inl (_, _, _, _))) => (.inr (.inr (.inr 0)))
  | t => t
theorem zkA_ok {g : zG} {lg : Nat} {h : zH} {t : zTy} {o : Option Value} (k : t = (.inr (.inr (.inr 0))) ∨ ∃ v, o = some v ∧ zga g lg h [] t v) : zkA t = (.inr (.inr (.inr 0))) ∨ ∃ v, zk o = some v ∧ zga g lg h [] (zkA t) v := by
  rcases k with rfl | ⟨v, rfl, k⟩
  · exact Or.inl rfl
  · induction t using zTc with
    | N => exact Or.inl rfl
    | I lo hi t s =>
      obtain ⟨x, rfl, k⟩ := k
      exact Or.inr ⟨_, rfl, x, rfl, k⟩
    | P' lo hi =>
      obtain ⟨x, rfl, k⟩ := k
      exact Or.inr ⟨_, rfl, x, rfl, k⟩
    | C =>
      obtain ⟨x, l, rfl, k⟩ := k
      exact Or.inr ⟨_, rfl, x, l, rfl, k⟩
    | E4 =>
      obtain ⟨x, l, rfl, k⟩ := k
      exact Or.inr ⟨_, rfl, x, l, rfl, k⟩
    | E3 =>
      obtain ⟨x, l, rfl, k⟩ := k
      exact Or.inr ⟨_, rfl, x, l, rfl, k⟩
    | L j =>
      obtain rfl := (show v = _ from k)
      exact Or.inr ⟨_, rfl, rfl⟩
    | _ => exact Or.inl rfl
def zas (t : zTy) : Nat → List zTy → Option (List zTy)
  | 0, _ :: l => some (t :: l)
  | 1, a :: _ :: l => some (zkA a :: t :: l)
  | i + 2, a :: l => match zas t (i + 1) l with
    | some l' => some (a :: l')
    | none => none
  | _, _ => none
def zas2 (t : zTy) : Nat → List zTy → Option (List zTy)
  | 0, _ :: _ :: l => some (t :: (.inr (.inr (.inr 0))) :: l)
  | 1, a :: _ :: _ :: l => some (zkA a :: t :: (.inr (.inr (.inr 0))) :: l)
  | i + 2, a :: l => match zas2 t (i + 1) l with
    | some l' => some (a :: l')
    | none => none
  | _, _ => none
theorem zk_int {o : Option Value} {x : Int32} (e : o = some (.int x)) : zk o = some (.int x) := by rw [e]; rfl
theorem zas_ok {g : zG} {lg : Nat} {h : zH} {t : zTy} {v : Value} (hv : zga g lg h [] t v) : ∀ {j : Nat} {A A' : List zTy} {L : zL}, zas t j A = some A' → zgl g lg h A L → ∃ L', zst1 v j L = some L' ∧ zgl g lg h A' L' ∧ (∀ q x, q ≠ j → L[q]? = some (some (.int x)) → L'[q]? = some (some (.int x))) ∧ L'[j]? = some (some v)
  | 0, [], _, _, e, _ => by cases e
  | 0, _ :: _, _, [], _, k => k.elim
  | 0, _ :: _, _, o :: L, e, k => by
    cases e
    refine ⟨some v :: L, rfl, ⟨Or.inr ⟨v, rfl, hv⟩, k.2⟩, fun q x hq e => ?_, rfl⟩
    cases q with
    | zero => exact absurd rfl hq
    | succ q => exact e
  | 1, [], _, _, e, _ => by cases e
  | 1, [_], _, _, e, _ => by cases e
  | 1, _ :: _ :: _, _, [], _, k => k.elim
  | 1, _ :: _ :: _, _, [_], _, k => k.2.elim
  | 1, _ :: _ :: _, _, o :: o2 :: L, e, k => by
    cases e
    refine ⟨zk o :: some v :: L, rfl, ⟨zkA_ok k.1, Or.inr ⟨v, rfl, hv⟩, k.2.2⟩, fun q x hq e => ?_, rfl⟩
    match q with
    | 0 => exact congrArg some (zk_int (Option.some.inj e))
    | 1 => exact absurd rfl hq
    | q + 2 => exact e
  | i + 2, [], _, _, e, _ => by cases e
  | i + 2, _ :: _, _, [], _, k => k.elim
  | i + 2, a :: A, _, o :: L, e, k => by
    unfold zas at e
    split at e
    · next A1 e1 =>
      cases e
      obtain ⟨L', p1, p2, p3, p4⟩ := zas_ok hv (j := i + 1) e1 k.2
      refine ⟨o :: L', ?_, ⟨k.1, p2⟩, fun q x hq e => ?_, p4⟩
      · unfold zst1
        rw [p1]
      · cases q with
        | zero => exact e
        | succ q => exact p3 q x (by omega) e
    · cases e
theorem zas2_ok {g : zG} {lg : Nat} {h : zH} {t : zTy} {v : Value} (hv : zga g lg h [] t v) : ∀ {j : Nat} {A A' : List zTy} {L : zL}, zas2 t j A = some A' → zgl g lg h A L → ∃ L', zst2 v j L = some L' ∧ zgl g lg h A' L' ∧ (∀ q x, q ≠ j → q ≠ j + 1 → L[q]? = some (some (.int x)) → L'[q]? = some (some (.int x)))
  | 0, [], _, _, e, _ => by cases e
  | 0, [_], _, _, e, _ => by cases e
  | 0, _ :: _ :: _, _, [], _, k => k.elim
  | 0, _ :: _ :: _, _, [_], _, k => k.2.elim
  | 0, _ :: _ :: _, _, o :: o2 :: L, e, k => by
    cases e
    refine ⟨some v :: none :: L, rfl, ⟨Or.inr ⟨v, rfl, hv⟩, Or.inl rfl, k.2.2⟩, fun q x hq hq2 e => ?_⟩
    match q with
    | 0 => exact absurd rfl hq
    | 1 => exact absurd rfl hq2
    | q + 2 => exact e
  | 1, [], _, _, e, _ => by cases e
  | 1, [_], _, _, e, _ => by cases e
  | 1, [_, _], _, _, e, _ => by cases e
  | 1, _ :: _ :: _ :: _, _, [], _, k => k.elim
  | 1, _ :: _ :: _ :: _, _, [_], _, k => k.2.elim
  | 1, _ :: _ :: _ :: _, _, [_, _], _, k => k.2.2.elim
  | 1, _ :: _ :: _ :: _, _, o :: o2 :: o3 :: L, e, k => by
    cases e
    refine ⟨zk o :: some v :: none :: L, rfl, ⟨zkA_ok k.1, Or.inr ⟨v, rfl, hv⟩, Or.inl rfl, k.2.2.2⟩, fun q x hq hq2 e => ?_⟩
    match q with
    | 0 => exact congrArg some (zk_int (Option.some.inj e))
    | 1 => exact absurd rfl hq
    | 2 => exact absurd rfl hq2
    | q + 3 => exact e
  | i + 2, [], _, _, e, _ => by cases e
  | i + 2, _ :: _, _, [], _, k => k.elim
  | i + 2, a :: A, _, o :: L, e, k => by
    unfold zas2 at e
    split at e
    · next A1 e1 =>
      cases e
      obtain ⟨L', p1, p2, p3⟩ := zas2_ok hv (j := i + 1) e1 k.2
      refine ⟨o :: L', ?_, ⟨k.1, p2⟩, fun q x hq hq2 e => ?_⟩
      · unfold zst2
        rw [p1]
      · cases q with
        | zero => exact e
        | succ q => exact p3 q x (by omega) (by omega) e
    · cases e
