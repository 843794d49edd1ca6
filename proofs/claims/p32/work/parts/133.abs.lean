/-! One step on kinds of values: rows, fields. -/
def zspr (p q : Nat) : Option (Nat × Nat × Int × Int) := match zsp p with
  | some w => if (List.range (q + 1 - p)).all (fun d => decide (zsp (p + d) = some w)) = true then some w else none
  | none => none
theorem zspr_ok {p q r : Nat} {w : Nat × Nat × Int × Int} (e : zspr p q = some w) (h1 : p ≤ r) (h2 : r ≤ q) : zsp r = some w := by
  unfold zspr at e
  split at e
  · split at e
    · next w' e1 g =>
      cases e
      have g := of_decide_eq_true (List.all_eq_true.mp g (r - p) (List.mem_range.mpr (by omega)))
      rw [show p + (r - p) = r by omega] at g
      exact g
    · cases e
  · cases e
theorem zald_eq {t nx a : Nat} {L : zL} {r : List Value} {h : zH} {l : List Int32} {j : Int32} (ha : h[a]? = some (t, l.map Value.int)) (h0 : 0 ≤ j.toInt) (h1 : j.toInt < l.length) : ∃ v, l[j.toInt.toNat]? = some v ∧ zald t nx L (.int j :: .ref a :: r) h = some (.inl (nx, L, .int v :: r, h, 0, 0)) := by
  have hj : ¬ j < 0 := fun z => by
    have z := zlt_z z
    rw [zero_z] at z
    omega
  have hlt : j.toInt.toNat < l.length := by omega
  refine ⟨l[j.toInt.toNat], List.getElem?_eq_getElem hlt, ?_⟩
  unfold zald
  dsimp only
  rw [ha]
  dsimp only
  rw [if_pos rfl, show j.toNatClampNeg = j.toInt.toNat from rfl, List.getElem?_map, List.getElem?_eq_getElem hlt]
  exact if_neg hj
theorem zast_eq {t nx a : Nat} {f : Int32 → Option Int32} {L : zL} {r : List Value} {h : zH} {l : List Int32} {j v : Int32} (ha : h[a]? = some (t, l.map Value.int)) (h0 : 0 ≤ j.toInt) (h1 : j.toInt < l.length) (hf : f v = some v) : zast t f nx L (.int v :: .int j :: .ref a :: r) h = some (.inl (nx, L, r, h.set a (t, (l.set j.toInt.toNat v).map Value.int), 0, 0)) := by
  have hj : ¬ j < 0 := fun z => by
    have z := zlt_z z
    rw [zero_z] at z
    omega
  unfold zast
  dsimp only
  rw [ha]
  dsimp only
  rw [if_pos rfl, if_neg hj, if_pos (by rw [List.length_map]; show j.toInt.toNat < _; omega), hf, List.map_set]
  rfl
section ZAB
variable {g : zG} {lg : Nat} {h : zH} {L : zL} {A S : List zTy} {st : List Value} {l : List (Nat × List zTy × List zTy)} {t : zTy} {v : Value} {nx j pc y k n c : Nat} {xs : List Int32} {i : Instr}
def zaIA (T : Nat) (nx : Nat) (A S : List zTy) : Option (List (Nat × List zTy × List zTy)) := match S with
  | u :: (.inr (.inr (.inl (p, q)))) :: r => (match zlo u, zspr p q with
    | some (a, b, _), some (tg, n, lo, hi) => if tg = T ∧ 0 ≤ a ∧ b < n then some [(nx, A, (.inl (lo, hi, 0, 0)) :: r)] else none
    | _, _ => none)
  | u :: (.inr (.inr (.inr 5))) :: r => (match zlo u with
    | some (a, _, tt) => if T = 100 ∧ 0 ≤ a ∧ tt = 7 then some [(nx, A, zIA :: r)] else none
    | none => none)
  | u :: (.inr (.inr (.inr 6))) :: r => (match zlo u with
    | some (a, b, _) => if T = 100 ∧ 0 ≤ a ∧ b ≤ 3 then some [(nx, A, (if b = 0 then (.inl (0, 19, 0, 0)) else if a = 1 ∧ b = 1 then (.inl (0, 7, 0, 0)) else zIA) :: r)] else none
    | none => none)
  | u :: (.inr (.inr (.inr 7))) :: r => (match zlo u with
    | some (a, b, _) => if T = 100 ∧ 0 ≤ a ∧ b ≤ 2 then some [(nx, A, zIA :: r)] else none
    | none => none)
  | _ => none
theorem zaIA_ok {T : Nat} (e : zaIA T nx A S = some l) (hI : zHI g lg h) (hA : zgl g lg h A L) (hS : zgs g lg h L S st) (hi : ∀ j d, i ≠ .iinc j d) (hz : ∀ a x s, st = .int x :: .ref a :: s → zstep zcf xs pc i nx k y n c L st h = zald T nx L st h) : zOk g lg h i L l (zstep zcf xs pc i nx k y n c L st h) := by
  unfold zaIA at e
  split at e
  · next u p q r =>
    split at e
    · next a b c9 tg n9 lo hi9 e1 e2 =>
      split at e
      · next w =>
        cases e
        match st, hS with
        | z :: x :: s, hS =>
          obtain ⟨z, rfl, s1, s2, -⟩ := zlo_ok e1 hS.1
          obtain ⟨a9, rfl, k1, k2⟩ := hS.2.1
          replace k1 : p ≤ a9 := k1
          replace k2 : a9 ≤ q := k2
          obtain ⟨l, p1, p2, p3⟩ := hI.rows a9 _ _ _ _ (zspr_ok e2 k1 k2)
          obtain ⟨rfl, w1, w2⟩ := w
          obtain ⟨v, v1, v2⟩ := zald_eq (nx := nx) (L := L) (r := s) (j := z) p1 (by omega) (by omega)
          have v3 := p3 v (List.mem_of_getElem? v1)
          exact zOk_s hI hA hi ((hz _ _ _ rfl).trans v2) ⟨⟨v, rfl, v3.1, v3.2, trivial, Or.inl rfl⟩, hS.2.2⟩
        | [], hS => exact hS.elim
        | [_], hS => exact hS.2.elim
      · cases e
    · cases e
  · next u r =>
    split at e
    · next a b tt e1 =>
      split at e
      · next w =>
        cases e
        match st, hS with
        | z :: x :: s, hS =>
          obtain ⟨z, rfl, s1, s2, s3, -⟩ := zlo_ok e1 hS.1
          obtain ⟨a9, l, rfl, k1, k2, k3⟩ := hS.2.1
          obtain ⟨rfl, w1, rfl⟩ := w
          have s3 : z.toInt < g.zn := s3
          obtain ⟨v, v1, v2⟩ := zald_eq (nx := nx) (L := L) (r := s) (j := z) k2 (by omega) (by omega)
          exact zOk_s hI hA hi ((hz _ _ _ rfl).trans v2) ⟨zIA_ok v, hS.2.2⟩
        | [], hS => exact hS.elim
        | [_], hS => exact hS.2.elim
      · cases e
    · cases e
  · next u r =>
    split at e
    · next a b tt e1 =>
      split at e
      · next w =>
        cases e
        match st, hS with
        | z :: x :: s, hS =>
          obtain ⟨z, rfl, s1, s2, s3, -⟩ := zlo_ok e1 hS.1
          obtain ⟨a9, l, rfl, k1, k2, d0, d1, d2, d3, rfl, b0, b1⟩ := hS.2.1
          obtain ⟨rfl, w1, w2⟩ := w
          obtain ⟨v, v1, v2⟩ := zald_eq (nx := nx) (L := L) (r := s) (j := z) k2 (by omega) (by show z.toInt < 4; omega)
          refine zOk_s hI hA hi ((hz _ _ _ rfl).trans v2) ⟨?_, hS.2.2⟩
          split
          · rw [show z.toInt.toNat = 0 by omega] at v1
            cases v1
            exact ⟨_, rfl, b0.1, b0.2, trivial, Or.inl rfl⟩
          · split
            · rw [show z.toInt.toNat = 1 by omega] at v1
              cases v1
              exact ⟨_, rfl, b1.1, b1.2, trivial, Or.inl rfl⟩
            · exact zIA_ok v
        | [], hS => exact hS.elim
        | [_], hS => exact hS.2.elim
      · cases e
    · cases e
  · next u r =>
    split at e
    · next a b tt e1 =>
      split at e
      · next w =>
        cases e
        match st, hS with
        | z :: x :: s, hS =>
          obtain ⟨z, rfl, s1, s2, s3, -⟩ := zlo_ok e1 hS.1
          obtain ⟨a9, l, rfl, k1, k2, k3⟩ := hS.2.1
          obtain ⟨rfl, w1, w2⟩ := w
          obtain ⟨v, v1, v2⟩ := zald_eq (nx := nx) (L := L) (r := s) (j := z) k2 (by omega) (by omega)
          exact zOk_s hI hA hi ((hz _ _ _ rfl).trans v2) ⟨zIA_ok v, hS.2.2⟩
        | [], hS => exact hS.elim
        | [_], hS => exact hS.2.elim
      · cases e
    · cases e
  · cases e
def zaIS (T : Nat) (nx : Nat) (A S : List zTy) : Option (List (Nat × List zTy × List zTy)) := match S with
  | w :: u :: (.inr (.inr (.inl (p, q)))) :: r => (match zlo w, zlo u, zspr p q with
    | some (a2, b2, _), some (a, b, _), some (tg, n, lo, hi) => if tg = T ∧ (T = 100 ∨ (T = 101 ∧ lo = 0 ∧ hi = 1)) ∧ 0 ≤ a ∧ b < n ∧ lo ≤ a2 ∧ b2 ≤ hi then some [(nx, A, r)] else none
    | _, _, _ => none)
  | _ => none
theorem zaIS_ok {T : Nat} {f : Int32 → Option Int32} (e : zaIS T nx A S = some l) (hI : zHI g lg h) (hA : zgl g lg h A L) (hS : zgs g lg h L S st) (hi : ∀ j d, i ≠ .iinc j d) (hf : ∀ x : Int32, T = 100 ∨ x = 0 ∨ x = 1 → f x = some x) : zOk g lg h i L l (zast T f nx L st h) := by
  unfold zaIS at e
  split at e
  · next w u p q r =>
    split at e
    · next a2 b2 c2 a b c9 tg n9 lo hi9 e0 e1 e2 =>
      split at e
      · next w =>
        cases e
        match st, hS with
        | v :: z :: x :: s, hS =>
          obtain ⟨v, rfl, q1, q2, -⟩ := zlo_ok e0 hS.1
          obtain ⟨z, rfl, s1, s2, -⟩ := zlo_ok e1 hS.2.1
          obtain ⟨a9, rfl, k1, k2⟩ := hS.2.2.1
          replace k1 : p ≤ a9 := k1
          replace k2 : a9 ≤ q := k2
          have e3 := zspr_ok e2 k1 k2
          obtain ⟨l, p1, p2, p3⟩ := hI.rows a9 _ _ _ _ e3
          obtain ⟨rfl, w0, w1, w2, w3, w4⟩ := w
          have hv : tg = 100 ∨ v = 0 ∨ v = 1 := by
            rcases w0 with w0 | ⟨-, rfl, rfl⟩
            · exact Or.inl w0
            · right
              rcases (show v.toInt = 0 ∨ v.toInt = 1 by omega) with z | z
              · exact Or.inl (Int32.toInt_inj.mp z)
              · exact Or.inr (Int32.toInt_inj.mp z)
          have v2 := zast_eq (f := f) (nx := nx) (L := L) (r := s) (j := z) p1 (by omega) (by omega) (hf v hv)
          obtain ⟨m1, m2⟩ := zHI_row (l' := l.set z.toInt.toNat v) hI e3 (by simpa using p2) (fun x hx => by
            rcases List.mem_or_eq_of_mem_set hx with hx | rfl
            · exact p3 x hx
            · omega)
          exact ⟨nx, L, s, _, A, r, v2, List.mem_cons_self, m1, m2, zgl_mo (Nat.le_refl _) m2 hA, zgs_mo (Nat.le_refl _) m2 hS.2.2.2, fun _ _ _ k => k, fun j d e => absurd e (hi j d)⟩
        | [], hS => exact hS.elim
        | [_], hS => exact hS.2.elim
        | [_, _], hS => exact hS.2.2.elim
      · cases e
    · cases e
  · cases e
def zaAA (nx : Nat) (A S : List zTy) : Option (List (Nat × List zTy × List zTy)) := match S with
  | u :: (.inr (.inr (.inl (p, q)))) :: r => (match zlo u with
    | some (a, b, _) => if p = 46 ∧ q = 46 ∧ 0 ≤ a ∧ b ≤ 19 then some [(nx, A, (.inr (.inr (.inl (47, 66)))) :: r)] else none
    | none => none)
  | _ => none
theorem zaAA_ok (e : zaAA nx A S = some l) (hI : zHI g lg h) (hA : zgl g lg h A L) (hS : zgs g lg h L S st) (hi : ∀ j d, i ≠ .iinc j d) : zOk g lg h i L l (zaald nx L st h) := by
  unfold zaAA at e
  split at e
  · next u p q r =>
    split at e
    · next a b c9 e1 =>
      split at e
      · next w =>
        cases e
        match st, hS with
        | z :: x :: s, hS =>
          obtain ⟨z, rfl, s1, s2, -⟩ := zlo_ok e1 hS.1
          obtain ⟨a9, rfl, k1, k2⟩ := hS.2.1
          replace k1 : p ≤ a9 := k1
          replace k2 : a9 ≤ q := k2
          obtain ⟨rfl, rfl, w1, w2⟩ := w
          obtain rfl : a9 = 46 := Nat.le_antisymm k2 k1
          have hj : ¬ z < 0 := fun z => by
            have z := zlt_z z
            rw [zero_z] at z
            omega
          refine zOk_s hI hA hi (st' := .ref (47 + z.toInt.toNat) :: s) ?_ ⟨⟨_, rfl, show 47 ≤ 47 + z.toInt.toNat by omega, show 47 + z.toInt.toNat ≤ 66 by omega⟩, hS.2.2⟩
          unfold zaald
          dsimp only
          rw [hI.outer]
          dsimp only
          rw [if_pos (Or.inr rfl), show z.toNatClampNeg = z.toInt.toNat from rfl, List.getElem?_map, List.getElem?_range (by omega)]
          exact if_neg hj
        | [], hS => exact hS.elim
        | [_], hS => exact hS.2.elim
      · cases e
    · cases e
  · cases e
def zaLen (nx : Nat) (A S : List zTy) : Option (List (Nat × List zTy × List zTy)) := match S with
  | (.inr (.inr (.inl (p, q)))) :: r => (match zspr p q with
    | some (_, n, _, _) => some [(nx, A, (.inl (n, n, 0, 0)) :: r)]
    | none => if p = 46 ∧ q = 46 then some [(nx, A, (.inl (20, 20, 0, 0)) :: r)] else none)
  | (.inr (.inr (.inr 5))) :: r => some [(nx, A, (.inl (8, 16, 8, 0)) :: r)]
  | _ => none
theorem zsp_t {q t n : Nat} {lo hi : Int} (e : zsp q = some (t, n, lo, hi)) : 100 ≤ t ∧ n ≤ 128 := by
  unfold zsp at e
  split at e
  · cases e
    omega
  · split at e
    · cases e
      omega
    · split at e
      · cases e
        omega
      · split at e
        · cases e
          omega
        · split at e
          · cases e
            omega
          · cases e
theorem zalen_eq {t a : Nat} {vs : List Value} {r : List Value} (ha : h[a]? = some (t, vs)) (ht : 100 ≤ t) : zalen xs nx L (.ref a :: r) h = some (.inl (nx, L, .int (Int32.ofNat vs.length) :: r, h, 0, 0)) := by
  unfold zalen
  dsimp only
  rw [ha]
  exact if_pos ht
theorem zaLen_ok (e : zaLen nx A S = some l) (hI : zHI g lg h) (hA : zgl g lg h A L) (hS : zgs g lg h L S st) (hi : ∀ j d, i ≠ .iinc j d) : zOk g lg h i L l (zalen xs nx L st h) := by
  unfold zaLen at e
  split at e
  · next p q r =>
    match st, hS with
    | z :: s, hS =>
      obtain ⟨⟨a9, rfl, k1, k2⟩, hs⟩ := hS
      replace k1 : p ≤ a9 := k1
      replace k2 : a9 ≤ q := k2
      split at e
      · next tg n9 lo hi9 e1 =>
        cases e
        have e3 := zspr_ok e1 k1 k2
        obtain ⟨h1, h2⟩ := zsp_t e3
        obtain ⟨l, p1, p2, p3⟩ := hI.rows a9 _ _ _ _ e3
        refine zOk_s hI hA hi (zalen_eq p1 h1) ⟨⟨_, rfl, ?_, ?_, trivial, Or.inl rfl⟩, hs⟩ <;> (rw [List.length_map, p2, Int32.toInt_ofNat_of_lt (by omega)]; exact Int.le_refl _)
      · split at e
        · next w =>
          cases e
          obtain ⟨rfl, rfl⟩ := w
          obtain rfl : a9 = 46 := Nat.le_antisymm k2 k1
          exact zOk_s hI hA hi (zalen_eq hI.outer (by decide)) ⟨⟨_, rfl, by simp, by simp, trivial, Or.inl rfl⟩, hs⟩
        · cases e
    | [], hS => exact hS.elim
  · next r =>
    cases e
    match st, hS with
    | z :: s, hS =>
      obtain ⟨⟨a9, l, rfl, k1, k2, k3⟩, hs⟩ := hS
      have hz := hI.sizes
      have e9 : (Int32.ofNat (l.map Value.int).length).toInt = g.zn := by
        rw [List.length_map, k3, Int32.toInt_ofNat_of_lt (by omega)]
      exact zOk_s hI hA hi (zalen_eq k2 (by decide)) ⟨⟨_, rfl, by omega, by omega, show _ ≤ (g.zn : Int) by omega, Or.inl rfl⟩, hs⟩
    | [], hS => exact hS.elim
  · cases e
def zaGet (k y nx : Nat) (A S : List zTy) : Option (List (Nat × List zTy × List zTy)) := match S with
  | (.inr (.inr (.inl (p, q)))) :: r => (match (zcf 7)[k]? with
    | some (f, _) => if p = 44 ∧ q = 44 ∧ f = y ∧ k < 26 then some [(nx, A, zfs k :: r)] else none
    | none => none)
  | _ => none
theorem zaGet_ok (e : zaGet k y nx A S = some l) (hI : zHI g lg h) (hA : zgl g lg h A L) (hS : zgs g lg h L S st) (hi : ∀ j d, i ≠ .iinc j d) : zOk g lg h i L l (zget zcf y k nx L st h) := by
  unfold zaGet at e
  split at e
  · next p q r =>
    split at e
    · next f kd e1 =>
      split at e
      · next w =>
        cases e
        match st, hS with
        | z :: s, hS =>
          obtain ⟨⟨a9, rfl, k1, k2⟩, hs⟩ := hS
          replace k1 : p ≤ a9 := k1
          replace k2 : a9 ≤ q := k2
          obtain ⟨rfl, rfl, rfl, w1⟩ := w
          obtain rfl : a9 = 44 := Nat.le_antisymm k2 k1
          obtain ⟨vs, m1, m2, m3, m4⟩ := hI.obj
          obtain ⟨v, v1, v2⟩ := m3 k w1
          refine zOk_s hI hA hi (st' := v :: s) ?_ ⟨zga_L v2, hs⟩
          unfold zget
          dsimp only
          rw [m1]
          dsimp only
          rw [e1]
          dsimp only
          rw [if_pos rfl, v1]
          rfl
        | [], hS => exact hS.elim
      · cases e
    · cases e
  · cases e
def zaPut (k y nx : Nat) (A S : List zTy) : Option (List (Nat × List zTy × List zTy)) := match S with
  | u :: (.inr (.inr (.inl (p, q)))) :: r => (match zlo u, (zcf 7)[k]?, zfs k with
    | some (a, b, _), some (f, kd), (.inl (lo, hi, t, s)) => if p = 44 ∧ q = 44 ∧ f = y ∧ k < 26 ∧ (kd = 0 ∨ (kd = 1 ∧ lo = 0 ∧ hi = 1)) ∧ zfz.contains k = false ∧ lo ≤ a ∧ b ≤ hi ∧ t = 0 ∧ s = 0 then some [(nx, A, r)] else none
    | _, _, _ => none)
  | _ => none
theorem zaPut_ok (e : zaPut k y nx A S = some l) (hI : zHI g lg h) (hA : zgl g lg h A L) (hS : zgs g lg h L S st) (hi : ∀ j d, i ≠ .iinc j d) : zOk g lg h i L l (zput zcf y k nx L st h) := by
  unfold zaPut at e
  split at e
  · next u p q r =>
    split at e
    · next a b c9 f kd lo hi9 t9 s9 e0 e1 e2 =>
      split at e
      · next w =>
        cases e
        match st, hS with
        | v :: z :: s, hS =>
          obtain ⟨v, rfl, q1, q2, -⟩ := zlo_ok e0 hS.1
          obtain ⟨a9, rfl, k1, k2⟩ := hS.2.1
          replace k1 : p ≤ a9 := k1
          replace k2 : a9 ≤ q := k2
          obtain ⟨rfl, rfl, rfl, w1, w2, w3, w4, w5, rfl, rfl⟩ := w
          obtain rfl : a9 = 44 := Nat.le_antisymm k2 k1
          obtain ⟨vs, m1, m2, m3, m4⟩ := hI.obj
          obtain ⟨n1, n2⟩ := zHI_fld (v := .int v) hI m1 w1 (by rw [e2]; exact ⟨v, rfl, by omega, by omega, trivial, Or.inl rfl⟩) (fun hz => by
            have := List.contains_iff_mem.mpr hz
            rw [w3] at this
            cases this)
          refine ⟨nx, L, s, _, A, r, ?_, List.mem_cons_self, n1, n2, zgl_mo (Nat.le_refl _) n2 hA, zgs_mo (Nat.le_refl _) n2 hS.2.2, fun _ _ _ k => k, fun j d e => absurd e (hi j d)⟩
          have hf : zfdk kd (.int v) = true := by
            rcases w2 with rfl | ⟨rfl, rfl, rfl⟩
            · rfl
            · refine decide_eq_true ?_
              rcases (show v.toInt = 0 ∨ v.toInt = 1 by omega) with z | z
              · exact Or.inl (Int32.toInt_inj.mp z)
              · exact Or.inr (Int32.toInt_inj.mp z)
          unfold zput
          dsimp only
          rw [m1]
          dsimp only
          rw [e1]
          dsimp only
          rw [if_pos rfl, if_pos hf, if_pos (by omega)]
          rfl
        | [], hS => exact hS.elim
        | [_], hS => exact hS.2.elim
      · cases e
    · cases e
  · cases e
def zaChk (k nx : Nat) (A S : List zTy) : Option (List (Nat × List zTy × List zTy)) := match S with
  | (.inr (.inr (.inr 6))) :: _ => if k = 100 then some [(nx, A, S)] else none
  | (.inr (.inr (.inr 7))) :: _ => if k = 100 then some [(nx, A, S)] else none
  | _ => none
theorem zaChk_ok (e : zaChk k nx A S = some l) (hI : zHI g lg h) (hA : zgl g lg h A L) (hS : zgs g lg h L S st) (hi : ∀ j d, i ≠ .iinc j d) : zOk g lg h i L l (zchk k nx L st h) := by
  have key : ∀ {a : Nat} {vs s : List Value}, k = 100 → st = .ref a :: s → h[a]? = some (100, vs) → zOk g lg h i L [(nx, A, S)] (zchk k nx L st h) := by
    intro a vs s hk hs ha
    refine zOk_s hI hA hi (st' := st) ?_ hS
    subst hk
    subst hs
    unfold zchk
    dsimp only
    rw [ha]
    exact if_pos rfl
  unfold zaChk at e
  split at e
  · split at e
    · next hk =>
      cases e
      match st, hS, @key with
      | v :: s, hS, key =>
        obtain ⟨⟨q, l, rfl, k1, k2, k3⟩, hs⟩ := hS
        exact key hk rfl k2
      | [], hS, _ => exact hS.elim
    · cases e
  · split at e
    · next hk =>
      cases e
      match st, hS, @key with
      | v :: s, hS, key =>
        obtain ⟨⟨q, l, rfl, k1, k2, k3⟩, hs⟩ := hS
        exact key hk rfl k2
      | [], hS, _ => exact hS.elim
    · cases e
  · cases e
/-- the whole step -/
def zaC (x : Int32) (nx : Nat) (A S : List zTy) : Option (List (Nat × List zTy × List zTy)) := some [(nx, A, (.inl (x.toInt, x.toInt, 0, 0)) :: S)]
theorem zaC_ok {x : Int32} {r : Option zA} (e : zaC x nx A S = some l) (hI : zHI g lg h) (hA : zgl g lg h A L) (hS : zgs g lg h L S st) (hi : ∀ j d, i ≠ .iinc j d) (hr : r = zpu L (.int x) nx st h) : zOk g lg h i L l r := by
  cases e
  exact zOk_s hI hA hi hr ⟨⟨x, rfl, Int.le_refl _, Int.le_refl _, trivial, Or.inl rfl⟩, hS⟩
def zaB (i : Instr) (k y nx : Nat) (A S : List zTy) : Option (List (Nat × List zTy × List zTy)) := match i, S with
  | .ldc2_w _, S => if k = 0 then some [(nx, A, (.inr (.inr (.inr 1))) :: S)] else if k = 1 ∧ y = 4634204016564240384 then some [(nx, A, (.inr (.inr (.inr 3))) :: S)] else none
  | .i2l, t :: r => if (zlo t).isSome = true then some [(nx, A, (.inr (.inr (.inr 1))) :: r)] else none
  | .i2d, t :: r => if (zlo t).isSome = true then some [(nx, A, (.inr (.inr (.inr 4))) :: r)] else none
  | .ladd, (.inr (.inr (.inr 1))) :: (.inr (.inr (.inr 1))) :: r => some [(nx, A, (.inr (.inr (.inr 1))) :: r)]
  | .lmul, (.inr (.inr (.inr 1))) :: (.inr (.inr (.inr 1))) :: r => some [(nx, A, (.inr (.inr (.inr 1))) :: r)]
  | .dmul, (.inr (.inr (.inr 2))) :: (.inr (.inr (.inr 3))) :: r => some [(nx, A, (.inr (.inr (.inr 4))) :: r)]
  | .d2l, (.inr (.inr (.inr 4))) :: r => some [(nx, A, (.inr (.inr (.inr 1))) :: r)]
  | .dup, t :: r => if zis1 t = true then some [(nx, A, t :: t :: r)] else none
  | .pop, t :: r => if zis1 t = true then some [(nx, A, r)] else none
  | .dup2, t :: u :: r => if zis1 t = true ∧ zis1 u = true then some [(nx, A, t :: u :: t :: u :: r)] else none
  | .goto _, S => some [(k, A, S)]
  | _, _ => none
theorem zaB_ok (e : zaB i k y nx A S = some l) (hI : zHI g lg h) (hA : zgl g lg h A L) (hS : zgs g lg h L S st) : zOk g lg h i L l (zstep zcf xs pc i nx k y n c L st h) := by
  unfold zaB at e
  split at e
  · next j S =>
    split at e
    · next q =>
      cases e
      refine zOk_s hI hA (by intro _ _ e; cases e) (st' := .long (Int64.ofNat y) :: st) (if_pos q) ⟨⟨_, rfl⟩, hS⟩
    · split at e
      · next q q2 =>
        cases e
        refine zOk_s hI hA (by intro _ _ e; cases e) (st' := .double (UInt64.ofNat y) :: st) ((if_neg q).trans (if_pos q2.1)) ⟨?_, hS⟩
        rw [q2.2]
        rfl
      · cases e
  · next t r =>
    split at e
    · next q =>
      cases e
      match st, hS with
      | v :: s, hS =>
        obtain ⟨⟨a, b, c⟩, e1⟩ := Option.isSome_iff_exists.mp q
        obtain ⟨x, rfl, -⟩ := zlo_ok e1 hS.1
        exact zOk_s hI hA (by intro _ _ e; cases e) rfl ⟨⟨_, rfl⟩, hS.2⟩
      | [], hS => exact hS.elim
    · cases e
  · next t r =>
    split at e
    · next q =>
      cases e
      match st, hS with
      | v :: s, hS =>
        obtain ⟨⟨a, b, c⟩, e1⟩ := Option.isSome_iff_exists.mp q
        obtain ⟨x, rfl, -⟩ := zlo_ok e1 hS.1
        exact zOk_s hI hA (by intro _ _ e; cases e) rfl ⟨⟨_, rfl⟩, hS.2⟩
      | [], hS => exact hS.elim
    · cases e
  · cases e
    match st, hS with
    | v :: w :: s, hS =>
      obtain ⟨x, rfl⟩ := hS.1
      obtain ⟨z, rfl⟩ := hS.2.1
      exact zOk_s hI hA (by intro _ _ e; cases e) rfl ⟨⟨_, rfl⟩, hS.2.2⟩
    | [], hS => exact hS.elim
    | [_], hS => exact hS.2.elim
  · cases e
    match st, hS with
    | v :: w :: s, hS =>
      obtain ⟨x, rfl⟩ := hS.1
      obtain ⟨z, rfl⟩ := hS.2.1
      exact zOk_s hI hA (by intro _ _ e; cases e) rfl ⟨⟨_, rfl⟩, hS.2.2⟩
    | [], hS => exact hS.elim
    | [_], hS => exact hS.2.elim
  · cases e
    match st, hS with
    | v :: w :: s, hS =>
      obtain ⟨k9, hk9, rfl⟩ := hS.1
      obtain rfl := (show w = _ from hS.2.1)
      exact zOk_s hI hA (by intro _ _ e; cases e) (if_pos (zdd_1 hk9).2) ⟨⟨_, rfl⟩, hS.2.2⟩
    | [], hS => exact hS.elim
    | [_], hS => exact hS.2.elim
  · cases e
    match st, hS with
    | v :: s, hS =>
      obtain ⟨x, rfl⟩ := hS.1
      exact zOk_s hI hA (by intro _ _ e; cases e) rfl ⟨⟨_, rfl⟩, hS.2⟩
    | [], hS => exact hS.elim
  · split at e
    · next q =>
      cases e
      match st, hS with
      | v :: s, hS =>
        have z := zis1_ok q hS.1
        exact zOk_s hI hA (st' := v :: v :: s) (by intro _ _ e; cases e) (show (if zcat v then none else zgo nx L (v :: v :: s) h) = _ by rw [z]; rfl) ⟨hS.1, hS.1, hS.2⟩
      | [], hS => exact hS.elim
    · cases e
  · split at e
    · next q =>
      cases e
      match st, hS with
      | v :: s, hS =>
        have z := zis1_ok q hS.1
        exact zOk_s hI hA (st' := s) (by intro _ _ e; cases e) (show (if zcat v then none else zgo nx L s h) = _ by rw [z]; rfl) hS.2
      | [], hS => exact hS.elim
    · cases e
  · split at e
    · next q =>
      cases e
      match st, hS with
      | v :: w :: s, hS =>
        have z := zis1_ok q.1 hS.1
        have z2 := zis1_ok q.2 hS.2.1
        exact zOk_s hI hA (st' := v :: w :: v :: w :: s) (by intro _ _ e; cases e) (show (if zcat v || zcat w then none else zgo nx L (v :: w :: v :: w :: s) h) = _ by rw [z, z2]; rfl) ⟨hS.1, hS.2.1, hS.1, hS.2.1, hS.2.2⟩
      | [], hS => exact hS.elim
      | [_], hS => exact hS.2.elim
    · cases e
  · cases e
    exact ⟨_, L, st, h, A, _, rfl, List.mem_cons_self, hI, zLE_rf, hA, hS, fun _ _ _ k => k, fun j d e => by cases e⟩
  · cases e
def zab (i : Instr) (nx k y pc : Nat) (A S : List zTy) : Option (List (Nat × List zTy × List zTy)) := match i with
  | .iload j => zaLI j nx A S
  | .iload_n j => zaLI j nx A S
  | .aload j => zaLA j nx A S
  | .aload_n j => zaLA j nx A S
  | .lload j => zaLL j nx A S
  | .lload_n j => zaLL j nx A S
  | .istore j => zaSI j nx A S
  | .istore_n j => zaSI j nx A S
  | .astore j => zaSA j nx A S
  | .astore_n j => zaSA j nx A S
  | .lstore j => zaSL j nx A S
  | .lstore_n j => zaSL j nx A S
  | .iinc j d => zaInc j d nx A S
  | .iconst z => zaC (Int32.ofInt z) nx A S
  | .bipush z => zaC (Int8.ofInt z).toInt32 nx A S
  | .sipush z => zaC (Int16.ofInt z).toInt32 nx A S
  | .ifCond q _ => zaIf q k nx A S
  | .if_icmp q _ => zaCmp q k nx A S
  | .tableswitch d lo hi os => zaTab pc d lo hi os A S
  | .iaload => zaIA 100 nx A S
  | .baload => if k = 101 then zaIA 101 nx A S else none
  | .iastore => zaIS 100 nx A S
  | .bastore => if k = 101 then zaIS 101 nx A S else none
  | .aaload => zaAA nx A S
  | .arraylength => zaLen nx A S
  | .getfield _ => zaGet k y nx A S
  | .putfield _ => zaPut k y nx A S
  | .checkcast _ => zaChk k nx A S
  | .ldc2_w j => zaB (.ldc2_w j) k y nx A S
  | .i2l => zaB .i2l k y nx A S
  | .i2d => zaB .i2d k y nx A S
  | .ladd => zaB .ladd k y nx A S
  | .lmul => zaB .lmul k y nx A S
  | .dmul => zaB .dmul k y nx A S
  | .d2l => zaB .d2l k y nx A S
  | .dup => zaB .dup k y nx A S
  | .pop => zaB .pop k y nx A S
  | .dup2 => zaB .dup2 k y nx A S
  | .goto j => zaB (.goto j) k y nx A S
  | .iadd => zaBin .iadd nx A S
  | .isub => zaBin .isub nx A S
  | .imul => zaBin .imul nx A S
  | .idiv => zaBin .idiv nx A S
  | .irem => zaBin .irem nx A S
  | .iand => zaBin .iand nx A S
  | .ior => zaBin .ior nx A S
  | .ixor => zaBin .ixor nx A S
  | .ishl => zaBin .ishl nx A S
  | .ishr => zaBin .ishr nx A S
  | _ => none
theorem zab_ok (e : zab i nx k y pc A S = some l) (hI : zHI g lg h) (hA : zgl g lg h A L) (hS : zgs g lg h L S st) : zOk g lg h i L l (zstep zcf xs pc i nx k y n c L st h) := by
  unfold zab at e
  split at e
  · exact zaLI_ok e hI hA hS (by intro _ _ e; cases e)
  · exact zaLI_ok e hI hA hS (by intro _ _ e; cases e)
  · exact zaLA_ok e hI hA hS (by intro _ _ e; cases e)
  · exact zaLA_ok e hI hA hS (by intro _ _ e; cases e)
  · exact zaLL_ok e hI hA hS (by intro _ _ e; cases e)
  · exact zaLL_ok e hI hA hS (by intro _ _ e; cases e)
  · exact zaSI_ok e hI hA hS (by intro _ _ e; cases e) (fun _ => rfl)
  · exact zaSI_ok e hI hA hS (by intro _ _ e; cases e) (fun _ => rfl)
  · exact zaSA_ok e hI hA hS (by intro _ _ e; cases e) (fun _ => rfl)
  · exact zaSA_ok e hI hA hS (by intro _ _ e; cases e) (fun _ => rfl)
  · exact zaSL_ok e hI hA hS (by intro _ _ e; cases e) (fun _ => rfl)
  · exact zaSL_ok e hI hA hS (by intro _ _ e; cases e) (fun _ => rfl)
  · exact zaInc_ok e hI hA hS
  · exact zaC_ok e hI hA hS (by intro _ _ e; cases e) rfl
  · exact zaC_ok e hI hA hS (by intro _ _ e; cases e) rfl
  · exact zaC_ok e hI hA hS (by intro _ _ e; cases e) rfl
  · exact zaIf_ok e hI hA hS (by intro _ _ e; cases e)
  · exact zaCmp_ok e hI hA hS (by intro _ _ e; cases e)
  · exact zaTab_ok e hI hA hS (by intro _ _ e; cases e)
  · refine zaIA_ok e hI hA hS (by intro _ _ e; cases e) (fun a x s hs => ?_)
    subst hs
    rfl
  · split at e
    · next q =>
      subst q
      exact zaIA_ok e hI hA hS (by intro _ _ e; cases e) (fun a x s hs => rfl)
    · cases e
  · exact zaIS_ok e hI hA hS (by intro _ _ e; cases e) (fun x hx => rfl)
  · split at e
    · next q =>
      subst q
      exact zaIS_ok e hI hA hS (by intro _ _ e; cases e) (fun x hx => if_pos (hx.resolve_left (by decide)))
    · cases e
  · exact zaAA_ok e hI hA hS (by intro _ _ e; cases e)
  · exact zaLen_ok e hI hA hS (by intro _ _ e; cases e)
  · exact zaGet_ok e hI hA hS (by intro _ _ e; cases e)
  · exact zaPut_ok e hI hA hS (by intro _ _ e; cases e)
  · exact zaChk_ok e hI hA hS (by intro _ _ e; cases e)
  · exact zaB_ok e hI hA hS
  · exact zaB_ok e hI hA hS
  · exact zaB_ok e hI hA hS
  · exact zaB_ok e hI hA hS
  · exact zaB_ok e hI hA hS
  · exact zaB_ok e hI hA hS
  · exact zaB_ok e hI hA hS
  · exact zaB_ok e hI hA hS
  · exact zaB_ok e hI hA hS
  · exact zaB_ok e hI hA hS
  · exact zaB_ok e hI hA hS
  · exact zaBin_ok e hI hA hS (by intro _ _ e; cases e)
  · exact zaBin_ok e hI hA hS (by intro _ _ e; cases e)
  · exact zaBin_ok e hI hA hS (by intro _ _ e; cases e)
  · exact zaBin_ok e hI hA hS (by intro _ _ e; cases e)
  · exact zaBin_ok e hI hA hS (by intro _ _ e; cases e)
  · exact zaBin_ok e hI hA hS (by intro _ _ e; cases e)
  · exact zaBin_ok e hI hA hS (by intro _ _ e; cases e)
  · exact zaBin_ok e hI hA hS (by intro _ _ e; cases e)
  · exact zaBin_ok e hI hA hS (by intro _ _ e; cases e)
  · exact zaBin_ok e hI hA hS (by intro _ _ e; cases e)
  · cases e
end ZAB
