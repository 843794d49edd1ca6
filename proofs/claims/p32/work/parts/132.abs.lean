/-! One step on kinds of values. -/
def zmd : Instr → Nat → Bool
  | .istore j, q => j == q
  | .istore_n j, q => j == q
  | .astore j, q => j == q
  | .astore_n j, q => j == q
  | .lstore j, q => j == q || j + 1 == q
  | .lstore_n j, q => j == q || j + 1 == q
  | .iinc j _, q => j == q
  | _, _ => false
def zLf (i : Instr) (L L' : zL) : Prop := (∀ q x, zmd i q = false → L[q]? = some (some (.int x)) → L'[q]? = some (some (.int x))) ∧ (∀ j d, i = .iinc j d → ∀ x, L[j]? = some (some (.int x)) → L'[j]? = some (some (.int (x + Int32.ofInt d))))
def zOk (g : zG) (lg : Nat) (h : zH) (i : Instr) (L : zL) (l : List (Nat × List zTy × List zTy)) (r : Option zA) : Prop := ∃ pc' L' st' h' A' S', r = some (.inl (pc', L', st', h', 0, 0)) ∧ (pc', A', S') ∈ l ∧ zHI g lg h' ∧ zLE h h' ∧ zgl g lg h' A' L' ∧ zgs g lg h' L' S' st' ∧ zLf i L L'
theorem zLE_rf {h : zH} : zLE h h := fun _ _ _ k _ _ => k
theorem zLE_tr {h h1 h2 : zH} (a : zLE h h1) (b : zLE h1 h2) : zLE h h2 := fun q c k1 k2 k3 k4 => b q c k1 (a q c k1 k2 k3 k4) k3 k4
theorem zOk_s {g : zG} {lg : Nat} {h : zH} {i : Instr} {L : zL} {r : Option zA} {nx : Nat} {A S' : List zTy} {st' : List Value} (hI : zHI g lg h) (hA : zgl g lg h A L) (hi : ∀ j d, i ≠ .iinc j d) (e : r = some (.inl (nx, L, st', h, 0, 0))) (hS' : zgs g lg h L S' st') : zOk g lg h i L [(nx, A, S')] r :=
  ⟨nx, L, st', h, A, S', e, List.mem_cons_self, hI, zLE_rf, hA, hS', fun _ _ _ k => k, fun j d e => absurd e (hi j d)⟩
/-! the heap -/
theorem zsp_b {q : Nat} {w : Nat × Nat × Int × Int} (e : zsp q = some w) : 47 ≤ q ∧ q ≤ 72 := by
  unfold zsp at e
  split at e
  · omega
  · split at e
    · omega
    · split at e
      · omega
      · split at e
        · omega
        · split at e
          · omega
          · cases e
theorem zLi_cg {h h' : zH} {r n : Nat} {Q : List Int32 → Prop} {dq : Option Nat} (hb : ∀ q, 73 ≤ q → h'[q]? = h[q]?) (k : zLi h r n Q dq) (hr : 73 ≤ r) (hd : ∀ q, dq = some q → 73 ≤ q) : zLi h' r n Q dq := by
  obtain ⟨es, ⟨m, k1⟩, k2, k3⟩ := k
  refine ⟨es, ⟨m, ?_⟩, k2, fun e he => ?_⟩
  · cases dq with
    | none => exact ⟨k1.1, by rw [hb r hr]; exact k1.2⟩
    | some q =>
      obtain ⟨vs, a1, a2, a3⟩ := k1
      exact ⟨vs, by rw [hb r hr]; exact a1, by rw [hb q (hd q rfl)]; exact a2, a3⟩
  · obtain ⟨a, l, b, c⟩ := k3 e he
    exact ⟨a, l, by rw [hb e a]; exact b, c⟩
theorem zHI_cg {g : zG} {lg : Nat} {h h' : zH} (hI : zHI g lg h) (hc : h'.take 44 = h.take 44) (hb : ∀ q, 73 ≤ q → h'[q]? = h[q]?) (obj' : ∃ vs, h'[44]? = some (7, vs) ∧ vs.length = 26 ∧ (∀ k, k < 26 → ∃ v, vs[k]? = some v ∧ zga g lg h [] (zfs k) v) ∧ ∀ k ∈ zfz, vs[k]? = some (g.f k)) (outer' : h'[46]? = h[46]?) (rows' : ∀ q t n lo hi, zsp q = some (t, n, lo, hi) → ∃ l : List Int32, h'[q]? = some (t, l.map Value.int) ∧ l.length = n ∧ ∀ x ∈ l, lo ≤ x.toInt ∧ x.toInt ≤ hi) : zHI g lg h' ∧ zLE h h' := by
  have hl : zLE h h' := fun q l a b _ _ => by rw [hb q a]; exact b
  refine ⟨⟨hc.trans hI.cls, ?_, outer'.trans hI.outer, rows', ?_, hI.bits, hI.sizes⟩, hl⟩
  · obtain ⟨vs, a, b, c, d⟩ := obj'
    refine ⟨vs, a, b, fun k hk => ?_, d⟩
    obtain ⟨v, p, q⟩ := c k hk
    exact ⟨v, p, zga_mo (Nat.le_refl _) hl q⟩
  · obtain ⟨E, k⟩ := hI.lists
    refine ⟨E, fun j hj => ?_⟩
    obtain ⟨k1, k2, k3, k4⟩ := k j hj
    exact ⟨k1, zLi_cg hb k2 k1 k3, k3, k4⟩
theorem ztake_set {h : zH} {q : Nat} {c : Nat × List Value} (hq : 44 ≤ q) : (h.set q c).take 44 = h.take 44 := by
  refine List.ext_getElem? (fun j => ?_)
  rw [List.getElem?_take, List.getElem?_take]
  split
  · rw [List.getElem?_set_ne (by omega)]
  · rfl
theorem zHI_row {g : zG} {lg : Nat} {h : zH} {q t n : Nat} {lo hi : Int} {l' : List Int32} (hI : zHI g lg h) (hq : zsp q = some (t, n, lo, hi)) (hl : l'.length = n) (hx : ∀ x ∈ l', lo ≤ x.toInt ∧ x.toInt ≤ hi) : zHI g lg (h.set q (t, l'.map Value.int)) ∧ zLE h (h.set q (t, l'.map Value.int)) := by
  have hb := zsp_b hq
  refine zHI_cg hI (ztake_set (by omega)) (fun j hj => List.getElem?_set_ne (by omega)) ?_ (List.getElem?_set_ne (by omega)) (fun j t2 n2 lo2 hi2 e => ?_)
  · obtain ⟨vs, a⟩ := hI.obj
    exact ⟨vs, by rw [List.getElem?_set_ne (by omega)]; exact a.1, a.2⟩
  · by_cases z : j = q
    · subst z
      rw [hq] at e
      cases e
      obtain ⟨l, p, -⟩ := hI.rows j _ _ _ _ hq
      exact ⟨l', List.getElem?_set_self (List.getElem?_eq_some_iff.mp p).1, hl, hx⟩
    · rw [List.getElem?_set_ne (fun w => z w.symm)]
      exact hI.rows j _ _ _ _ e
theorem zHI_fld {g : zG} {lg : Nat} {h : zH} {k : Nat} {v : Value} {vs : List Value} (hI : zHI g lg h) (h0 : h[44]? = some (7, vs)) (hk : k < 26) (hv : zga g lg h [] (zfs k) v) (hz : k ∉ zfz) : zHI g lg (h.set 44 (7, vs.set k v)) ∧ zLE h (h.set 44 (7, vs.set k v)) := by
  obtain ⟨vs', a, b, c, d⟩ := hI.obj
  rw [h0] at a
  cases a
  refine zHI_cg hI (ztake_set (by omega)) (fun j hj => List.getElem?_set_ne (by omega)) ?_ (List.getElem?_set_ne (by omega)) (fun j t2 n2 lo2 hi2 e => ?_)
  · refine ⟨vs.set k v, List.getElem?_set_self (List.getElem?_eq_some_iff.mp h0).1, by simpa using b, fun j hj => ?_, fun j hj => ?_⟩
    · by_cases z : j = k
      · subst z
        exact ⟨v, List.getElem?_set_self (by omega), hv⟩
      · rw [List.getElem?_set_ne (fun w => z w.symm)]
        exact c j hj
    · rw [List.getElem?_set_ne (fun w => hz (by rw [w]; exact hj))]
      exact d j hj
  · have := zsp_b e
    rw [List.getElem?_set_ne (by omega)]
    exact hI.rows j _ _ _ _ e
/-! what a step does to the stack and the locals -/
def zisR : zTy → Bool
  | (.inr (.inr (.inl (_, _)))) => true
  | (.inr (.inr (.inr 5))) => true
  | (.inr (.inr (.inr 6))) => true
  | (.inr (.inr (.inr 7))) => true
  | (.inr (.inr (.inr (_ + 8)))) => true
  | _ => false
def zis1 : zTy → Bool
  | (.inl (_, _, _, _)) => true
  | (.inr (.inl (_, _, _, _))) => true
  | t => zisR t
section ZAB
variable {g : zG} {lg : Nat} {h : zH} {L : zL} {A S : List zTy} {st : List Value} {l : List (Nat × List zTy × List zTy)} {t : zTy} {v : Value} {nx j pc y k n c : Nat} {xs : List Int32} {i : Instr}
theorem zisR_ok (e : zisR t = true) (k : zga g lg h L t v) : ∃ q, v = .ref q := by
  induction t using zTc with
  | P' lo hi =>
    obtain ⟨q, rfl, -⟩ := k
    exact ⟨q, rfl⟩
  | C =>
    obtain ⟨q, l, rfl, -⟩ := k
    exact ⟨q, rfl⟩
  | E4 =>
    obtain ⟨q, l, rfl, -⟩ := k
    exact ⟨q, rfl⟩
  | E3 =>
    obtain ⟨q, l, rfl, -⟩ := k
    exact ⟨q, rfl⟩
  | L j => exact ⟨_, k⟩
  | _ => cases e
theorem zis1_ok (e : zis1 t = true) (k : zga g lg h L t v) : zcat v = false := by
  induction t using zTc with
  | I lo hi t s =>
    obtain ⟨x, rfl, -⟩ := k
    rfl
  | B i lo hi t =>
    obtain ⟨x, rfl, -⟩ := k
    rfl
  | P' lo hi =>
    obtain ⟨q, rfl, -⟩ := k
    rfl
  | C =>
    obtain ⟨q, l, rfl, -⟩ := k
    rfl
  | E4 =>
    obtain ⟨q, l, rfl, -⟩ := k
    rfl
  | E3 =>
    obtain ⟨q, l, rfl, -⟩ := k
    rfl
  | L j =>
    obtain rfl := (show v = _ from k)
    rfl
  | _ => cases e
def zaLI (j nx : Nat) (A S : List zTy) : Option (List (Nat × List zTy × List zTy)) := match A[j]? with
  | some ((.inl (a, b, t, _))) => some [(nx, A, (.inl (a, b, t, (j + 1))) :: S)]
  | _ => none
theorem zaLI_ok (e : zaLI j nx A S = some l) (hI : zHI g lg h) (hA : zgl g lg h A L) (hS : zgs g lg h L S st) (hi : ∀ j d, i ≠ .iinc j d) : zOk g lg h i L l (zldI L j nx st h) := by
  unfold zaLI at e
  split at e
  · next a b t s q =>
    cases e
    rcases zgl_get hA q with z | ⟨v, e1, x, rfl, k1, k2, k3, -⟩
    · cases z
    · refine zOk_s hI hA hi (st' := .int x :: st) ?_ ⟨⟨x, rfl, k1, k2, k3, Or.inr e1⟩, hS⟩
      unfold zldI
      rw [e1]
      rfl
  · cases e
def zaLA (j nx : Nat) (A S : List zTy) : Option (List (Nat × List zTy × List zTy)) := match A[j]? with
  | some t => if zisR t = true then some [(nx, A, t :: S)] else none
  | _ => none
theorem zaLA_ok (e : zaLA j nx A S = some l) (hI : zHI g lg h) (hA : zgl g lg h A L) (hS : zgs g lg h L S st) (hi : ∀ j d, i ≠ .iinc j d) : zOk g lg h i L l (zldA L j nx st h) := by
  unfold zaLA at e
  split at e
  · next t q =>
    split at e
    · next q2 =>
      cases e
      rcases zgl_get hA q with z | ⟨v, e1, k⟩
      · rw [z] at q2
        cases q2
      · obtain ⟨r, rfl⟩ := zisR_ok q2 k
        refine zOk_s hI hA hi (st' := .ref r :: st) ?_ ⟨zga_L k, hS⟩
        unfold zldA
        rw [e1]
        rfl
    · cases e
  · cases e
def zaLL (j nx : Nat) (A S : List zTy) : Option (List (Nat × List zTy × List zTy)) := match A[j]? with
  | some (.inr (.inr (.inr 1))) => some [(nx, A, (.inr (.inr (.inr 1))) :: S)]
  | _ => none
theorem zaLL_ok (e : zaLL j nx A S = some l) (hI : zHI g lg h) (hA : zgl g lg h A L) (hS : zgs g lg h L S st) (hi : ∀ j d, i ≠ .iinc j d) : zOk g lg h i L l (zldL L j nx st h) := by
  unfold zaLL at e
  split at e
  · next q =>
    cases e
    rcases zgl_get hA q with z | ⟨v, e1, x, rfl⟩
    · cases z
    · refine zOk_s hI hA hi (st' := .long x :: st) ?_ ⟨⟨x, rfl⟩, hS⟩
      unfold zldL
      rw [e1]
      rfl
  · cases e
def zaSI (j nx : Nat) (A S : List zTy) : Option (List (Nat × List zTy × List zTy)) := match S with
  | t :: r => if (zlo t).isSome = true ∧ r.all zfree = true then (match zas (zfl t) j A with
    | some A' => some [(nx, A', r)]
    | none => none) else none
  | [] => none
theorem zaSI_ok (e : zaSI j nx A S = some l) (hI : zHI g lg h) (hA : zgl g lg h A L) (hS : zgs g lg h L S st) (hi : ∀ j d, i ≠ .iinc j d) (hj : ∀ q, zmd i q = (j == q)) : zOk g lg h i L l (zsI L j nx st h) := by
  unfold zaSI at e
  split at e
  · next t r =>
    split at e
    · next q =>
      split at e
      · next A' e1 =>
        cases e
        match st, hS with
        | v :: s, hS =>
          obtain ⟨⟨a, b, c⟩, e2⟩ := Option.isSome_iff_exists.mp q.1
          obtain ⟨x, rfl, -⟩ := zlo_ok e2 hS.1
          obtain ⟨L', p1, p2, p3, p4⟩ := zas_ok (zga_fl hS.1) e1 hA
          refine ⟨nx, L', s, h, A', r, ?_, List.mem_cons_self, hI, zLE_rf, p2, zgs_free q.2 hS.2, fun q x hq => p3 q x (fun z => ?_), fun j d e => absurd e (hi j d)⟩
          · show zsv1 L j nx (.int x) s h = _
            unfold zsv1
            rw [p1]
            rfl
          · rw [hj, z] at hq
            simp at hq
        | [], hS => exact hS.elim
      · cases e
    · cases e
  · cases e
def zaSA (j nx : Nat) (A S : List zTy) : Option (List (Nat × List zTy × List zTy)) := match S with
  | t :: r => if zisR t = true ∧ r.all zfree = true then (match zas (zfl t) j A with
    | some A' => some [(nx, A', r)]
    | none => none) else none
  | [] => none
theorem zaSA_ok (e : zaSA j nx A S = some l) (hI : zHI g lg h) (hA : zgl g lg h A L) (hS : zgs g lg h L S st) (hi : ∀ j d, i ≠ .iinc j d) (hj : ∀ q, zmd i q = (j == q)) : zOk g lg h i L l (zsA L j nx st h) := by
  unfold zaSA at e
  split at e
  · next t r =>
    split at e
    · next q =>
      split at e
      · next A' e1 =>
        cases e
        match st, hS with
        | v :: s, hS =>
          obtain ⟨x, rfl⟩ := zisR_ok q.1 hS.1
          obtain ⟨L', p1, p2, p3, p4⟩ := zas_ok (zga_fl hS.1) e1 hA
          refine ⟨nx, L', s, h, A', r, ?_, List.mem_cons_self, hI, zLE_rf, p2, zgs_free q.2 hS.2, fun q x hq => p3 q x (fun z => ?_), fun j d e => absurd e (hi j d)⟩
          · show zsv1 L j nx (.ref x) s h = _
            unfold zsv1
            rw [p1]
            rfl
          · rw [hj, z] at hq
            simp at hq
        | [], hS => exact hS.elim
      · cases e
    · cases e
  · cases e
def zaSL (j nx : Nat) (A S : List zTy) : Option (List (Nat × List zTy × List zTy)) := match S with
  | (.inr (.inr (.inr 1))) :: r => if r.all zfree = true then (match zas2 (.inr (.inr (.inr 1))) j A with
    | some A' => some [(nx, A', r)]
    | none => none) else none
  | _ => none
theorem zaSL_ok (e : zaSL j nx A S = some l) (hI : zHI g lg h) (hA : zgl g lg h A L) (hS : zgs g lg h L S st) (hi : ∀ j d, i ≠ .iinc j d) (hj : ∀ q, zmd i q = (j == q || j + 1 == q)) : zOk g lg h i L l (zsL L j nx st h) := by
  unfold zaSL at e
  split at e
  · next r =>
    split at e
    · next q =>
      split at e
      · next A' e1 =>
        cases e
        match st, hS with
        | v :: s, hS =>
          obtain ⟨x, rfl⟩ := hS.1
          obtain ⟨L', p1, p2, p3⟩ := zas2_ok (v := .long x) (show zga g lg h [] (.inr (.inr (.inr 1))) (.long x) from ⟨x, rfl⟩) e1 hA
          refine ⟨nx, L', s, h, A', r, ?_, List.mem_cons_self, hI, zLE_rf, p2, zgs_free q hS.2, fun q x hq => ?_, fun j d e => absurd e (hi j d)⟩
          · show zsv2 L j nx (.long x) s h = _
            unfold zsv2
            rw [p1]
            rfl
          · rw [hj] at hq
            simp at hq
            exact p3 q x (fun z => hq.1 z.symm) (fun z => hq.2 z.symm)
        | [], hS => exact hS.elim
      · cases e
    · cases e
  · cases e
def zaInc (j : Nat) (d : Int) (nx : Nat) (A S : List zTy) : Option (List (Nat × List zTy × List zTy)) := match A[j]? with
  | some ((.inl (a, b, _, _))) => if S.all zfree = true then (match zas (zmk (a + (Int32.ofInt d).toInt) (b + (Int32.ofInt d).toInt)) j A with
    | some A' => some [(nx, A', S)]
    | none => none) else none
  | _ => none
theorem zaInc_ok {d : Int} (e : zaInc j d nx A S = some l) (hI : zHI g lg h) (hA : zgl g lg h A L) (hS : zgs g lg h L S st) : zOk g lg h (.iinc j d) L l (zinc L j d nx st h) := by
  unfold zaInc at e
  split at e
  · next a b t s q =>
    split at e
    · next q2 =>
      split at e
      · next A' e1 =>
        cases e
        rcases zgl_get hA q with z | ⟨v, e2, x, rfl, k1, k2, k3, -⟩
        · cases z
        · obtain ⟨L', p1, p2, p3, p4⟩ := zas_ok (v := .int (x + Int32.ofInt d)) (zmk_ok (Int32.toInt_add x (Int32.ofInt d)) (by omega) (by omega)) e1 hA
          refine ⟨nx, L', st, h, A', S, ?_, List.mem_cons_self, hI, zLE_rf, p2, zgs_free q2 hS, fun q x hq => p3 q x (fun z => ?_), fun j' d' e x' hx => ?_⟩
          · unfold zinc
            rw [e2]
            show zsv1 L j nx (.int (x + Int32.ofInt d)) st h = _
            unfold zsv1
            rw [p1]
            rfl
          · rw [z] at hq
            have hq : (j == j) = false := hq
            simp at hq
          · cases e
            rw [e2] at hx
            cases hx
            exact p4
      · cases e
    · cases e
  · cases e
def zaBin (i : Instr) (nx : Nat) (A S : List zTy) : Option (List (Nat × List zTy × List zTy)) := match S with
  | u :: t :: r => (match zlo t, zlo u with
    | some (a, b, c), some (a2, b2, _) => (match zbA i a b a2 b2 c with
      | some T => some [(nx, A, T :: r)]
      | none => none)
    | _, _ => none)
  | _ => none
theorem zaBin_ok (e : zaBin i nx A S = some l) (hI : zHI g lg h) (hA : zgl g lg h A L) (hS : zgs g lg h L S st) (hi : ∀ j d, i ≠ .iinc j d) : zOk g lg h i L l (zstep zcf xs pc i nx k y n c L st h) := by
  unfold zaBin at e
  split at e
  · next u t r =>
    split at e
    · next a b c9 a2 b2 c2 e1 e2 =>
      split at e
      · next T e3 =>
        cases e
        match st, hS with
        | z :: x :: s, hS =>
          obtain ⟨x, rfl, k1, k2, k3, -⟩ := zlo_ok e1 hS.2.1
          obtain ⟨z, rfl, s1, s2, -⟩ := zlo_ok e2 hS.1
          obtain ⟨w, p1, p2⟩ := zbA_ok (xs := xs) (pc := pc) (nx := nx) (k := k) (y := y) (n := n) (c := c) (r := s) e3 k1 k2 s1 s2 k3
          exact zOk_s hI hA hi p1 ⟨p2, hS.2.2⟩
        | [], hS => exact hS.elim
        | [_], hS => exact hS.2.elim
      · cases e
    · cases e
  · cases e
def zaIf (q : ClassFile.Cond) (tg nx : Nat) (A S : List zTy) : Option (List (Nat × List zTy × List zTy)) := match S with
  | (.inr (.inl (i, lo, hi, t))) :: r => (match q with
    | .eq => some [(tg, A, r), (nx, A.set i ((.inl (lo, hi, t, 0))), r)]
    | .ne => some [(tg, A.set i ((.inl (lo, hi, t, 0))), r), (nx, A, r)]
    | _ => none)
  | (.inl (a, b, t, s)) :: r => some (zbrA q ((.inl (a, b, t, s))) ((.inl (0, 0, 0, 0))) A r tg ++ zbrA (znq q) ((.inl (a, b, t, s))) ((.inl (0, 0, 0, 0))) A r nx)
  | _ => none
theorem zaIf_ok {q : ClassFile.Cond} {tg : Nat} (e : zaIf q tg nx A S = some l) (hI : zHI g lg h) (hA : zgl g lg h A L) (hS : zgs g lg h L S st) (hi : ∀ j d, i ≠ .iinc j d) : zOk g lg h i L l (zif q tg nx L st h) := by
  have z0 : zga g lg h L ((.inl (0, 0, 0, 0))) (.int 0) := ⟨0, rfl, by decide, by decide, trivial, Or.inl rfl⟩
  have fin : ∀ {x : Int32} {s : List Value} {r : List zTy} {pc' : Nat} {A' : List zTy}, zgs g lg h L r s → zgl g lg h A' L → (pc', A', r) ∈ l → zbr q x 0 tg nx L s h = zgo pc' L s h → zOk g lg h i L l (zif q tg nx L (.int x :: s) h) := by
    intro x s r pc' A' hs hA' hm e
    exact ⟨pc', L, s, h, A', r, e, hm, hI, zLE_rf, hA', hs, fun _ _ _ k => k, fun j d e => absurd e (hi j d)⟩
  unfold zaIf at e
  split at e
  · next i' lo hi' t r =>
    match st, hS with
    | v :: s, hS =>
      obtain ⟨⟨x, rfl, hx, hx2⟩, hs⟩ := hS
      split at e
      · cases e
        by_cases z : x = 0
        · exact fin hs hA List.mem_cons_self (zbr_t (q := .eq) z)
        · obtain ⟨w, c1, c2, c3, c4⟩ := hx2 z
          exact fin hs (zgl_set (T := (.inl (lo, hi', t, 0))) hA c1 ⟨w, rfl, c2, c3, c4, Or.inl rfl⟩) (List.mem_cons_of_mem _ List.mem_cons_self) (zbr_f (q := .eq) z)
      · cases e
        by_cases z : x = 0
        · exact fin hs hA (List.mem_cons_of_mem _ List.mem_cons_self) (zbr_f (q := .ne) z)
        · obtain ⟨w, c1, c2, c3, c4⟩ := hx2 z
          exact fin hs (zgl_set (T := (.inl (lo, hi', t, 0))) hA c1 ⟨w, rfl, c2, c3, c4, Or.inl rfl⟩) List.mem_cons_self (zbr_t (q := .ne) z)
      · cases e
    | [], hS => exact hS.elim
  · next a b t s' r =>
    cases e
    match st, hS with
    | v :: s, hS =>
      obtain ⟨hX, hs⟩ := hS
      obtain ⟨x, rfl, hX'⟩ := id hX
      rcases zcq_em q x 0 with z | z
      · obtain ⟨A', m1, m2⟩ := zbrA_ok (r := r) (pc := tg) hA hX z0 rfl rfl (zci_t z)
        exact fin hs m2 (List.mem_append_left _ m1) (zbr_t z)
      · obtain ⟨A', m1, m2⟩ := zbrA_ok (r := r) (pc := nx) hA hX z0 rfl rfl (zci_f z)
        exact fin hs m2 (List.mem_append_right _ m1) (zbr_f z)
    | [], hS => exact hS.elim
  · cases e
def zaCmp (q : ClassFile.Cond) (tg nx : Nat) (A S : List zTy) : Option (List (Nat × List zTy × List zTy)) := match S with
  | u :: t :: r => if (zlo t).isSome = true ∧ (zlo u).isSome = true then some (zbrA q t u A r tg ++ zbrA (znq q) t u A r nx) else none
  | _ => none
theorem zaCmp_ok {q : ClassFile.Cond} {tg : Nat} (e : zaCmp q tg nx A S = some l) (hI : zHI g lg h) (hA : zgl g lg h A L) (hS : zgs g lg h L S st) (hi : ∀ j d, i ≠ .iinc j d) : zOk g lg h i L l (zicmp q tg nx L st h) := by
  unfold zaCmp at e
  split at e
  · next u t r =>
    split at e
    · next w =>
      cases e
      match st, hS with
      | z :: x :: s, hS =>
        obtain ⟨⟨a, b, c⟩, e1⟩ := Option.isSome_iff_exists.mp w.1
        obtain ⟨⟨a2, b2, c2⟩, e2⟩ := Option.isSome_iff_exists.mp w.2
        obtain ⟨x, rfl, -⟩ := zlo_ok e1 hS.2.1
        obtain ⟨z, rfl, -⟩ := zlo_ok e2 hS.1
        rcases zcq_em q x z with g1 | g1
        · obtain ⟨A', m1, m2⟩ := zbrA_ok (r := r) (pc := tg) hA hS.2.1 hS.1 w.1 w.2 (zci_t g1)
          exact ⟨tg, L, s, h, A', r, zbr_t g1, List.mem_append_left _ m1, hI, zLE_rf, m2, hS.2.2, fun _ _ _ k => k, fun j d e => absurd e (hi j d)⟩
        · obtain ⟨A', m1, m2⟩ := zbrA_ok (r := r) (pc := nx) hA hS.2.1 hS.1 w.1 w.2 (zci_f g1)
          exact ⟨nx, L, s, h, A', r, zbr_f g1, List.mem_append_right _ m1, hI, zLE_rf, m2, hS.2.2, fun _ _ _ k => k, fun j d e => absurd e (hi j d)⟩
      | [], hS => exact hS.elim
      | [_], hS => exact hS.2.elim
    · cases e
  · cases e
def zaTab (pc : Nat) (d lo hi : Int) (os : Array Int) (A S : List zTy) : Option (List (Nat × List zTy × List zTy)) := match S with
  | t :: r => if (zlo t).isSome = true ∧ os.size = (hi + 1 - lo).toNat ∧ (d :: os.toList).all (fun o => decide (0 ≤ (pc : Int) + o)) = true then some ((d :: os.toList).map (fun o => (((pc : Int) + o).toNat, A, r))) else none
  | [] => none
theorem zaTab_ok {d lo hi : Int} {os : Array Int} (e : zaTab pc d lo hi os A S = some l) (hI : zHI g lg h) (hA : zgl g lg h A L) (hS : zgs g lg h L S st) (hi9 : ∀ j d, i ≠ .iinc j d) : zOk g lg h i L l (ztab pc d lo hi os L st h) := by
  unfold zaTab at e
  split at e
  · next t r =>
    split at e
    · next w =>
      cases e
      match st, hS with
      | v :: s, hS =>
        obtain ⟨⟨a, b, c⟩, e1⟩ := Option.isSome_iff_exists.mp w.1
        obtain ⟨x, rfl, -⟩ := zlo_ok e1 hS.1
        have key : ∀ o, o ∈ d :: os.toList → zOk g lg h i L ((d :: os.toList).map (fun o => (((pc : Int) + o).toNat, A, r))) (zoff pc o L s h) := by
          intro o ho
          have g9 := of_decide_eq_true (List.all_eq_true.mp w.2.2 o ho)
          refine ⟨((pc : Int) + o).toNat, L, s, h, A, r, ?_, List.mem_map.mpr ⟨o, ho, rfl⟩, hI, zLE_rf, hA, hS.2, fun _ _ _ k => k, fun j d e => absurd e (hi9 j d)⟩
          unfold zoff
          obtain ⟨m, hm⟩ := Int.eq_ofNat_of_zero_le g9
          rw [hm]
          rfl
        show zOk g lg h i L _ (if x.toInt < lo ∨ hi < x.toInt then zoff pc d L s h else match os[(x.toInt - lo).toNat]? with
          | some o => zoff pc o L s h
          | none => none)
        split
        · exact key d List.mem_cons_self
        · next q =>
          have hlt : (x.toInt - lo).toNat < os.size := by omega
          rw [Array.getElem?_eq_getElem hlt]
          exact key _ (List.mem_cons_of_mem _ (by simp))
      | [], hS => exact hS.elim
    · cases e
  · cases e
end ZAB
