/-! A method whose table of kinds is in order keeps its contract. -/
abbrev zRk : Type := Nat ⊕ (Int × Nat)
def zrv (L : zL) : zRk → Nat
  | (.inl a) => a
  | (.inr (b, j)) => match L[j]? with
    | some (some (.int x)) => (b - x.toInt).toNat
    | _ => 0
def zrd (i : Instr) (A : List zTy) : List zRk → List zRk → Bool
  | (.inl a) :: r, (.inl b) :: s => decide (b < a) || (a == b && zrd i A r s)
  | (.inr (b, j)) :: r, (.inr (b', j')) :: s => decide (b = b') && j == j' && (match A[j]? with
    | some ((.inl (_, hi, _, _))) => (match i with
      | .iinc j2 d => if j2 = j then decide (0 < (Int32.ofInt d).toInt) && decide (hi < b) && decide (hi + (Int32.ofInt d).toInt ≤ 2147483647) else zrd i A r s
      | _ => zmd i j == false && zrd i A r s)
    | _ => false)
  | _, _ => false
def zlx : List Nat → List Nat → Prop
  | a :: r, b :: s => a < b ∨ (a = b ∧ zlx r s)
  | _, _ => False
theorem zlx_ind : ∀ (m : Nat) (P : List Nat → Prop), (∀ l, l.length = m → (∀ l', l'.length = m → zlx l' l → P l') → P l) → ∀ l, l.length = m → P l
  | 0, P, st, l, e => st l e (fun l' e' z => by
    have : l' = [] := List.length_eq_zero_iff.mp e'
    subst this
    exact z.elim)
  | m + 1, P, st, l, e => by
    have key : ∀ a : Nat, ∀ r : List Nat, r.length = m → P (a :: r) := by
      intro a
      induction a using Nat.strongRecOn with
      | ind a ih =>
        refine zlx_ind m (fun r => P (a :: r)) (fun r hr ih2 => st (a :: r) (by simp [hr]) (fun l' e' z => ?_))
        match l', e', z with
        | b :: s, e', z =>
          rcases z with z2 | ⟨z1, z2⟩
          · exact ih b z2 s (by simpa using e')
          · subst z1
            exact ih2 s (by simpa using e') z2
        | [], _, z => exact z.elim
    match l, e with
    | a :: r, e => exact key a r (by simpa using e)
    | [], e => cases e
theorem zrd_ok {g : zG} {lg : Nat} {h : zH} {i : Instr} {A : List zTy} {L L' : zL} (hA : zgl g lg h A L) (hf : zLf i L L') : ∀ {rk rk' : List zRk}, zrd i A rk rk' = true → zlx (rk'.map (zrv L')) (rk.map (zrv L))
  | (.inl a) :: r, (.inl b) :: s, e => by
    have e : (decide (b < a) || (a == b && zrd i A r s)) = true := e
    rw [Bool.or_eq_true, Bool.and_eq_true, decide_eq_true_eq, beq_iff_eq] at e
    rcases e with e | ⟨e1, e2⟩
    · exact Or.inl e
    · exact Or.inr ⟨e1.symm, zrd_ok hA hf e2⟩
  | (.inr (b, j)) :: r, (.inr (b', j')) :: s, e => by
    unfold zrd at e
    rw [Bool.and_eq_true, Bool.and_eq_true, decide_eq_true_eq, beq_iff_eq] at e
    obtain ⟨⟨rfl, rfl⟩, e⟩ := e
    split at e
    · next a hi t s9 q =>
      rcases zgl_get hA q with z | ⟨w, e1, x, rfl, k1, k2, k3, -⟩
      · cases z
      · have same : zmd i j = false → zrv L' ((.inr (b, j))) = zrv L ((.inr (b, j))) := fun z => by
          show (match L'[j]? with
            | some (some (.int x)) => (b - x.toInt).toNat
            | _ => 0) = (match L[j]? with
            | some (some (.int x)) => (b - x.toInt).toNat
            | _ => 0)
          rw [hf.1 j x z e1, e1]
        split at e
        · next j2 d =>
          split at e
          · next q2 =>
            subst q2
            simp only [Bool.and_eq_true, decide_eq_true_eq] at e
            left
            have e2 := Int32.toInt_add x (Int32.ofInt d)
            rw [zbm (by have := Int32.le_toInt x; omega) (by omega)] at e2
            show (match L'[j2]? with
              | some (some (.int x)) => (b - x.toInt).toNat
              | _ => 0) < (match L[j2]? with
              | some (some (.int x)) => (b - x.toInt).toNat
              | _ => 0)
            rw [hf.2 j2 d rfl x e1, e1]
            show (b - (x + Int32.ofInt d).toInt).toNat < (b - x.toInt).toNat
            rw [e2]
            exact (Int.toNat_lt_toNat (by omega)).mpr (by omega)
          · next q2 => exact Or.inr ⟨same (by show (j2 == j) = false; simpa using q2), zrd_ok hA hf e⟩
        · rw [Bool.and_eq_true, beq_iff_eq] at e
          exact Or.inr ⟨same e.1, zrd_ok hA hf e.2⟩
    · cases e
  | (.inl _) :: _, (.inr (_, _)) :: _, e => by cases e
  | (.inr (_, _)) :: _, (.inl _) :: _, e => by cases e
  | [], _, e => by cases e
  | (.inl _) :: _, [], e => by cases e
  | (.inr (_, _)) :: _, [], e => by cases e
/-- a table: place, rank, what may still be made, kinds of locals and stack -/
abbrev zCe : Type := Nat × List zRk × (Nat × Nat) × List zTy × List zTy
def zlkc : List zCe → Nat → Option (List zRk × (Nat × Nat) × List zTy × List zTy)
  | [], _ => none
  | (q, x) :: r, pc => if q = pc then some x else zlkc r pc
def zed (cert : List zCe) (i : Instr) (A : List zTy) (rk : List zRk) (bu : Nat × Nat) (s : Nat × List zTy × List zTy) : Bool := match zlkc cert s.1 with
  | some (rk', bu', A2, S2) => rk.length == rk'.length && zrd i A rk rk' && zsbs s.2.1 A2 && zsbs s.2.2 S2 && decide (bu'.1 ≤ bu.1) && decide (bu'.2 ≤ bu.2)
  | none => false
def zcsA : List zTy → Nat
  | [] => 0
  | t :: r => (if zis1 t = true then 1 else 2) + zcsA r
theorem zcsA_ok {g : zG} {lg : Nat} {h : zH} {L : zL} : ∀ {S : List zTy} {st : List Value}, zgs g lg h L S st → zcs st ≤ zcsA S
  | [], [], _ => Nat.le_refl _
  | t :: r, v :: s, k => by
    have ih := zcsA_ok k.2
    show (if zcat v then 2 else 1) + zcs s ≤ (if zis1 t = true then 1 else 2) + zcsA r
    split
    · split
      · next a b =>
        have := zis1_ok b k.1
        rw [a] at this
        cases this
      · omega
    · split <;> omega
  | [], _ :: _, k => k.elim
  | _ :: _, [], k => k.elim
theorem zgs_len {g : zG} {lg : Nat} {h : zH} {L : zL} : ∀ {S : List zTy} {st : List Value}, zgs g lg h L S st → S.length = st.length
  | [], [], _ => rfl
  | _ :: _, _ :: _, k => congrArg (· + 1) (zgs_len k.2)
  | [], _ :: _, k => k.elim
  | _ :: _, [], k => k.elim
theorem zgs_take {g : zG} {lg : Nat} {h : zH} {L : zL} : ∀ {n : Nat} {S : List zTy} {st : List Value}, zgs g lg h L S st → zgs g lg h L (S.take n) (st.take n)
  | 0, _, _, _ => by rw [List.take_zero, List.take_zero]; trivial
  | n + 1, [], [], _ => trivial
  | n + 1, _ :: _, _ :: _, k => ⟨k.1, zgs_take (n := n) k.2⟩
  | _ + 1, [], _ :: _, k => k.elim
  | _ + 1, _ :: _, [], k => k.elim
theorem zgs_drop {g : zG} {lg : Nat} {h : zH} {L : zL} : ∀ {n : Nat} {S : List zTy} {st : List Value}, zgs g lg h L S st → zgs g lg h L (S.drop n) (st.drop n)
  | 0, _, _, k => k
  | n + 1, [], [], _ => trivial
  | n + 1, _ :: _, _ :: _, k => zgs_drop (n := n) k.2
  | _ + 1, [], _ :: _, k => k.elim
  | _ + 1, _ :: _, [], k => k.elim
theorem zgs_app {g : zG} {lg : Nat} {h : zH} {L : zL} : ∀ {S S2 : List zTy} {st s2 : List Value}, zgs g lg h L S st → zgs g lg h L S2 s2 → zgs g lg h L (S ++ S2) (st ++ s2)
  | [], _, [], _, _, k => k
  | _ :: _, _, _ :: _, _, k, k2 => ⟨k.1, zgs_app k.2 k2⟩
  | [], _, _ :: _, _, k, _ => k.elim
  | _ :: _, _, [], _, k, _ => k.elim
theorem zgs_rev {g : zG} {lg : Nat} {h : zH} {L : zL} : ∀ {S : List zTy} {st : List Value}, zgs g lg h L S st → zgs g lg h L S.reverse st.reverse
  | [], [], _ => trivial
  | _ :: _, _ :: _, k => by
    rw [List.reverse_cons, List.reverse_cons]
    exact zgs_app (zgs_rev k.2) ⟨k.1, trivial⟩
  | [], _ :: _, k => k.elim
  | _ :: _, [], k => k.elim
theorem zgs_fl {g : zG} {lg : Nat} {h : zH} {L : zL} : ∀ {S : List zTy} {st : List Value}, zgs g lg h L S st → zgs g lg h [] (S.map zfl) st
  | [], [], _ => trivial
  | _ :: _, _ :: _, k => ⟨zga_fl k.1, zgs_fl k.2⟩
  | [], _ :: _, k => k.elim
  | _ :: _, [], k => k.elim
theorem zgs_get {g : zG} {lg : Nat} {h : zH} {L : zL} : ∀ {i : Nat} {S : List zTy} {st : List Value} {T : zTy}, zgs g lg h L S st → S[i]? = some T → ∃ v, st[i]? = some v ∧ zga g lg h L T v
  | _, [], [], _, _, e => by cases e
  | 0, _ :: _, _ :: _, _, k, e => by
    cases e
    exact ⟨_, rfl, k.1⟩
  | i + 1, _ :: _, _ :: _, _, k, e => zgs_get (i := i) k.2 e
  | _, [], _ :: _, _, k, _ => k.elim
  | _, _ :: _, [], _, k, _ => k.elim
theorem ztk_eq : ∀ {n : Nat} {acc st : List Value}, n ≤ st.length → ztk n acc st = some ((st.take n).reverse ++ acc, st.drop n)
  | 0, _, _, _ => rfl
  | n + 1, acc, v :: r, hn => by
    show ztk n (v :: acc) r = _
    rw [ztk_eq (by simpa using hn)]
    simp
  | _ + 1, _, [], hn => by cases hn
/-- what a call leaves on the stack -/
def zrtT (as : List zTy) : Option zTy → List zTy
  | none => []
  | some ((.inr (.inl (i, lo, hi, t)))) => [match as[i]? with
    | some ((.inl (_, _, _, (s + 1)))) => (.inr (.inl (s, lo, hi, t)))
    | _ => (.inl (0, 1, 0, 0))]
  | some t => [t]
theorem zrtT_ok {g : zG} {lg lg2 : Nat} {h h2 : zH} {L : zL} {as : List zTy} {vs : List Value} {rt : Option zTy} {v : Option Value} (ha : zgs g lg2 h2 L as vs) (k : zgo2 g lg h (vs.map some) rt v) (hr : ∀ T, rt = some T → zfree T = true ∨ ∃ i lo hi t, T = (.inr (.inl (i, lo, hi, t)))) : zgs g lg h L (zrtT as rt) v.toList := by
  cases rt with
  | none =>
    obtain rfl := (show v = none from k)
    trivial
  | some T =>
    obtain ⟨w, rfl, k⟩ := k
    rcases hr T rfl with f | ⟨i, lo, hi, t, rfl⟩
    · have e : zrtT as (some T) = [T] := by
        induction T using zTc <;> first | rfl | cases f
      rw [e]
      have z := zga_fl (L' := L) k
      have e2 : zfl T = T := by
        induction T using zTc with
        | I lo hi t s =>
          have z : s = 0 := by simpa [zfree] using f
          subst z
          rfl
        | B i lo hi t => exact absurd f (by simp [zfree])
        | _ => rfl
      rw [e2] at z
      exact ⟨z, trivial⟩
    · refine ⟨?_, trivial⟩
      split
      · next a b t9 s q =>
        obtain ⟨x, e1, k1, k2⟩ := k
        obtain ⟨u, u1, x2, rfl, -, -, -, u2⟩ := zgs_get ha q
        refine ⟨x, e1, k1, fun z => ?_⟩
        obtain ⟨w2, w3, w4⟩ := k2 z
        rw [List.getElem?_map, u1] at w3
        cases w3
        rcases u2 with u2 | u2
        · cases u2
        · exact ⟨_, u2, w4⟩
      · exact zga_fl (t := (.inr (.inl (i, lo, hi, t)))) k

def zcr : Option zTy → Bool
  | none => true
  | some ((.inr (.inl (_, _, _, _)))) => true
  | some T => zfree T
def zcp (dep y : Nat) (as : List zTy) (ct : zCt) : Bool := ct.y == y && zsbs (as.map zfl) ct.as && decide (ct.dep + 1 ≤ dep) && zcr ct.rt
def zcg (cs : List zCt) (dep y m : Nat) (S : List zTy) : Option (List zTy × Nat × Nat) := if m ≤ S.length ∧ zcsA (S.drop m) ≤ 8 then (match cs.find? (zcp dep y (S.take m).reverse) with
    | some ct => some (zrtT (S.take m).reverse ct.rt ++ S.drop m, ct.dc, ct.ds)
    | none => none) else none
def zcv (c : Nat) : List zTy → Bool
  | (.inr (.inr (.inl (p, q)))) :: _ => p == 44 && q == 44 && c == 7
  | (.inr (.inr (.inr (j + 8)))) :: _ => c == 10 && decide (j < 3)
  | _ => false
def zcin (dep : Nat) : List zTy → Option (List zTy × Nat × Nat)
  | u :: w :: t :: r => (match zlo u, zlo w, zlo t with
    | some (_, b, tt), some (a, _, _), some _ => if zcsA r ≤ 8 ∧ 1 ≤ dep then some ((match t with
      | (.inl (_, _, _, (s + 1))) => (.inr (.inl (s, a, b, tt)))
      | _ => (.inl (0, 1, 0, 0))) :: r, 0, 0) else none
    | _, _, _ => none)
  | _ => none
def zcll (cs : List zCt) (dep : Nat) (i : Instr) (k y n c : Nat) (S : List zTy) : Option (List zTy × Nat × Nat) := match i with
  | .invokestatic _ => if k = 10 ∨ k = 12 ∨ k = 13 then none else if y = 112 then (if n = 3 then zcin dep S else none) else zcg cs dep y n S
  | .invokevirtual _ => if k = 11 then none else if zcv c (S.take (n + 1)).reverse = true then zcg cs dep y (n + 1) S else none
  | .invokeinterface _ _ => if zcv c (S.take (n + 1)).reverse = true then zcg cs dep y (n + 1) S else none
  | _ => none
/-- Math.min, max -/
def zmmA (i : Instr) (k nx : Nat) (A S : List zTy) : Option (List (Nat × List zTy × List zTy)) := match i, S with
  | .invokestatic _, u :: t :: r => if (k = 12 ∨ k = 13) ∧ (zlo t).isSome = true ∧ (zlo u).isSome = true ∧ zcsA r ≤ 8 then some [(nx, A, zIA :: r)] else none
  | _, _ => none
def zrtc (i : Instr) (k : Nat) (S : List zTy) (rt : Option zTy) : Bool := match i, S, rt with
  | .ireturn, [t], some T => (match zlo t with
    | some (a, b, _) => (k == 0 || (k == 1 && decide (0 ≤ a) && decide (b ≤ 1))) && zsub (zfl t) T && zfree T
    | none => false)
  | .lreturn, [(.inr (.inr (.inr 1)))], some (.inr (.inr (.inr 1))) => true
  | .dreturn, [(.inr (.inr (.inr 2)))], some (.inr (.inr (.inr 2))) => true
  | .dreturn, [(.inr (.inr (.inr 2)))], some (.inr (.inr (.inr 4))) => true
  | .dreturn, [(.inr (.inr (.inr 4)))], some (.inr (.inr (.inr 4))) => true
  | .return_, [], none => true
  | _, _, _ => false
def zce (y : Nat) (cs : List zCt) (cert : List zCe) (dep : Nat) (rt : Option zTy) (e : zCe) : Bool := match zat (zmc y) e.1 with
  | none => false
  | some (i, nx, k, yy, n, c) => zrtc i k e.2.2.2.2 rt || (match zab i nx k yy e.1 e.2.2.2.1 e.2.2.2.2 with
    | some l => l.all (zed cert i e.2.2.2.1 e.2.1 e.2.2.1)
    | none => match zmmA i k nx e.2.2.2.1 e.2.2.2.2 with
      | some l => l.all (zed cert i e.2.2.2.1 e.2.1 e.2.2.1)
      | none => match zcll cs dep i k yy n c e.2.2.2.2 with
        | some (S', dc, ds) => decide (dc ≤ e.2.2.1.1) && decide (ds ≤ e.2.2.1.2) && zed cert i e.2.2.2.1 e.2.1 (e.2.2.1.1 - dc, e.2.2.1.2 - ds) (nx, e.2.2.2.1, S')
        | none => false)
section ZCH
variable {xs : List Int32} {g : zG} {lg : Nat} {h : zH} {L : zL} {A S : List zTy} {st : List Value} {cs : List zCt} {D y m nc ns k n c nx pc : Nat} {i : Instr} {S' : List zTy} {dc ds : Nat}
theorem zMs_mono {D D' y : Nat} {as : List Value} {P : zO → Prop} (hD : D ≤ D') (k : zMs xs D y as h nc ns P) : zMs xs D' y as h nc ns P := by
  obtain ⟨L0, e, o, N, p, q⟩ := k
  exact ⟨L0, e, o, N, p, fun d n hd hn => q d n (by omega) hn⟩
theorem zMs_post {D y : Nat} {as : List Value} {P P' : zO → Prop} (w : ∀ o, P o → P' o) (k : zMs xs D y as h nc ns P) : zMs xs D y as h nc ns P' := by
  obtain ⟨L0, e, o, N, p, q⟩ := k
  exact ⟨L0, e, o, N, w o p, q⟩
/-- what a call is known to leave -/
def zPc (g : zG) (lg : Nat) (h : zH) (L : zL) (nc ns : Nat) (S' : List zTy) (r : List Value) (dc ds : Nat) : zO → Prop := fun o => ∃ v h' lg' nc' ns', o = (.inl v, h', nc', ns') ∧ zgs g lg' h' L S' (v.toList ++ r) ∧ zHI g lg' h' ∧ zLE h h' ∧ lg ≤ lg' ∧ nc' + 2 * lg ≤ nc + 2 * lg' + dc ∧ ns' + 100 * lg ≤ ns + 100 * lg' + ds
theorem zcg_ok (hcs : ∀ ct ∈ cs, zGd xs ct) (e : zcg cs (D + 1) y m S = some (S', dc, ds)) (hI : zHI g lg h) (hS : zgs g lg h L S st) : m ≤ st.length ∧ zcs (st.drop m) ≤ 8 ∧ zMs xs D y (st.take m).reverse h nc ns (zPc g lg h L nc ns S' (st.drop m) dc ds) := by
  unfold zcg at e
  split at e
  · next w =>
    split at e
    · next ct q =>
      cases e
      have hm := List.mem_of_find?_eq_some q
      have hp := List.find?_some q
      unfold zcp at hp
      simp only [Bool.and_eq_true, beq_iff_eq, decide_eq_true_eq] at hp
      obtain ⟨⟨⟨rfl, p2⟩, p3⟩, p4⟩ := hp
      have hl := zgs_len hS
      have hd := zgs_drop (n := m) hS
      have ha := zgs_rev (zgs_take (n := m) hS)
      refine ⟨by omega, Nat.le_trans (zcsA_ok hd) w.2, zMs_mono (by omega) (zMs_post (fun o ho => ?_) (hcs ct hm g lg h nc ns _ hI (zsbs_s p2 (zgs_fl ha))))⟩
      obtain ⟨v, h', lg', nc', ns', rfl, b1, b2, b3, b4, b5, b6⟩ := ho
      refine ⟨v, h', lg', nc', ns', rfl, zgs_app (zrtT_ok ha b1 (fun T hT => ?_)) (zgs_mo b4 b3 hd), b2, b3, b4, b5, b6⟩
      rw [hT] at p4
      induction T using zTc <;> first | exact Or.inl p4 | exact Or.inr ⟨_, _, _, _, rfl⟩
    · cases e
  · cases e
/-- in -/
theorem m_112 {a b x : Int32} : zMs xs (D + 0) 112 [.int x, .int a, .int b] h nc ns (fun o => ∃ w : Int32, (w = 0 ∨ w = 1) ∧ (¬ w = 0 → a.toInt ≤ x.toInt ∧ x.toInt ≤ b.toInt) ∧ (w = 0 → x.toInt < a.toInt ∨ b.toInt < x.toInt) ∧ o = (.inl (some (.int w)), h, nc, ns)) := by
  refine ⟨_, rfl, ?_⟩
  refine zEs_run 2 rfl ?_
  refine zEs_icmp rfl (fun g => ?_) (fun g => ?_)
  · have z1 := zF_lt_t g
    refine zEs_run 1 rfl ?_
    exact zEs_bret rfl (Or.inl rfl) ⟨0, Or.inl rfl, fun z => absurd rfl z, fun _ => Or.inl z1, rfl⟩
  · have z1 := zF_lt_f g
    refine zEs_run 2 rfl ?_
    refine zEs_icmp rfl (fun g => ?_) (fun g => ?_)
    · have z2 := zF_gt_t g
      refine zEs_run 1 rfl ?_
      exact zEs_bret rfl (Or.inl rfl) ⟨0, Or.inl rfl, fun z => absurd rfl z, fun _ => Or.inr z2, rfl⟩
    · have z2 := zF_gt_f g
      refine zEs_run 2 rfl ?_
      exact zEs_bret rfl (Or.inr rfl) ⟨1, Or.inr rfl, fun _ => ⟨z1, z2⟩, fun z => absurd z (by decide), rfl⟩
theorem zcin_ok (e : zcin (D + 1) S = some (S', dc, ds)) (hI : zHI g lg h) (hS : zgs g lg h L S st) : 3 ≤ st.length ∧ zcs (st.drop 3) ≤ 8 ∧ zMs xs D 112 (st.take 3).reverse h nc ns (zPc g lg h L nc ns S' (st.drop 3) dc ds) := by
  unfold zcin at e
  split at e
  · next u w t r =>
    split at e
    · next a0 b tt a b0 t0 w3 e1 e2 e3 =>
      split at e
      · next q =>
        cases e
        match st, hS with
        | v1 :: v2 :: v3 :: s, hS =>
          obtain ⟨hi, rfl, -, i2, i3, -⟩ := zlo_ok e1 hS.1
          obtain ⟨lo, rfl, l1, -, -⟩ := zlo_ok e2 hS.2.1
          obtain ⟨a3, b3, c3⟩ := w3
          obtain ⟨x, rfl, -, -, -, x4⟩ := zlo_ok e3 hS.2.2.1
          refine ⟨by simp, Nat.le_trans (zcsA_ok hS.2.2.2) q.1, zMs_mono (Nat.zero_le _) (zMs_post (fun o ho => ?_) (m_112 (D := 0)))⟩
          obtain ⟨w9, w1, w2, -, rfl⟩ := ho
          refine ⟨_, h, lg, nc, ns, rfl, ⟨?_, hS.2.2.2⟩, hI, zLE_rf, Nat.le_refl _, Nat.le_refl _, Nat.le_refl _⟩
          split
          · next q1 q2 q3 p4 q5 =>
            refine ⟨w9, rfl, w1, fun z => ?_⟩
            obtain ⟨z1, z2⟩ := w2 z
            have x4 : p4 + 1 = 0 ∨ L[p4 + 1 - 1]? = some (some (.int x)) := x4
            exact ⟨x, x4.resolve_left (by omega), by omega, by omega, zta_le z2 i3⟩
          · refine ⟨w9, rfl, ?_, ?_, trivial, Or.inl rfl⟩ <;> rcases w1 with rfl | rfl <;> decide
        | [], hS => exact hS.elim
        | [_], hS => exact hS.2.elim
        | [_, _], hS => exact hS.2.2.elim
      · cases e
    · cases e
  · cases e
theorem zcv_ok {as : List zTy} {vs : List Value} (e : zcv c as = true) (hI : zHI g lg h) (k : zgs g lg h L as vs) : ∃ a as' ws, vs = .ref a :: as' ∧ h[a]? = some (c, ws) := by
  unfold zcv at e
  split at e
  · next p q r =>
    simp only [Bool.and_eq_true, beq_iff_eq] at e
    obtain ⟨⟨rfl, rfl⟩, rfl⟩ := e
    match vs, k with
    | v :: s, k =>
      obtain ⟨⟨a, rfl, k1, k2⟩, -⟩ := k
      replace k1 : 44 ≤ a := k1
      replace k2 : a ≤ 44 := k2
      obtain rfl : a = 44 := Nat.le_antisymm k2 k1
      obtain ⟨ws, w, -⟩ := hI.obj
      exact ⟨44, s, ws, rfl, w⟩
    | [], k => exact k.elim
  · next j r =>
    rw [Bool.and_eq_true, beq_iff_eq, decide_eq_true_eq] at e
    obtain ⟨rfl, hj⟩ := e
    match vs, k with
    | v :: s, k =>
      obtain rfl := (show v = _ from k.1)
      have key : ∀ {r n : Nat} {Q : List Int32 → Prop} {dq : Option Nat}, zLi h r n Q dq → ∃ ws, h[r]? = some (10, ws) := by
        intro r n Q dq z
        obtain ⟨es, z, -⟩ := z
        obtain ⟨a, b, z⟩ := zLs_size z
        exact ⟨_, z⟩
      obtain ⟨E, kk⟩ := hI.lists
      obtain ⟨ws, w⟩ := key (kk j (Nat.lt_of_lt_of_le hj hI.sizes.2.2.2.2.2.1)).2.1
      exact ⟨_, s, ws, rfl, w⟩
    | [], k => exact k.elim
  · cases e
theorem zcl_ok (hcs : ∀ ct ∈ cs, zGd xs ct) (e : zcll cs (D + 1) i k y n c S = some (S', dc, ds)) (hI : zHI g lg h) (hS : zgs g lg h L S st) : ∃ as r, zstep zcf xs pc i nx k y n c L st h = some (.inr (.inl (y, as, r, nx))) ∧ zMs xs D y as h nc ns (zPc g lg h L nc ns S' r dc ds) := by
  unfold zcll at e
  split at e
  · next j9 =>
    split at e
    · cases e
    · next q =>
      have hst : ∀ {m : Nat}, n = m → m ≤ st.length → zcs (st.drop m) ≤ 8 → zstep zcf xs pc (.invokestatic j9) nx k y n c L st h = some (.inr (.inl (y, (st.take m).reverse, st.drop m, nx))) := by
        intro m hm h1 h2
        subst hm
        refine (if_neg (fun z => q (Or.inl z))).trans ((if_neg (fun z => q (Or.inr (Or.inl z)))).trans ((if_neg (fun z => q (Or.inr (Or.inr z)))).trans ?_))
        unfold zcall
        rw [ztk_eq h1, List.append_nil]
        exact if_pos h2
      split at e
      · next q2 =>
        subst q2
        split at e
        · next q3 =>
          subst q3
          obtain ⟨p1, p2, p3⟩ := zcin_ok (xs := xs) (nc := nc) (ns := ns) e hI hS
          exact ⟨_, _, hst rfl p1 p2, p3⟩
        · cases e
      · obtain ⟨p1, p2, p3⟩ := zcg_ok (nc := nc) (ns := ns) hcs e hI hS
        exact ⟨_, _, hst rfl p1 p2, p3⟩
  · split at e
    · cases e
    · next q =>
      split at e
      · next q2 =>
        obtain ⟨p1, p2, p3⟩ := zcg_ok (nc := nc) (ns := ns) hcs e hI hS
        obtain ⟨a, as', ws, w1, w2⟩ := zcv_ok q2 hI (zgs_rev (zgs_take (n := n + 1) hS))
        refine ⟨_, _, (if_neg q).trans ?_, p3⟩
        rw [w1]
        exact zcallV_eq (by rw [ztk_eq p1, List.append_nil, w1]) w2 p2
      · cases e
  · split at e
    · next q2 =>
      obtain ⟨p1, p2, p3⟩ := zcg_ok (nc := nc) (ns := ns) hcs e hI hS
      obtain ⟨a, as', ws, w1, w2⟩ := zcv_ok q2 hI (zgs_rev (zgs_take (n := n + 1) hS))
      refine ⟨_, _, ?_, p3⟩
      rw [w1]
      exact zcallV_eq (by rw [ztk_eq p1, List.append_nil, w1]) w2 p2
    · cases e
  · cases e
theorem zmmA_ok {l : List (Nat × List zTy × List zTy)} (e : zmmA i k nx A S = some l) (hI : zHI g lg h) (hA : zgl g lg h A L) (hS : zgs g lg h L S st) : zOk g lg h i L l (zstep zcf xs pc i nx k y n c L st h) := by
  unfold zmmA at e
  split at e
  · next j u t r =>
    split at e
    · next q =>
      cases e
      match st, hS with
      | z :: x :: s, hS =>
        obtain ⟨⟨a, b, c9⟩, e1⟩ := Option.isSome_iff_exists.mp q.2.1
        obtain ⟨⟨a2, b2, c2⟩, e2⟩ := Option.isSome_iff_exists.mp q.2.2.1
        obtain ⟨x, rfl, -⟩ := zlo_ok e1 hS.2.1
        obtain ⟨z, rfl, -⟩ := zlo_ok e2 hS.1
        have hz : zcs s ≤ 8 := Nat.le_trans (zcsA_ok hS.2.2) q.2.2.2
        rcases q.1 with rfl | rfl
        · exact zOk_s hI hA (by intro _ _ e; cases e) (st' := .int (if x < z then z else x) :: s) (show (if zcs s ≤ 8 then zgo nx L (.int (if x < z then z else x) :: s) h else none) = _ from if_pos hz) ⟨zIA_ok _, hS.2.2⟩
        · exact zOk_s hI hA (by intro _ _ e; cases e) (st' := .int (if z < x then z else x) :: s) (show (if zcs s ≤ 8 then zgo nx L (.int (if z < x then z else x) :: s) h else none) = _ from if_pos hz) ⟨zIA_ok _, hS.2.2⟩
      | [], hS => exact hS.elim
      | [_], hS => exact hS.2.elim
    · cases e
  · cases e
theorem zlk_mem {pc : Nat} {x : List zRk × (Nat × Nat) × List zTy × List zTy} : ∀ {l : List zCe}, zlkc l pc = some x → (pc, x) ∈ l
  | [], e => by cases e
  | (q, x') :: r, e => by
    unfold zlkc at e
    split at e
    · next q =>
      subst q
      cases e
      exact List.mem_cons_self
    · exact List.mem_cons_of_mem _ (zlk_mem e)
theorem zck_g {cert : List zCe} {rt : Option zTy} {ex : List Nat} (P : zO → Prop) (lg0 nc0 ns0 dc0 ds0 : Nat) (h0 : zH) (hcs : ∀ ct ∈ cs, zGd xs ct) (hck : cert.all (fun e => ex.contains e.1 || zce y cs cert (D + 1) rt e) = true) (hret : ∀ v h' lg' nc' ns', zgo2 g lg' h' [] rt v → zHI g lg' h' → zLE h0 h' → lg0 ≤ lg' → nc' + 2 * lg0 ≤ nc0 + 2 * lg' + dc0 → ns' + 100 * lg0 ≤ ns0 + 100 * lg' + ds0 → P (.inl v, h', nc', ns')) (hex : ∀ pc rk (bu : Nat × Nat) A S, ex.contains pc = true → zlkc cert pc = some (rk, bu, A, S) → ∀ L st lg h nc ns, zHI g lg h → zgl g lg h A L → zgs g lg h L S st → zLE h0 h → lg0 ≤ lg → nc + 2 * lg0 + bu.1 ≤ nc0 + 2 * lg + dc0 → ns + 100 * lg0 + bu.2 ≤ ns0 + 100 * lg + ds0 → zEs xs (D + 1) y pc L st h nc ns P) (m : Nat) : ∀ l : List Nat, l.length = m → ∀ pc rk (bu : Nat × Nat) A S, zlkc cert pc = some (rk, bu, A, S) → ∀ L st lg h nc ns, rk.map (zrv L) = l → zHI g lg h → zgl g lg h A L → zgs g lg h L S st → zLE h0 h → lg0 ≤ lg → nc + 2 * lg0 + bu.1 ≤ nc0 + 2 * lg + dc0 → ns + 100 * lg0 + bu.2 ≤ ns0 + 100 * lg + ds0 → zEs xs (D + 1) y pc L st h nc ns P := by
  refine zlx_ind m _ (fun l hl ih pc rk bu A S hlk L st lg h nc ns hrk hI hA hS hLE hlg hnc hns => ?_)
  subst hrk
  have hent := List.all_eq_true.mp hck _ (zlk_mem hlk)
  dsimp only at hent
  rw [Bool.or_eq_true] at hent
  rcases hent with hent | hent
  · exact hex pc rk bu A S hent hlk L st lg h nc ns hI hA hS hLE hlg hnc hns
  unfold zce at hent
  dsimp only at hent
  split at hent
  · cases hent
  · next i nx k yy n c hrow =>
    have go : ∀ {lg' : Nat} {L' : zL} {st' : List Value} {h' : zH} {A' S' : List zTy} {pc' nc' ns' : Nat} {bu2 : Nat × Nat}, zed cert i A rk bu2 (pc', A', S') = true → zHI g lg' h' → zLE h h' → lg ≤ lg' → zgl g lg' h' A' L' → zgs g lg' h' L' S' st' → zLf i L L' → nc' + 2 * lg0 + bu2.1 ≤ nc0 + 2 * lg' + dc0 → ns' + 100 * lg0 + bu2.2 ≤ ns0 + 100 * lg' + ds0 → zEs xs (D + 1) y pc' L' st' h' nc' ns' P := by
      intro lg' L' st' h' A' S' pc' nc' ns' bu2 e1 e2 e3 e4 e5 e6 e7 e8 e9
      unfold zed at e1
      split at e1
      · next rk' bu' A2 S2 q =>
        simp only [Bool.and_eq_true, beq_iff_eq, decide_eq_true_eq] at e1
        obtain ⟨⟨⟨⟨⟨a1, a2⟩, a3⟩, a4⟩, a5⟩, a6⟩ := e1
        have hl' : (rk'.map (zrv L')).length = m := by
          rw [List.length_map, ← a1, ← hl, List.length_map]
        exact ih _ hl' (zrd_ok hA e7 a2) pc' rk' bu' A2 S2 q L' st' lg' h' nc' ns' rfl e2 (zsbs_l a3 e5) (zsbs_s a4 e6) (zLE_tr hLE e3) (by omega) (by omega) (by omega)
      · cases e1
    have one : ∀ {l9 : List (Nat × List zTy × List zTy)}, l9.all (zed cert i A rk bu) = true → zOk g lg h i L l9 (zstep zcf xs pc i nx k yy n c L st h) → zEs xs (D + 1) y pc L st h nc ns P := by
      intro l9 h9 ho
      obtain ⟨pc', L', st', h', A', S', o1, o2, o3, o4, o5, o6, o7⟩ := ho
      exact zEs_step hrow o1 (go (List.all_eq_true.mp h9 _ o2) o3 o4 (Nat.le_refl _) o5 o6 o7 hnc hns)
    rw [Bool.or_eq_true] at hent
    rcases hent with hent | hent
    · unfold zrtc at hent
      split at hent
      · next t T =>
        split at hent
        · next a b c9 e1 =>
          match st, hS with
          | [v], hS =>
            obtain ⟨x, rfl, x1, x2, -⟩ := zlo_ok e1 hS.1
            simp only [Bool.and_eq_true, Bool.or_eq_true, beq_iff_eq, decide_eq_true_eq] at hent
            obtain ⟨⟨q1, q2⟩, q3⟩ := hent
            refine zEs_end (dc := 0) (ds := 0) hrow (if_pos ?_) (hret _ h lg nc ns ⟨_, rfl, zga_L (zsb_ok q2 (zga_fl hS.1))⟩ hI hLE hlg (by omega) (by omega))
            rcases q1 with q1 | ⟨⟨q1, q4⟩, q5⟩
            · exact Or.inl q1
            · refine Or.inr (Or.inl ⟨q1, ?_⟩)
              rcases (show x.toInt = 0 ∨ x.toInt = 1 by omega) with z | z
              · exact Or.inl (Int32.toInt_inj.mp z)
              · exact Or.inr (Int32.toInt_inj.mp z)
          | [], hS => exact hS.elim
          | _ :: _ :: _, hS => exact hS.2.elim
        · cases hent
      · match st, hS with
        | [v], hS =>
          obtain ⟨x, rfl⟩ := hS.1
          exact zEs_end (dc := 0) (ds := 0) hrow rfl (hret _ h lg nc ns ⟨_, rfl, x, rfl⟩ hI hLE hlg (by omega) (by omega))
        | [], hS => exact hS.elim
        | _ :: _ :: _, hS => exact hS.2.elim
      · match st, hS with
        | [v], hS =>
          obtain ⟨x, x1, rfl⟩ := hS.1
          exact zEs_end (dc := 0) (ds := 0) hrow rfl (hret _ h lg nc ns ⟨_, rfl, x, x1, rfl⟩ hI hLE hlg (by omega) (by omega))
        | [], hS => exact hS.elim
        | _ :: _ :: _, hS => exact hS.2.elim
      · match st, hS with
        | [v], hS =>
          obtain ⟨x, x1, rfl⟩ := hS.1
          exact zEs_end (dc := 0) (ds := 0) hrow rfl (hret _ h lg nc ns ⟨_, rfl, _, rfl⟩ hI hLE hlg (by omega) (by omega))
        | [], hS => exact hS.elim
        | _ :: _ :: _, hS => exact hS.2.elim
      · match st, hS with
        | [v], hS =>
          obtain ⟨x, rfl⟩ := hS.1
          exact zEs_end (dc := 0) (ds := 0) hrow rfl (hret _ h lg nc ns ⟨_, rfl, x, rfl⟩ hI hLE hlg (by omega) (by omega))
        | [], hS => exact hS.elim
        | _ :: _ :: _, hS => exact hS.2.elim
      · match st, hS with
        | [], hS => exact zEs_end (dc := 0) (ds := 0) hrow rfl (hret _ h lg nc ns rfl hI hLE hlg (by omega) (by omega))
        | _ :: _, hS => exact hS.elim
      · cases hent
    · split at hent
      · next l9 e1 => exact one hent (zab_ok e1 hI hA hS)
      · split at hent
        · next l9 e1 => exact one hent (zmmA_ok e1 hI hA hS)
        · split at hent
          · next e0 S' dc ds e1 =>
            simp only [Bool.and_eq_true, decide_eq_true_eq] at hent
            obtain ⟨⟨b1, b2⟩, b3⟩ := hent
            obtain ⟨as', r, c1, c2⟩ := zcl_ok (xs := xs) (pc := pc) (nx := nx) (nc := nc) (ns := ns) hcs e1 hI hS
            have hi9 : ∀ j d, i ≠ .iinc j d := by
              intro j d z
              subst z
              cases e1
            refine zEs_callG hrow c1 c2 (fun v h1 nc1 ns1 w => ?_) (fun E h1 nc1 ns1 w => ?_)
            · obtain ⟨v', h', lg', nc', ns', w0, w1, w2, w3, w4, w5, w6⟩ := w
              cases w0
              exact go b3 w2 w3 w4 (zgl_mo w4 w3 hA) w1 ⟨fun _ _ _ k => k, fun j d e => absurd e (hi9 j d)⟩ (by dsimp only; omega) (by dsimp only; omega)
            · obtain ⟨v', h', lg', nc', ns', w0, -⟩ := w
              cases w0
          · cases hent
/-- a method -/
def zokM (ct : zCt) (cs : List zCt) (cert : List zCe) : Bool := (match zlkc cert 0 with
    | some (_, bu, A, S) => decide (bu.1 ≤ ct.dc) && decide (bu.2 ≤ ct.ds) && S.isEmpty && ct.as.all zis1 && ct.as.all zfree && decide (ct.as.length ≤ zmL ct.y) && zsbs (ct.as ++ List.replicate (zmL ct.y - ct.as.length) (.inr (.inr (.inr 0)))) A
    | none => false) && decide (1 ≤ ct.dep) && cert.all (zce ct.y cs cert ct.dep ct.rt)
theorem zex_1 : ∀ {as : List zTy} {vs : List Value}, as.all zis1 = true → zgs g lg h L as vs → zex vs = vs.map some
  | [], [], _, _ => rfl
  | t :: r, v :: s, f, k => by
    rw [List.all_cons, Bool.and_eq_true] at f
    have e := zis1_ok f.1 k.1
    show (if zcat v then some v :: none :: zex s else some v :: zex s) = some v :: s.map some
    rw [e, zex_1 f.2 k.2]
    rfl
  | [], _ :: _, _, k => k.elim
  | _ :: _, [], _, k => k.elim
theorem zgl_in : ∀ {as : List zTy} {vs : List Value} {n : Nat}, zgs g lg h [] as vs → zgl g lg h (as ++ List.replicate n (.inr (.inr (.inr 0)))) (vs.map some ++ List.replicate n none)
  | [], [], 0, _ => trivial
  | [], [], n + 1, k => ⟨Or.inl rfl, zgl_in (as := []) (vs := []) (n := n) k⟩
  | _ :: _, _ :: _, _, k => ⟨Or.inr ⟨_, rfl, k.1⟩, zgl_in k.2⟩
  | [], _ :: _, _, k => k.elim
  | _ :: _, [], _, k => k.elim
theorem zmeth (ct : zCt) (cert : List zCe) (hcs : ∀ c ∈ cs, zGd xs c) (hok : zokM ct cs cert = true) : zGd xs ct := by
  intro g lg h nc ns as hI hS
  unfold zokM at hok
  rw [Bool.and_eq_true, Bool.and_eq_true] at hok
  obtain ⟨⟨h1, h2⟩, h3⟩ := hok
  split at h1
  · next rk bu A S e =>
    simp only [Bool.and_eq_true, decide_eq_true_eq] at h1 h2
    obtain ⟨⟨⟨⟨⟨⟨a1, a2⟩, a3⟩, a4⟩, a5⟩, a6⟩, a7⟩ := h1
    have hl := zgs_len hS
    have a3 : S = [] := List.isEmpty_iff.mp a3
    subst a3
    obtain ⟨D, hD⟩ : ∃ q, ct.dep = q + 1 := ⟨ct.dep - 1, by omega⟩
    refine ⟨as.map some ++ List.replicate (zmL ct.y - ct.as.length) none, ?_, ?_⟩
    · unfold zen
      rw [zex_1 a4 hS, List.length_map, ← hl]
      exact if_pos a6
    · rw [hD] at h3 ⊢
      refine zck_g (ex := []) _ lg nc ns ct.dc ct.ds h hcs (by simpa using h3) (fun v h' lg' nc' ns' b1 b2 b3 b4 b5 b6 => ⟨v, h', lg', nc', ns', rfl, ?_, b2, b3, b4, b5, b6⟩) (fun pc rk bu A S z => by cases z) _ _ rfl 0 rk bu A [] e _ [] lg h nc ns rfl hI (zsbs_l a7 (zgl_in hS)) trivial zLE_rf (Nat.le_refl _) (by omega) (by omega)
      cases hrt : ct.rt with
      | none =>
        rw [hrt] at b1
        exact b1
      | some T =>
        rw [hrt] at b1
        obtain ⟨w, w1, w2⟩ := b1
        exact ⟨w, w1, zga_L w2⟩
  · cases h1
end ZCH
/-! A stretch of a method, up to a place. -/
abbrev zNo : zTy := (.inl (1, 0, 0, 0))
theorem zno {g : zG} {lg : Nat} {h : zH} {L : zL} {v : Option Value} (k : zgo2 g lg h L (some zNo) v) : False := by
  obtain ⟨w, -, x, -, a, b, -⟩ := k
  omega
theorem zreg {xs : List Int32} {g : zG} {lg : Nat} {h : zH} {D y nc ns : Nat} {cs : List zCt} {cert : List zCe} {P : zO → Prop} {rkx rk0 : List zRk} {bux bu0 : Nat × Nat} {Ax Sx A0 S0 : List zTy} {L : zL} {st : List Value} (s x : Nat) (hcs : ∀ ct ∈ cs, zGd xs ct) (hs : zlkc cert s = some (rk0, bu0, A0, S0)) (hx : zlkc cert x = some (rkx, bux, Ax, Sx)) (hok : cert.all (fun e => [x].contains e.1 || zce y cs cert (D + 1) (some zNo) e) = true) (hI : zHI g lg h) (hA : zgl g lg h A0 L) (hS : zgs g lg h L S0 st)
    (hk : ∀ L st lg' h' nc' ns', zHI g lg' h' → zgl g lg' h' Ax L → zgs g lg' h' L Sx st → zLE h h' → lg ≤ lg' → nc' + 2 * lg + bux.1 ≤ nc + 2 * lg' + bu0.1 → ns' + 100 * lg + bux.2 ≤ ns + 100 * lg' + bu0.2 → zEs xs (D + 1) y x L st h' nc' ns' P) : zEs xs (D + 1) y s L st h nc ns P := by
  refine zck_g (ex := [x]) P lg nc ns bu0.1 bu0.2 h hcs hok (fun v h' lg' nc' ns' b => (zno b).elim) (fun pc rk bu A S z e L st lg' h' nc' ns' b1 b2 b3 b4 b5 b6 b7 => ?_) _ _ rfl s rk0 bu0 A0 S0 hs L st lg h nc ns rfl hI hA hS zLE_rf (Nat.le_refl _) (Nat.le_of_eq (by omega)) (Nat.le_of_eq (by omega))
  have z : pc = x := by simpa using z
  subst z
  rw [hx] at e
  cases e
  exact hk L st lg' h' nc' ns' b1 b2 b3 b4 b5 b6 b7
