/-! A method whose table of kinds is in order keeps its contract. -/
abbrev zRk : Type := Nat ⊕ (Int × Nat)
def zrv (L : zL) : zRk → Nat
  | (.inl a) => a
  | (.inr (b, j)) => match L[j]? with
    | some (some (.int x)) => (b - x.toInt).toNat
    | _ => 0
def zrd (i : Instr) (A : List zTy) : List zRk → List zRk → Bool
  | (.inl a) :: r, (.inl b) :: s => decide (b < a) || (a == b && zrd i A r s)
  | (.inr (b, j)) :: r, (.inr (b', j')) :: s => decide (b = b') && j == j' && (match A[j]? with
    | some ((.inl (_, hi, _, _))) => (match i with
      | .iinc j2 d => if j2 = j then decide (0 < (Int32.ofInt d).toInt) && decide (hi < b) && decide (hi + (Int32.ofInt d).toInt ≤ 2147483647) else zrd i A r s
      | _ => zmd i j == false && zrd i A r s)
    | _ => false)
  | _, _ => false
def zlx : List Nat → List Nat → Prop
  | a :: r, b :: s => a < b ∨ (a = b ∧ zlx r s)
  | _, _ => False
theorem zlx_ind : ∀ (m : Nat) (P : List Nat → Prop), (∀ l, l.length = m → (∀ l', l'.length = m → zlx l' l → P l') → P l) → ∀ l, l.length = m → P l
  | 0, P, st, l, e => st l e (fun l' e' z => by
    have : l' = [] := List.length_eq_zero_iff.mp e'
    subst this
    exact z.elim)
  | m + 1, P, st, l, e => by
    have key : ∀ a : Nat, ∀ r : List Nat, r.length = m → P (a :: r) := by
      intro a
      induction a using Nat.strongRecOn with
      | ind a ih =>
        refine zlx_ind m (fun r => P (a :: r)) (fun r hr ih2 => st (a :: r) (by simp [hr]) (fun l' e' z => ?_))
        match l', e', z with
        | b :: s, e', z =>
          rcases z with z2 | ⟨z1, z2⟩
          · exact ih b z2 s (by simpa using e')
          · subst z1
            exact ih2 s (by simpa using e') z2
        | [], _, z => exact z.elim
    match l, e with
    | a :: r, e => exact key a r (by simpa using e)
    | [], e => cases e
theorem zrd_ok {g : zG} {lg : Nat} {h : zH} {i : Instr} {A : List zTy} {L L' : zL} (hA : zgl g lg h A L) (hf : zLf i L L') : ∀ {rk rk' : List zRk}, zrd i A rk rk' = true → zlx (rk'.map (zrv L')) (rk.map (zrv L))
  | (.inl a) :: r, (.inl b) :: s, e => by
    have e : (decide (b < a) || (a == b && zrd i A r s)) = true := e
    rw [Bool.or_eq_true, Bool.and_eq_true, decide_eq_true_eq, beq_iff_eq] at e
    rcases e with e | ⟨e1, e2⟩
    · exact Or.inl e
    · exact Or.inr ⟨e1.symm, zrd_ok hA hf e2⟩
  | (.inr (b, j)) :: r, (.inr (b', j')) :: s, e => by
    unfold zrd at e
    rw [Bool.and_eq_true, Bool.and_eq_true, decide_eq_true_eq, beq_iff_eq] at e
    obtain ⟨⟨rfl, rfl⟩, e⟩ := e
    split at e
    · next a hi t s9 q =>
      rcases zgl_get hA q with z | ⟨w, e1, x, rfl, k1, k2, k3, -⟩
      · cases z
      · have same : zmd i j = false → zrv L' ((.inr (b, j))) = zrv L ((.inr (b, j))) := fun z => by
          show (match L'[j]? with
            | some (some (.int x)) => (b - x.toInt).toNat
            | _ => 0) = (match L[j]? with
            | some (some (.int x)) => (b - x.toInt).toNat
            | _ => 0)
          rw [hf.1 j x z e1, e1]
        split at e
        · next j2 d =>
          split at e
          · next q2 =>
            subst q2
            simp only [Bool.and_eq_true, decide_eq_true_eq] at e
            left
            have e2 := Int32.toInt_add x (Int32.ofInt d)
            rw [zbm (by have := Int32.le_toInt x; omega) (by omega)] at e2
            show (match L'[j2]? with
              | some (some (.int x)) => (b - x.toInt).toNat
              | _ => 0) < (match L[j2]? with
              | some (some (.int x)) => (b - x.toInt).toNat
              | _ => 0)
            rw [hf.2 j2 d rfl x e1, e1]
            show (b - (x + Int32.ofInt d).toInt).toNat < (b - x.toInt).toNat
            rw [e2]
            exact (Int.toNat_lt_toNat (by omega)).mpr (by omega)
          · next q2 => exact Or.inr ⟨same (by show (j2 == j) = false; simpa using q2), zrd_ok hA hf e⟩
        · rw [Bool.and_eq_true, beq_iff_eq] at e
          exact Or.inr ⟨same e.1, zrd_ok hA hf e.2⟩
    · cases e
  | (.inl _) :: _, (.inr (_, _)) :: _, e => by cases e
  | (.inr (_, _)) :: _, (.inl _) :: _, e => by cases e
  | [], _, e => by cases e
  | (.inl _) :: _, [], e => by cases e
  | (.inr (_, _)) :: _, [], e => by cases e
/-- a table: place, rank, what may still be made, kinds of locals and stack -/
abbrev zCe : Type := Nat × List zRk × (Nat × Nat) × List zTy × List zTy
def zlkc : List zCe → Nat → Option (List zRk × (Nat × Nat) × List zTy × List zTy)
  | [], _ => none
  | (q, x) :: r, pc => if q = pc then some x else zlkc r pc
def zed (cert : List zCe) (i : Instr) (A : List zTy) (rk : List zRk) (bu : Nat × Nat) (s : Nat × List zTy × List zTy) : Bool := match zlkc cert s.1 with
  | some (rk', bu', A2, S2) => rk.length == rk'.length && zrd i A rk rk' && zsbs s.2.1 A2 && zsbs s.2.2 S2 && decide (bu'.1 ≤ bu.1) && decide (bu'.2 ≤ bu.2)
  | none => false
def zcsA : List zTy → Nat
  | [] => 0
  | t :: r => (if zis1 t = true then 1 else 2) + zcsA r
theorem zcsA_ok {g : zG} {lg : Nat} {h : zH} {L : zL} : ∀ {S : List zTy} {st : List Value}, zgs g lg h L S st → zcs st ≤ zcsA S
  | [], [], _ => Nat.le_refl _
  | t :: r, v :: s, k => by
    have ih := zcsA_ok k.2
    show (if zcat v then 2 else 1) + zcs s ≤ (if zis1 t = true then 1 else 2) + zcsA r
    split
    · split
      · next a b =>
        have := zis1_ok b k.1
        rw [a] at this
        cases this
      · omega
    · split <;> omega
  | [], _ :: _, k => k.elim
  | _ :: _, [], k => k.elim
theorem zgs_len {g : zG} {lg : Nat} {h : zH} {L : zL} : ∀ {S : List zTy} {st : List Value}, zgs g lg h L S st → S.length = st.length
  | [], [], _ => rfl
  | _ :: _, _ :: _, k => congrArg (· + 1) (zgs_len k.2)
  | [], _ :: _, k => k.elim
  | _ :: _, [], k => k.elim
theorem zgs_take {g : zG} {lg : Nat} {h : zH} {L : zL} : ∀ {n : Nat} {S : List zTy} {st : List Value}, zgs g lg h L S st → zgs g lg h L (S.take n) (st.take n)
  | 0, _, _, _ => by rw [List.take_zero, List.take_zero]; trivial
  | n + 1, [], [], _ => trivial
  | n + 1, _ :: _, _ :: _, k => ⟨k.1, zgs_take (n := n) k.2⟩
  | _ + 1, [], _ :: _, k => k.elim
  | _ + 1, _ :: _, [], k => k.elim
theorem zgs_drop {g : zG} {lg : Nat} {h : zH} {L : zL} : ∀ {n : Nat} {S : List zTy} {st : List Value}, zgs g lg h L S st → zgs g lg h L (S.drop n) (st.drop n)
  | 0, _, _, k => k
  | n + 1, [], [], _ => trivial
  | n + 1, _ :: _, _ :: _, k => zgs_drop (n := n) k.2
  | _ + 1, [], _ :: _, k => k.elim
  | _ + 1, _ :: _, [], k => k.elim
theorem zgs_app {g : zG} {lg : Nat} {h : zH} {L : zL} : ∀ {S S2 : List zTy} {st s2 : List Value}, zgs g lg h L S st → zgs g lg h L S2 s2 → zgs g lg h L (S ++ S2) (st ++ s2)
  | [], _, [], _, _, k => k
  | _ :: _, _, _ :: _, _, k, k2 => ⟨k.1, zgs_app k.2 k2⟩
  | [], _, _ :: _, _, k, _ => k.elim
  | _ :: _, _, [], _, k, _ => k.elim
theorem zgs_rev {g : zG} {lg : Nat} {h : zH} {L : zL} : ∀ {S : List zTy} {st : List Value}, zgs g lg h L S st → zgs g lg h L S.reverse st.reverse
  | [], [], _ => trivial
  | _ :: _, _ :: _, k => by
    rw [List.reverse_cons, List.reverse_cons]
    exact zgs_app (zgs_rev k.2) ⟨k.1, trivial⟩
  | [], _ :: _, k => k.elim
  | _ :: _, [], k => k.elim
theorem zgs_fl {g : zG} {lg : Nat} {h : zH} {L : zL} : ∀ {S : List zTy} {st : List Value}, zgs g lg h L S st → zgs g lg h [] (S.map zfl) st
  | [], [], _ => trivial
  | _ :: _, _ :: _, k => ⟨zga_fl k.1, zgs_fl k.2⟩
  | [], _ :: _, k => k.elim
  | _ :: _, [], k => k.elim
theorem zgs_get {g : zG} {lg : Nat} {h : zH} {L : zL} : ∀ {i : Nat} {S : List zTy} {st : List Value} {T : zTy}, zgs g lg h L S st → S[i]? = some T → ∃ v, st[i]? = some v ∧ zga g lg h L T v
  | _, [], [], _, _, e => by cases e
  | 0, _ :: _, _ :: _, _, k, e => by
    cases e
    exact ⟨_, rfl, k.1⟩
  | i + 1, _ :: _, _ :: _, _, k, e => zgs_get (i := i) k.2 e
  | _, [], _ :: _, _, k, _ => k.elim
  | _, _ :: _, [], _, k, _ => k.elim
theorem ztk_eq : ∀ {n : Nat} {acc st : List Value}, n ≤ st.length → ztk n acc st = some ((st.take n).reverse ++ acc, st.drop n)
  | 0, _, _, _ => rfl
  | n + 1, acc, v :: r, hn => by
    show ztk n (v :: acc) r = _
    rw [ztk_eq (by simpa using hn)]
    simp
  | _ + 1, _, [], hn => by cases hn
/-- what a call leaves on the stack -/
def zrtT (as : List zTy) : Option zTy → List zTy
  | none => []
  | some ((.inr (.inl (i, lo, hi, t)))) => [match as[i]? with
    | some ((.inl (_, _, _, (s + 1)))) => (.inr (.inl (s, lo, hi, t)))
    | _ => (.inl (0, 1, 0, 0))]
  | some t => [t]
theorem zrtT_ok {g : zG} {lg lg2 : Nat} {h h2 : zH} {L : zL} {as : List zTy} {vs : List Value} {rt : Option zTy} {v : Option Value} (ha : zgs g lg2 h2 L as vs) (k : zgo2 g lg h (vs.map some) rt v) (hr : ∀ T, rt = some T → zfree T = true ∨ ∃ i lo hi t, T = (.inr (.inl (i, lo, hi, t)))) : zgs g lg h L (zrtT as rt) v.toList := by
  cases rt with
  | none =>
    obtain rfl := (show v = none from k)
    trivial
  | some T =>
    obtain ⟨w, rfl, k⟩ := k
    rcases hr T rfl with f | ⟨i, lo, hi, t, rfl⟩
    · have e : zrtT as (some T) = [T] := by
        induction T using zTc <;> first | rfl | cases f
      rw [e]
      have z := zga_fl (L' := L) k
      have e2 : zfl T = T := by
        induction T using zTc with
        | I lo hi t s =>
          have z : s = 0 := by simpa [zfree] using f
          subst z
          rfl
        | B i lo hi t => exact absurd f (by simp [zfree])
        | _ => rfl
      rw [e2] at z
      exact ⟨z, trivial⟩
    · refine ⟨?_, trivial⟩
      split
      · next a b t9 s q =>
        obtain ⟨x, e1, k1, k2⟩ := k
        obtain ⟨u, u1, x2, rfl, -, -, -, u2⟩ := zgs_get ha q
        refine ⟨x, e1, k1, fun z => ?_⟩
        obtain ⟨w2, w3, w4⟩ := k2 z
        rw [List.getElem?_map, u1] at w3
        cases w3
        rcases u2 with u2 | u2
        · cases u2
        · exact ⟨_, u2, w4⟩
      · exact zga_fl (t := (.inr (.inl (i, lo, hi, t)))) k

def zcr : Option zTy → Bool
  | none => true
  | some ((.inr (.inl (_, _, _, _)))) => true
  | some T => zfree T
def zcp (dep y : Nat) (as : List zTy) (ct : zCt) : Bool := ct.y == y && zsbs (as.map zfl) ct.as && decide (ct.dep + 1 ≤ dep) && zcr ct.rt
def zcg (cs : List zCt) (dep y m : Nat) (S : List zTy) : Option (List zTy × Nat × Nat) := if m ≤ S.length ∧ zcsA (S.drop m) ≤ 8 then (match cs.find? (zcp dep y (S.take m).reverse) with
    | some ct => some (zrtT (S.take m).reverse ct.rt ++ S.drop m, ct.dc, ct.ds)
    | none => none) else none
def zcv (c : Nat) : List zTy → Bool
  | (.inr (.inr (.inl (p, q)))) :: _ => p == 44 && q == 44 && c == 7
  | (.inr (.inr (.inr (j + 8)))) :: _ => c == 10 && decide (j < 3)
  | _ => false
def zcin (dep : Nat) : List zTy → Option (List zTy × Nat × Nat)
  | u :: w :: t :: r => (match zlo u, zlo w, zlo t with
    | some (_, b, tt), some (a, _, _), some _ => if zcsA r ≤ 8 ∧ 1 ≤ dep then some ((match t with
      | (.inl (_, _, _, (s + 1))) => (.inr (.inl (s, a, b, tt)))
      | _ => (.inl (0, 1, 0, 0))) :: r, 0, 0) else none
    | _, _, _ => none)
  | _ => none
def zcll (cs : List zCt) (dep : Nat) (i : Instr) (k y n c : Nat) (S : List zTy) : Option (List zTy × Nat × Nat) := match i with
  | .invokestatic _ => if k = 10 ∨ k = 12 ∨ k = 13 then none else if y = 112 then (if n = 3 then zcin dep S else none) else zcg cs dep y n S
  | .invokevirtual _ => if k = 11 then none else if zcv c (S.take (n + 1)).reverse = true then zcg cs dep y (n + 1) S else none
  | .invokeinterface _ _ => if zcv c (S.take (n + 1)).reverse = true then zcg cs dep y (n + 1) S else none
  | _ => none
/-- Math.min, max -/
def zmmA (i : Instr) (k nx : Nat) (A S : List zTy) : Option (List (Nat × List zTy × List zTy)) := match i, S with
  | .invokestatic _, u :: t :: r => if (k = 12 ∨ k = 13) ∧ (zlo t).isSome = true ∧ (zlo u).isSome = true ∧ zcsA r ≤ 8 then some [(nx, A, zIA :: r)] else none
  | _, _ => none
def zrtc (i : Instr) (k : Nat) (S : List zTy) (rt : Option zTy) : Bool := match i, S, rt with
  | .ireturn, [t], some T => (match zlo t with
    | some (a, b, _) => (k == 0 || (k == 1 && decide (0 ≤ a) && decide (b ≤ 1))) && zsub (zfl t) T && zfree T
    | none => false)
  | .lreturn, [(.inr (.inr (.inr 1)))], some (.inr (.inr (.inr 1))) => true
  | .dreturn, [(.inr (.inr (.inr 2)))], some (.inr (.inr (.inr 2))) => true
  | .dreturn, [(.inr (.inr (.inr 2)))], some (.inr (.inr (.inr 4))) => true
  | .dreturn, [(.inr (.inr (.inr 4)))], some (.inr (.inr (.inr 4))) => true
  | .return_, [], none => true
  | _, _, _ => false
def zce (y : Nat) (cs : List zCt) (cert : List zCe) (dep : Nat) (rt : Option zTy) (e : zCe) : Bool := match zat (zmc y) e.1 with
  | none => false
  | some (i, nx, k, yy, n, c) => zrtc i k e.2.2.2.2 rt || (match zab i nx k yy e.1 e.2.2.2.1 e.2.2.2.2 with
    | some l => l.all (zed cert i e.2.2.2.1 e.2.1 e.2.2.1)
    | none => match zmmA i k nx e.2.2.2.1 e.2.2.2.2 with
      | some l => l.all (zed cert i e.2.2.2.1 e.2.1 e.2.2.1)
      | none => match zcll cs dep i k yy n c e.2.2.2.2 with
        | some (S', dc, ds) => decide (dc ≤ e.2.2.1.1) && decide (ds ≤ e.2.2.1.2) && zed cert i e.2.2.2.1 e.2.1 (e.2.2.1.1 - dc, e.2.2.1.2 - ds) (nx, e.2.2.2.1, S')
        | none => false)
section ZCH
variable {xs : List Int32} {g : zG} {lg : Nat} {h : zH} {L : zL} {A S : List zTy} {st : List Value} {cs : List zCt} {D y m nc ns k n c nx pc : Nat} {i : Instr} {S' : List zTy} {dc ds : Nat}
theorem zMs_mono {D D' y : Nat} {as : List Value} {P : zO → Prop} (hD : D ≤ D') (k : zMs xs D y as h nc ns P) : zMs xs D' y as h nc ns P := by
  obtain ⟨L0, e, o, N, p, q⟩ := k
  exact ⟨L0, e, o, N, p, fun d n hd hn => q d n (by omega) hn⟩
theorem zMs_post {D y : Nat} {as : List Value} {P P' : zO → Prop} (w : ∀ o, P o → P' o) (k : zMs xs D y as h nc ns P) : zMs xs D y as h nc ns P' := by
  obtain ⟨L0, e, o, N, p, q⟩ := k
  exact ⟨L0, e, o, N, w o p, q⟩
/-- what a call is known to leave -/
def zPc (g : zG) (lg : Nat) (h : zH) (L : zL) (nc ns : Nat) (S' : List zTy) (r : List Value) (dc ds : Nat) : zO → Prop := fun o => ∃ v h' lg' nc' ns', o = (.inl v, h', nc', ns') ∧ zgs g lg' h' L S' (v.toList ++ r) ∧ zHI g lg' h' ∧ zLE h h' ∧ lg ≤ lg' ∧ nc' + 2 * lg ≤ nc + 2 * lg' + dc ∧ ns' + 100 * lg ≤ ns + 100 * lg' + ds
theorem zcg_ok (hcs : ∀ ct ∈ cs, zGd xs ct) (e : zcg cs (D + 1) y m S = some (S', dc, ds)) (hI : zHI g lg h) (hS : zgs g lg h L S st) : m ≤ st.length ∧ zcs (st.drop m) ≤ 8 ∧ zMs xs D y (st.take m).reverse h nc ns (zPc g lg h L nc ns S' (st.drop m) dc ds) := by
  unfold zcg at e
  split at e
  · next w =>
    split at e
    · next ct q =>
      cases e
      have hm := List.mem_of_find?_eq_some q
      have hp := List.find?_some q
      unfold zcp at hp
      simp only [Bool.and_eq_true, beq_iff_eq, decide_eq_true_eq] at hp
      obtain ⟨⟨⟨rfl, p2⟩, p3⟩, p4⟩ := hp
      have hl := zgs_len hS
      have hd := zgs_drop (n := m) hS
      have ha := zgs_rev (zgs_take (n := m) hS)
      refine ⟨by omega, Nat.le_trans (zcsA_ok hd) w.2, zMs_mono (by omega) (zMs_post (fun o ho => ?_) (hcs ct hm g lg h nc ns _ hI (zsbs_s p2 (zgs_fl ha))))⟩
      obtain ⟨v, h', lg', nc', ns', rfl, b1, b2, b3, b4, b5, b6⟩ := ho
      refine ⟨v, h', lg', nc', ns', rfl, zgs_app (zrtT_ok ha b1 (fun T hT => ?_)) (zgs_mo b4 b3 hd), b2, b3, b4, b5, b6⟩
      rw [hT] at p4
      induction T using zTc <;> first | exact Or.inl p4 | exact Or.inr ⟨_, _, _, _, rfl⟩
    · cases e
  · cases e
theorem zcv_ok {as : List zTy} {vs : List Value} (e : zcv c as = true) (hI : zHI g lg h) (k : zgs g lg h L as vs) : ∃ a as' ws, vs = .ref a :: as' ∧ h[a]? = some (c, ws) := by
  unfold zcv at e
  split at e
  · next p q r =>
    simp only [Bool.and_eq_true, beq_iff_eq] at e
    obtain ⟨⟨rfl, rfl⟩, rfl⟩ := e
    match vs, k with
    | v :: s, k =>
      obtain ⟨⟨a, rfl, k1, k2⟩, -⟩ := k
      replace k1 : 44 ≤ a := k1
      replace k2 : a ≤ 44 := k2
      obtain rfl : a = 44 := Nat.le_antisymm k2 k1
      obtain ⟨ws, w, -⟩ := hI.obj
      exact ⟨44, s, ws, rfl, w⟩
    | [], k => exact k.elim
  · next j r =>
    rw [Bool.and_eq_true, beq_iff_eq, decide_eq_true_eq] at e
    obtain ⟨rfl, hj⟩ := e
    match vs, k with
    | v :: s, k =>
      obtain rfl := (show v = _ from k.1)
      have key : ∀ {r n : Nat} {Q : List Int32 → Prop} {dq : Option Nat}, zLi h r n Q dq → ∃ ws, h[r]? = some (10, ws) := by
        intro r n Q dq z
        obtain ⟨es, z, -⟩ := z
        obtain ⟨a, b, z⟩ := zLs_size z
        exact ⟨_, z⟩
      obtain ⟨E, kk⟩ := hI.lists
      obtain ⟨ws, w⟩ := key (kk j (Nat.lt_of_lt_of_le hj hI.sizes.2.2.2.2.2.1)).2.1
      exact ⟨_, s, ws, rfl, w⟩
    | [], k => exact k.elim
  · cases e
theorem zmmA_ok {l : List (Nat × List zTy × List zTy)} (e : zmmA i k nx A S = some l) (hI : zHI g lg h) (hA : zgl g lg h A L) (hS : zgs g lg h L S st) : zOk g lg h i L l (zstep zcf xs pc i nx k y n c L st h) := by
  unfold zmmA at e
  split at e
  · next j u t r =>
    split at e
    · next q =>
      cases e
      match st, hS with
      | z :: x :: s, hS =>
        obtain ⟨⟨a, b, c9⟩, e1⟩ := Option.isSome_iff_exists.mp q.2.1
        obtain ⟨⟨a2, b2, c2⟩, e2⟩ := Option.isSome_iff_exists.mp q.2.2.1
        obtain ⟨x, rfl, -⟩ := zlo_ok e1 hS.2.1
        obtain ⟨z, rfl, -⟩ := zlo_ok e2 hS.1
        have hz : zcs s ≤ 8 := Nat.le_trans (zcsA_ok hS.2.2) q.2.2.2
        rcases q.1 with rfl | rfl
        · exact zOk_s hI hA (by intro _ _ e; cases e) (st' := .int (if x < z then z else x) :: s) (show (if zcs s ≤ 8 then zgo nx L (.int (if x < z then z else x) :: s) h else none) = _ from if_pos hz) ⟨zIA_ok _, hS.2.2⟩
        · exact zOk_s hI hA (by intro _ _ e; cases e) (st' := .int (if z < x then z else x) :: s) (show (if zcs s ≤ 8 then zgo nx L (.int (if z < x then z else x) :: s) h else none) = _ from if_pos hz) ⟨zIA_ok _, hS.2.2⟩
      | [], hS => exact hS.elim
      | [_], hS => exact hS.2.elim
    · cases e
  · cases e
theorem zlk_mem {pc : Nat} {x : List zRk × (Nat × Nat) × List zTy × List zTy} : ∀ {l : List zCe}, zlkc l pc = some x → (pc, x) ∈ l
  | [], e => by cases e
  | (q, x') :: r, e => by
    unfold zlkc at e
    split at e
    · next q =>
      subst q
      cases e
      exact List.mem_cons_self
    · exact List.mem_cons_of_mem _ (zlk_mem e)
/-- a method -/
def zokM (ct : zCt) (cs : List zCt) (cert : List zCe) : Bool := (match zlkc cert 0 with
    | some (_, bu, A, S) => decide (bu.1 ≤ ct.dc) && decide (bu.2 ≤ ct.ds) && S.isEmpty && ct.as.all zis1 && ct.as.all zfree && decide (ct.as.length ≤ zmL ct.y) && zsbs (ct.as ++ List.replicate (zmL ct.y - ct.as.length) (.inr (.inr (.inr 0)))) A
    | none => false) && decide (1 ≤ ct.dep) && cert.all (zce ct.y cs cert ct.dep ct.rt)
theorem zex_1 : ∀ {as : List zTy} {vs : List Value}, as.all zis1 = true → zgs g lg h L as vs → zex vs = vs.map some
  | [], [], _, _ => rfl
  | t :: r, v :: s, f, k => by
    rw [List.all_cons, Bool.and_eq_true] at f
    have e := zis1_ok f.1 k.1
    show (if zcat v then some v :: none :: zex s else some v :: zex s) = some v :: s.map some
    rw [e, zex_1 f.2 k.2]
    rfl
  | [], _ :: _, _, k => k.elim
  | _ :: _, [], _, k => k.elim
theorem zgl_in : ∀ {as : List zTy} {vs : List Value} {n : Nat}, zgs g lg h [] as vs → zgl g lg h (as ++ List.replicate n (.inr (.inr (.inr 0)))) (vs.map some ++ List.replicate n none)
  | [], [], 0, _ => trivial
  | [], [], n + 1, k => ⟨Or.inl rfl, zgl_in (as := []) (vs := []) (n := n) k⟩
  | _ :: _, _ :: _, _, k => ⟨Or.inr ⟨_, rfl, k.1⟩, zgl_in k.2⟩
  | [], _ :: _, _, k => k.elim
  | _ :: _, [], _, k => k.elim
end ZCH
/-! A stretch of a method, up to a place. -/
abbrev zNo : zTy := (.inl (1, 0, 0, 0))
theorem zno {g : zG} {lg : Nat} {h : zH} {L : zL} {v : Option Value} (k : zgo2 g lg h L (some zNo) v) : False := by
  obtain ⟨w, -, x, -, a, b, -⟩ := k
  omega
