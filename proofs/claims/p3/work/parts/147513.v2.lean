section ZPR
variable {xs : List Int32} {N : Nat} {s : Nat → Int32} {a : Nat → List Int32} {T : zH} {nc ns : Nat} {P : zO → Prop}
def zdcd (s : Nat → Int32) (a : Nat → List Int32) (x y : Int32) : Int32 := if y = 0 then zsyn (zco a) x (zwi s) else if y = 1 then zvd (ztu s a x) else if y = 2 then zbo (ztu s a x) else zda s a x
abbrev zwc (s : Nat → Int32) : Int32 := Int32.ofInt 1 <<< (s 2 &&& 31)
theorem zpE_tabd {y pc nx k yy m c : Nat} {d lo hi : Int} {offs : Array Int} {L : zL} {h : zH} {x : Int32} {r : List Value} {t : Nat} (h1 : zat (zmc y) pc = some (.tableswitch d lo hi offs, nx, k, yy, m, c)) (hx : x.toInt < lo ∨ hi < x.toInt) (ht : (pc : Int) + d = .ofNat t) (g : zpE xs N y t L r h nc ns P) : zpE xs N y pc L (.int x :: r) h nc ns P := by
  refine zpE_step (dc := 0) (ds := 0) h1 ?_ g
  show ztab pc d lo hi offs L (.int x :: r) h = _
  unfold ztab
  dsimp only
  rw [if_pos hx]
  unfold zoff
  rw [ht]
  rfl
theorem p_68 (hL : zaL a) {x y : Int32} : zpM xs N 68 [.ref 0, .int x, .int y] (zx s a T) nc ns (fun o => ((0 ≤ x.toInt ∧ x.toInt < (zwc s).toInt) ∧ (0 ≤ y.toInt ∧ y.toInt ≤ 3) ∧ o = (.inl (some (.int (zdcd s a x y))), zx s a T, nc, ns)) ∨ (¬ ((0 ≤ x.toInt ∧ x.toInt < (zwc s).toInt) ∧ (0 ≤ y.toInt ∧ y.toInt ≤ 3)) ∧ o = (.inr 0, zx s a T, nc + 1, ns + 6))) := by
  have z0 : (0 : Int32).toInt = 0 := by decide
  intro L0 e
  cases e
  refine zpE_run 1 rfl ?_
  refine zpE_if rfl (fun q => ?_) (fun q => ?_)
  · have z := zF_lt_t q
    exact zpE_end rfl rfl (Or.inr ⟨fun k => by omega, rfl⟩)
  · have z := zF_lt_f q
    refine zpE_run 3 rfl ?_
    refine zpE_call rfl rfl p_5 (fun v h1 nc1 ns1 q8 => ?_) (fun E h1 nc1 ns1 q8 => by cases q8)
    cases q8
    refine zpE_icmp rfl (fun q9 => ?_) (fun q9 => ?_)
    · have z9 := zF_lt_t q9
      have hx : 0 ≤ x.toInt ∧ x.toInt < (zwc s).toInt := ⟨by omega, z9⟩
      refine zpE_run 1 rfl ?_
      by_cases hy : y.toInt < 0 ∨ 3 < y.toInt
      · refine zpE_tabd (t := 95) rfl hy rfl ?_
        exact zpE_end rfl rfl (Or.inr ⟨fun k => by omega, rfl⟩)
      · have hy2 : 0 ≤ y.toInt ∧ y.toInt ≤ 3 := by omega
        have e0 : (0 : Int32).toInt = 0 := by decide
        have e1 : (1 : Int32).toInt = 1 := by decide
        have e2 : (2 : Int32).toInt = 2 := by decide
        have e3 : (3 : Int32).toInt = 3 := by decide
        rcases (show y.toInt = 0 ∨ y.toInt = 1 ∨ y.toInt = 2 ∨ y.toInt = 3 by omega) with k | k | k | k
        · obtain rfl : y = 0 := Int32.toInt_inj.mp (by omega)
          refine zpE_run 4 rfl ?_
          refine zpE_call rfl rfl (p_8 hL) (fun v h1 nc1 ns1 q8 => ?_) (fun E h1 nc1 ns1 q8 => by cases q8)
          cases q8
          exact zpE_end rfl rfl (Or.inl ⟨hx, hy2, rfl⟩)
        · obtain rfl : y = 1 := Int32.toInt_inj.mp (by omega)
          refine zpE_run 4 rfl ?_
          refine zpE_call rfl rfl (p_11 hL) (fun v h1 nc1 ns1 q8 => ?_) (fun E h1 nc1 ns1 q8 => by cases q8)
          cases q8
          exact zpE_end rfl rfl (Or.inl ⟨hx, hy2, rfl⟩)
        · obtain rfl : y = 2 := Int32.toInt_inj.mp (by omega)
          refine zpE_run 4 rfl ?_
          refine zpE_call rfl rfl (p_9 hL) (fun v h1 nc1 ns1 q8 => ?_) (fun E h1 nc1 ns1 q8 => by cases q8)
          cases q8
          refine zpE_call rfl rfl p_12 (fun v h1 nc1 ns1 q8 => ?_) (fun E h1 nc1 ns1 q8 => by cases q8)
          cases q8
          exact zpE_end rfl rfl (Or.inl ⟨hx, hy2, rfl⟩)
        · obtain rfl : y = 3 := Int32.toInt_inj.mp (by omega)
          refine zpE_run 4 rfl ?_
          refine zpE_call rfl rfl (p_13 hL) (fun v h1 nc1 ns1 q8 => ?_) (fun E h1 nc1 ns1 q8 => by cases q8)
          cases q8
          exact zpE_end rfl rfl (Or.inl ⟨hx, hy2, rfl⟩)
    · have z9 := zF_lt_f q9
      exact zpE_end rfl rfl (Or.inr ⟨fun k => absurd k.1.2 (Int.not_lt.mpr z9), rfl⟩)
end ZPR
