section ZPF
variable {xs : List Int32} {N D y : Nat} {as : List Value} {h : zH} {nc ns : Nat} {P : zO → Prop}
/-- what a whole call is known to come to, holds of its every run -/
theorem zpM_of (g : zMs xs D y as h nc ns P) : zpM xs N y as h nc ns P := by
  intro L0 e n hn d o eo
  obtain ⟨L1, e1, o1, N1, p, q⟩ := g
  rw [e] at e1
  cases e1
  have a1 := zev_up n d y 0 L0 [] h nc ns o eo (n + N1) (d + D) (by omega) (by omega)
  have a2 := q (d + D) (n + N1) (by omega) (by omega)
  rw [a1] at a2
  cases a2
  exact p
end ZPF
/-! The class's code, word for word. -/
section ZPC
variable {xs : List Int32} {N : Nat} {s : Nat → Int32} {a : Nat → List Int32} {T : zH} {nc ns : Nat}
theorem p_25 (k q r0 : Nat) {j : Int32} (hr : (zx s a T)[r0]? = some (2, [.ref q])) (hq : (zx s a T)[q]? = some (zar (a k))) (hL : zaL a) : zpM xs N 25 [.ref r0, .int j] (zx s a T) nc ns (fun o => o = (.inl (some (.int (zgt (a k) j))), zx s a T, nc, ns)) :=
  zpM_of (m_25 (xs := xs) (D := 0) (nc := nc) (ns := ns) (i := j) hr hq (hL k))
theorem zF_e1 {x y : Int32} (q : zcq .eq x y) : x = y := q
theorem zF_e0 {x y : Int32} (q : zcn9 .eq x y) : ¬ x = y := q
theorem zF_n1 {x y : Int32} (q : zcq .ne x y) : ¬ x = y := q
theorem zF_n0 {x y : Int32} (q : zcn9 .ne x y) : x = y := q
/-- one bit of a word -/
def zbt (w : Int32) (k : Nat) : Bool := decide ((w >>> (Int32.ofNat k &&& 31)) &&& Int32.ofInt 1 = Int32.ofInt 1)
/-- the syndrome of the first bits -/
def zsyn (c : Nat → Int32) (w : Int32) : Nat → Int32
  | 0 => Int32.ofInt 0
  | k + 1 => if zbt w k then zsyn c w k ^^^ c k else zsyn c w k
abbrev zco (a : Nat → List Int32) : Nat → Int32 := fun k => zgt (a 0) (Int32.ofNat k)
abbrev zwi (s : Nat → Int32) : Nat := (s 2).toInt.toNat
theorem znl31 (x : Int32) : x.toInt.toNat < 2147483648 := by
  have := Int32.toInt_lt x
  omega
theorem l_8 (hL : zaL a) {w : Int32} : ∀ (N k : Nat), k ≤ zwi s → zpE xs N 8 4 [some (.ref 1), some (.int w), some (.int (zsyn (zco a) w k)), some (.int (Int32.ofNat k))] [] (zx s a T) nc ns (fun o => o = (.inl (some (.int (zsyn (zco a) w (zwi s)))), zx s a T, nc, ns))
  | 0, _, _ => zpE_0
  | N + 1, k, hk => by
    have hw := znl31 (s 2)
    have hz : zwi s = (s 2).toInt.toNat := rfl
    refine zpE_run1 2 rfl ?_
    refine zpE_icmp rfl (fun q => ?_) (fun q => ?_)
    · have z := zF_ge_t q
      rw [zofI (by omega)] at z
      obtain rfl : k = zwi s := by omega
      exact zpE_run 1 rfl (zpE_end rfl rfl rfl)
    · have z := zF_ge_f q
      rw [zofI (by omega)] at z
      have K := l_8 hL (w := w) N (k + 1) (by omega)
      rw [← zof1] at K
      have ez : zsyn (zco a) w (k + 1) = if zbt w k then zsyn (zco a) w k ^^^ zco a k else zsyn (zco a) w k := rfl
      refine zpE_run 6 rfl ?_
      refine zpE_icmp rfl (fun q9 => ?_) (fun q9 => ?_)
      · rw [ez, if_neg (by
          rw [zbt, decide_eq_true_eq]
          exact q9)] at K
        exact zpE_run 2 rfl K
      · rw [ez, if_pos (by
          rw [zbt, decide_eq_true_eq]
          exact q9)] at K
        refine zpE_run 4 rfl ?_
        refine zpE_call rfl rfl (p_25 0 3 2 rfl rfl hL) (fun v h1 nc1 ns1 q8 => ?_) (fun E h1 nc1 ns1 q8 => by cases q8)
        cases q8
        exact zpE_run 4 rfl K
theorem p_8 (hL : zaL a) {w : Int32} : zpM xs N 8 [.ref 1, .int w] (zx s a T) nc ns (fun o => o = (.inl (some (.int (zsyn (zco a) w (zwi s)))), zx s a T, nc, ns)) := by
  intro L0 e
  cases e
  exact zpE_run 4 rfl (l_8 hL N 0 (Nat.zero_le _))
abbrev ztu (s : Nat → Int32) (a : Nat → List Int32) (w : Int32) : Int32 := zgt (a 1) (zsyn (zco a) w (zwi s))
theorem p_9 (hL : zaL a) {w : Int32} : zpM xs N 9 [.ref 1, .int w] (zx s a T) nc ns (fun o => o = (.inl (some (.int (ztu s a w))), zx s a T, nc, ns)) := by
  intro L0 e
  cases e
  refine zpE_run 4 rfl ?_
  refine zpE_call rfl rfl (p_8 hL) (fun v h1 nc1 ns1 q8 => ?_) (fun E h1 nc1 ns1 q8 => by cases q8)
  cases q8
  refine zpE_call rfl rfl (p_25 1 5 4 rfl rfl hL) (fun v h1 nc1 ns1 q8 => ?_) (fun E h1 nc1 ns1 q8 => by cases q8)
  cases q8
  exact zpE_end rfl rfl rfl
theorem p_10 (hL : zaL a) {w : Int32} : zpM xs N 10 [.ref 1, .int w] (zx s a T) nc ns (fun o => o = (.inl (some (.int (if zsyn (zco a) w (zwi s) = 0 then 1 else 0))), zx s a T, nc, ns)) := by
  intro L0 e
  cases e
  refine zpE_run 2 rfl ?_
  refine zpE_call rfl rfl (p_8 hL) (fun v h1 nc1 ns1 q8 => ?_) (fun E h1 nc1 ns1 q8 => by cases q8)
  cases q8
  refine zpE_if rfl (fun q => ?_) (fun q => ?_)
  · rw [if_neg (zF_n1 q)]
    exact zpE_run 1 rfl (zpE_end rfl rfl rfl)
  · rw [if_pos (zF_n0 q)]
    exact zpE_run 2 rfl (zpE_end rfl rfl rfl)
/-- 0 clean, 1 mended, 2 bad, by the bit that is turned -/
def zvd (t : Int32) : Int32 := if t = 0 then 0 else if t = Int32.ofInt (-1) then 2 else 1
theorem p_11 (hL : zaL a) {w : Int32} : zpM xs N 11 [.ref 1, .int w] (zx s a T) nc ns (fun o => o = (.inl (some (.int (zvd (ztu s a w)))), zx s a T, nc, ns)) := by
  intro L0 e
  cases e
  refine zpE_run 2 rfl ?_
  refine zpE_call rfl rfl (p_9 hL) (fun v h1 nc1 ns1 q8 => ?_) (fun E h1 nc1 ns1 q8 => by cases q8)
  cases q8
  refine zpE_run 2 rfl ?_
  unfold zvd
  refine zpE_if rfl (fun q => ?_) (fun q => ?_)
  · rw [if_neg (zF_n1 q)]
    refine zpE_run 2 rfl ?_
    refine zpE_icmp rfl (fun q9 => ?_) (fun q9 => ?_)
    · rw [if_neg (zF_n1 q9)]
      exact zpE_run 1 rfl (zpE_end rfl rfl rfl)
    · rw [if_pos (zF_n0 q9)]
      exact zpE_run 2 rfl (zpE_end rfl rfl rfl)
  · rw [if_pos (zF_n0 q)]
    exact zpE_run 1 rfl (zpE_end rfl rfl rfl)
/-- the bit of a turn -/
def zbo (t : Int32) : Int32 := if t = 0 then Int32.ofInt (-1) else if t = Int32.ofInt (-1) then Int32.ofInt (-1) else zbc (t - Int32.ofInt 1)
theorem p_12 {h : zH} {t : Int32} : zpM xs N 12 [.int t] h nc ns (fun o => o = (.inl (some (.int (zbo t))), h, nc, ns)) := by
  intro L0 e
  cases e
  refine zpE_run 1 rfl ?_
  unfold zbo
  refine zpE_if rfl (fun q => ?_) (fun q => ?_)
  · rw [if_pos (zF_e1 q)]
    exact zpE_run 2 rfl (zpE_end rfl rfl rfl)
  · rw [if_neg (zF_e0 q)]
    refine zpE_run 2 rfl ?_
    refine zpE_icmp rfl (fun q9 => ?_) (fun q9 => ?_)
    · rw [if_neg (zF_n1 q9)]
      refine zpE_run 3 rfl ?_
      refine zpE_call rfl rfl (zpM_of (t_229 (D := 0))) (fun v h1 nc1 ns1 q8 => ?_) (fun E h1 nc1 ns1 q8 => by cases q8)
      cases q8
      exact zpE_end rfl rfl rfl
    · rw [if_pos (zF_n0 q9)]
      exact zpE_run 2 rfl (zpE_end rfl rfl rfl)
abbrev zdma (s : Nat → Int32) : Int32 := Int32.ofInt 1 <<< (s 0 &&& 31) - Int32.ofInt 1
theorem p_6 : zpM xs N 6 [.ref 1] (zx s a T) nc ns (fun o => o = (.inl (some (.int (zdma s))), zx s a T, nc, ns)) := by
  intro L0 e
  cases e
  exact zpE_run 6 rfl (zpE_end rfl rfl rfl)
def zda (s : Nat → Int32) (a : Nat → List Int32) (w : Int32) : Int32 := if ztu s a w = Int32.ofInt (-1) then Int32.ofInt (-1) else (w ^^^ ztu s a w) &&& zdma s
theorem p_13 (hL : zaL a) {w : Int32} : zpM xs N 13 [.ref 1, .int w] (zx s a T) nc ns (fun o => o = (.inl (some (.int (zda s a w))), zx s a T, nc, ns)) := by
  intro L0 e
  cases e
  refine zpE_run 2 rfl ?_
  refine zpE_call rfl rfl (p_9 hL) (fun v h1 nc1 ns1 q8 => ?_) (fun E h1 nc1 ns1 q8 => by cases q8)
  cases q8
  refine zpE_run 3 rfl ?_
  unfold zda
  refine zpE_icmp rfl (fun q9 => ?_) (fun q9 => ?_)
  · rw [if_neg (zF_n1 q9)]
    refine zpE_run 4 rfl ?_
    refine zpE_call rfl rfl p_6 (fun v h1 nc1 ns1 q8 => ?_) (fun E h1 nc1 ns1 q8 => by cases q8)
    cases q8
    exact zpE_run 1 rfl (zpE_end rfl rfl rfl)
  · rw [if_pos (zF_n0 q9)]
    exact zpE_run 2 rfl (zpE_end rfl rfl rfl)
theorem p_14 (hL : zaL a) {w : Int32} : zpM xs N 14 [.ref 1, .int w] (zx s a T) nc ns (fun o => o = (.inl (some (.int (w ||| zsyn (zco a) w (zwi s) <<< (s 0 &&& 31)))), zx s a T, nc, ns)) := by
  intro L0 e
  cases e
  refine zpE_run 3 rfl ?_
  refine zpE_call rfl rfl (p_8 hL) (fun v h1 nc1 ns1 q8 => ?_) (fun E h1 nc1 ns1 q8 => by cases q8)
  cases q8
  exact zpE_run 4 rfl (zpE_end rfl rfl rfl)
theorem p_7 {x : Int32} : zpM xs N 7 [.ref 1, .int x] (zx s a T) nc ns (fun o => o = (.inl (some (.int (if 0 ≤ x.toInt ∧ x.toInt < (s 2).toInt then 1 else 0))), zx s a T, nc, ns)) := by
  have z0 : (0 : Int32).toInt = 0 := by decide
  intro L0 e
  cases e
  refine zpE_run 1 rfl ?_
  refine zpE_if rfl (fun q => ?_) (fun q => ?_)
  · have z := zF_lt_t q
    rw [if_neg (by omega)]
    exact zpE_run 1 rfl (zpE_end rfl rfl rfl)
  · have z := zF_lt_f q
    refine zpE_run 3 rfl ?_
    refine zpE_icmp rfl (fun q9 => ?_) (fun q9 => ?_)
    · have z9 := zF_ge_t q9
      rw [if_neg (fun k => absurd k.2 (Int.not_lt.mpr z9))]
      exact zpE_run 1 rfl (zpE_end rfl rfl rfl)
    · have z9 := zF_ge_f q9
      rw [if_pos ⟨by omega, z9⟩]
      exact zpE_run 2 rfl (zpE_end rfl rfl rfl)
end ZPC
