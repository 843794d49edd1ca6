set_option maxRecDepth 20000
section ZRE
variable {S0 : zSt} {M : zRt} {X : zXt} {kq : Nat × Nat × List Value} {xs : List Int32} {N : Nat} {nc ns : Nat}
def q173 (x1 : Int32) (M : zRt) : Nat → Nat → Int32 → UInt64
  | 0, k, wa => (FP.ddiv (FP.i2d wa) (UInt64.ofNat 4634204016564240384))
  | m + 1, k, wa => if (zkd M.2.2.2 (v125 ((Int32.ofNat k)) M)) = ((0 : Int32)) then (if (zgt (M.2.1 24) ((Int32.ofNat k))) = ((0 : Int32)) then (q173 x1 M m (k + 1) (wa + (Int32.ofInt 1))) else (q173 x1 M m (k + 1) (wa + (Int32.ofInt 0)))) else (q173 x1 M m (k + 1) (wa + (Int32.ofInt 0)))
theorem l_r173 {x1 : Int32} (hX : zUX kq X M.2.2) : ∀ (N k m : Nat) (wa : Int32) (nc ns : Nat), k + m = (Int32.ofInt 64 * x1 + Int32.ofInt 64).toInt.toNat → zpE xs N 173 7 [some (.ref 44), some (.int x1), some (.int wa), some (.int (Int32.ofNat k))] [] (zy S0 M X) nc ns (zOq (.inl (some (.double (q173 x1 M m k wa)))) (zy S0 M X))
  | 0, _, _, _, _, _, _ => zpE_0
  | N + 1, k, m0, wa, nc, ns, hk => by
    refine zpE_run1 5 (L' := [some (.ref 44), some (.int x1), some (.int wa), some (.int (Int32.ofNat k))]) (st' := [.int (((Int32.ofInt 64) * x1) + (Int32.ofInt 64)), .int (Int32.ofNat k)]) rfl ?_
    refine zpE_icmp rfl (fun q15 => ?_) (fun q15 => ?_)
    · have z15_0 := Int.not_lt.mpr (zF_ge_t q15)
      refine zpE_run 3 (L' := [some (.ref 44), some (.int x1), some (.int wa), some (.int (Int32.ofNat k))]) (st' := [.double (UInt64.ofNat 4634204016564240384), .double (FP.i2d wa)]) rfl ?_
      refine zpE_ddiv rfl ?_
      exact zpE_end rfl rfl (by rw [zlp_o2 z15_0 hk]; exact zOq_d (by first | rfl | done))
    · have z15_0 := zF_ge_f q15
      obtain ⟨m, rfl⟩ := zlp_i2 z15_0 hk
      have eQ : q173 x1 M (m + 1) k wa = if (zkd M.2.2.2 (v125 ((Int32.ofNat k)) M)) = ((0 : Int32)) then (if (zgt (M.2.1 24) ((Int32.ofNat k))) = ((0 : Int32)) then (q173 x1 M m (k + 1) (wa + (Int32.ofInt 1))) else (q173 x1 M m (k + 1) (wa + (Int32.ofInt 0)))) else (q173 x1 M m (k + 1) (wa + (Int32.ofInt 0))) := rfl
      refine zpE_run 4 (L' := [some (.ref 44), some (.int x1), some (.int wa), some (.int (Int32.ofNat k))]) (st' := [.int (Int32.ofNat k), .ref 44, .ref 44, .int wa]) rfl ?_
      refine zpE_call rfl rfl (f_125 (M := M) (x1 := Int32.ofNat k) hX) (fun v h1 nc1 ns1 q8 => ?_) (fun E h1 nc1 ns1 q8 => by cases q8.1)
      obtain ⟨q8, q9⟩ := q8
      cases q8
      cases q9
      refine zpE_call rfl rfl (r_121 (zy_mc (M := M) hX)) (fun v h1 nc1 ns1 q8 => ?_) (fun E h1 nc1 ns1 q8 => by cases q8)
      cases q8
      refine zpE_if rfl (fun q28 => ?_) (fun q28 => ?_)
      · have z28_1 := zF_n1 q28
        refine zpE_run 5 (L' := [some (.ref 44), some (.int x1), some (.int (wa + (Int32.ofInt 0))), some (.int ((Int32.ofNat k) + Int32.ofInt 1))]) (st' := []) rfl ?_
        have K := fun nc ns => l_r173 (x1 := x1) hX N (k + 1) m (wa + (Int32.ofInt 0)) nc ns (by omega)
        rw [← zof1] at K
        rw [eQ, if_neg z28_1]
        exact K _ _
      · have z28_1 := zF_n0 q28
        refine zpE_run 3 (L' := [some (.ref 44), some (.int x1), some (.int wa), some (.int (Int32.ofNat k))]) (st' := [.int (Int32.ofNat k), .ref 71, .int wa]) rfl ?_
        refine zpE_bly rfl (zy_g71 (M := M)) (fun _ _ => ?_)
        refine zpE_gen (fun nc ns => ?_)
        refine zpE_if rfl (fun q37 => ?_) (fun q37 => ?_)
        · have z37_2 := zF_n1 q37
          refine zpE_run 5 (L' := [some (.ref 44), some (.int x1), some (.int (wa + (Int32.ofInt 0))), some (.int ((Int32.ofNat k) + Int32.ofInt 1))]) (st' := []) rfl ?_
          have K := fun nc ns => l_r173 (x1 := x1) hX N (k + 1) m (wa + (Int32.ofInt 0)) nc ns (by omega)
          rw [← zof1] at K
          rw [eQ, if_pos z28_1, if_neg z37_2]
          exact K _ _
        · have z37_2 := zF_n0 q37
          refine zpE_run 6 (L' := [some (.ref 44), some (.int x1), some (.int (wa + (Int32.ofInt 1))), some (.int ((Int32.ofNat k) + Int32.ofInt 1))]) (st' := []) rfl ?_
          have K := fun nc ns => l_r173 (x1 := x1) hX N (k + 1) m (wa + (Int32.ofInt 1)) nc ns (by omega)
          rw [← zof1] at K
          rw [eQ, if_pos z28_1, if_pos z37_2]
          exact K _ _
def v173 (x1 : Int32) (M : zRt) : UInt64 := q173 x1 M 64 (Int32.ofInt 64 * x1).toInt.toNat (Int32.ofInt 0)
theorem f_173 {x1 : Int32} {M' : zRt} (hb : ¬ v112 x1 (Int32.ofInt 0) (Int32.ofInt 1) M' = 0) (hX : zUX kq X M.2.2) : zpM xs N 173 [.ref 44, .int x1] (zy S0 M X) nc ns (zOq (.inl (some (.double (v173 x1 M)))) (zy S0 M X)) := by
  have z : (Int32.ofInt 0).toInt ≤ x1.toInt ∧ x1.toInt ≤ (Int32.ofInt 1).toInt := Classical.byContradiction (fun q => hb (v112_1.mpr q))
  rw [show (Int32.ofInt 0).toInt = 0 by decide, show (Int32.ofInt 1).toInt = 1 by decide] at z
  obtain ⟨a, rfl, ha⟩ := znat z.1
  have e : Int32.ofInt 64 * Int32.ofNat a = Int32.ofNat (64 * a) := by
    rw [show Int32.ofInt 64 = Int32.ofNat 64 from rfl, ← Int32.ofNat_mul]
  have e2 : (Int32.ofNat (64 * a)).toInt.toNat = 64 * a := by
    rw [zof_0 (by omega)]
    omega
  have e3 : 64 * a + 64 = (Int32.ofInt 64 * Int32.ofNat a + Int32.ofInt 64).toInt.toNat := by
    rw [e, show Int32.ofInt 64 = Int32.ofNat 64 from rfl, ← Int32.ofNat_add, zof_0 (by omega)]
    omega
  intro L0 e9
  cases e9
  refine zpE_run 6 (L' := [some (.ref 44), some (.int (Int32.ofNat a)), some (.int (Int32.ofInt 0)), some (.int (Int32.ofInt 64 * Int32.ofNat a))]) (st' := []) rfl ?_
  have G := l_r173 (S0 := S0) (x1 := Int32.ofNat a) (xs := xs) hX N (64 * a) 64 (Int32.ofInt 0)
  unfold v173
  rw [e, e2]
  exact G _ _ e3
def v174 (x1 : Int32) (M : zRt) : UInt64 := if (v112 x1 (Int32.ofInt 0) (Int32.ofInt 1) (zmS M 0 (Int32.ofInt 0))) = ((0 : Int32)) then ((FP.i2d (v111 (Int32.ofInt 1) (zmS M 0 (Int32.ofInt 0))))) else ((v173 x1 (zmS M 0 (Int32.ofInt 0))))
def r174 (x1 : Int32) (M : zRt) : zRt := if (v112 x1 (Int32.ofInt 0) (Int32.ofInt 1) (zmS M 0 (Int32.ofInt 0))) = ((0 : Int32)) then ((r111 (Int32.ofInt 1) (zmS M 0 (Int32.ofInt 0)))) else (zmS M 0 (Int32.ofInt 0))
theorem f_174 {x1 : Int32} (hX : zUX kq X M.2.2) : zpM xs N 174 [.ref 44, .int x1] (zy S0 M X) nc ns (zOq (.inl (some (.double (v174 x1 M)))) (zy S0 (r174 x1 M) X)) := by
  intro L0 e
  cases e
  refine zpE_run 6 (L' := [some (.ref 44), some (.int x1)]) (st' := [.int (Int32.ofInt 1), .int (Int32.ofInt 0), .int x1]) (h' := zy S0 (zmS M 0 (Int32.ofInt 0)) X) rfl ?_
  refine zpE_call rfl rfl (f_112 (M := zmS M 0 (Int32.ofInt 0)) (x1 := x1) (x2 := Int32.ofInt 0) (x3 := Int32.ofInt 1) hX) (fun v h1 nc1 ns1 q8 => ?_) (fun E h1 nc1 ns1 q8 => by cases q8.1)
  obtain ⟨q8, q9⟩ := q8
  cases q8
  cases q9
  refine zpE_if rfl (fun q11 => ?_) (fun q11 => ?_)
  · have z11_0 := zF_n1 q11
    refine zpE_run 2 (L' := [some (.ref 44), some (.int x1)]) (st' := [.int x1, .ref 44]) rfl ?_
    refine zpE_call rfl rfl (f_173 (M := zmS M 0 (Int32.ofInt 0)) (x1 := x1) (by assumption) hX) (fun v h1 nc1 ns1 q8 => ?_) (fun E h1 nc1 ns1 q8 => by cases q8.1)
    obtain ⟨q8, q9⟩ := q8
    cases q8
    cases q9
    exact zpE_end rfl rfl (zOr_d (M' := zmS M 0 (Int32.ofInt 0)) (by unfold v174; rw [if_neg z11_0]) (by unfold r174; rw [if_neg z11_0]))
  · have z11_0 := zF_n0 q11
    refine zpE_run 2 (L' := [some (.ref 44), some (.int x1)]) (st' := [.int (Int32.ofInt 1), .ref 44]) rfl ?_
    refine zpE_call rfl rfl (f_111 (M := zmS M 0 (Int32.ofInt 0)) (x1 := Int32.ofInt 1) hX) (fun v h1 nc1 ns1 q8 => ?_) (fun E h1 nc1 ns1 q8 => by cases q8.1)
    obtain ⟨q8, q9⟩ := q8
    cases q8
    cases q9
    obtain ⟨Z1, hZ1⟩ : ∃ Z, Z = r111 (Int32.ofInt 1) (zmS M 0 (Int32.ofInt 0)) := ⟨_, rfl⟩
    rw [← hZ1]
    have hY1 : zUX kq X Z1.2.2 := by
      rw [hZ1, rl_111]
      exact hX
    refine zpE_run 1 (L' := [some (.ref 44), some (.int x1)]) (st' := [.double (FP.i2d (v111 (Int32.ofInt 1) (zmS M 0 (Int32.ofInt 0))))]) rfl ?_
    exact zpE_end rfl rfl (zOr_d (M' := Z1) (by unfold v174; (try rw [← hZ1]); rw [if_pos z11_0]) (by unfold r174; (try rw [← hZ1]); rw [if_pos z11_0]))
theorem gr_174 {x1 : Int32} : zfrM [0] [] [] (r174 x1 M) M := by
  unfold r174
  exact (gm_ite (gm_c gr_111 (gm_c gm_S gm_rf (by decide) (by decide) (by decide)) (by decide) (by decide) (by decide)) (gm_c gm_S gm_rf (by decide) (by decide) (by decide)))
theorem rl_174 {x1 : Int32} : (r174 x1 M).2.2 = M.2.2 := gm_l gr_174
end ZRE
