set_option maxRecDepth 20000
section ZRE
variable {S0 : zSt} {M : zRt} {X : zXt} {kq : Nat × Nat × List Value} {xs : List Int32} {N : Nat} {nc ns : Nat}
def v113 (x1 : Int32) (x2 : Int32) (M : zRt) : Int32 := if ((x1 >>> (x2 &&& 31)) &&& (Int32.ofInt 1)) = (Int32.ofInt 1) then ((Int32.ofInt 1)) else ((Int32.ofInt 0))
theorem f_113 {x1 x2 : Int32} (hX : zUX kq X M.2.2) : zpM xs N 113 [.int x1, .int x2] (zy S0 M X) nc ns (zOq (.inl (some (.int (v113 x1 x2 M)))) (zy S0 M X)) := by
  intro L0 e
  cases e
  refine zpE_run 6 (L' := [some (.int x1), some (.int x2)]) (st' := [.int (Int32.ofInt 1), .int ((x1 >>> (x2 &&& 31)) &&& (Int32.ofInt 1))]) rfl ?_
  refine zpE_icmp rfl (fun q6 => ?_) (fun q6 => ?_)
  · have z6_0 := zF_n1 q6
    refine zpE_run 1 (L' := [some (.int x1), some (.int x2)]) (st' := [.int (Int32.ofInt 0)]) rfl ?_
    exact zpE_end rfl rfl (zOq_v (by unfold v113; rw [if_neg z6_0]))
  · have z6_0 := zF_n0 q6
    refine zpE_run 2 (L' := [some (.int x1), some (.int x2)]) (st' := [.int (Int32.ofInt 1)]) rfl ?_
    exact zpE_end rfl rfl (zOq_v (by unfold v113; rw [if_pos z6_0]))
def q181 (x1 : Int32) (M : zRt) : Nat → Nat → Int32
  | 0, k => (Int32.ofInt 0)
  | m + 1, k => if (zgt ((M.2.2.1 0).getD (Int32.toNatClampNeg ((Int32.ofNat k))) []) (Int32.ofInt 0)) = (zgt ((M.2.2.1 1).getD (Int32.toNatClampNeg x1) []) (Int32.ofInt 0)) then (if (zgt ((M.2.2.1 0).getD (Int32.toNatClampNeg ((Int32.ofNat k))) []) (Int32.ofInt 1)) = (zgt ((M.2.2.1 1).getD (Int32.toNatClampNeg x1) []) (Int32.ofInt 1)) then (if (zgt ((M.2.2.1 0).getD (Int32.toNatClampNeg ((Int32.ofNat k))) []) (Int32.ofInt 2)) = (zgt ((M.2.2.1 1).getD (Int32.toNatClampNeg x1) []) (Int32.ofInt 2)) then ((Int32.ofInt 1)) else (q181 x1 M m (k + 1))) else (q181 x1 M m (k + 1))) else (q181 x1 M m (k + 1))
theorem l_r181 {x1 : Int32} (hX : zUX kq X M.2.2) (n0 : ¬ x1 < 0 ∧ (Int32.toNatClampNeg x1) < (M.2.2.1 1).length) : ∀ (N k m : Nat) (nc ns : Nat), k + m = (Int32.ofNat (M.2.2.1 0).length).toInt.toNat → zpE xs N 181 2 [some (.ref 44), some (.ref (zel X 1 x1)), some (.int (Int32.ofNat k))] [] (zy S0 M X) nc ns (zOq (.inl (some (.int (q181 x1 M m k)))) (zy S0 M X))
  | 0, _, _, _, _, _ => zpE_0
  | N + 1, k, m0, nc, ns, hk => by
    refine zpE_run1 2 (L' := [some (.ref 44), some (.ref (zel X 1 x1)), some (.int (Int32.ofNat k))]) (st' := [.ref (X.1 0), .int (Int32.ofNat k)]) rfl ?_
    obtain ⟨vs1, lc1⟩ := zUX_lc (S0 := S0) (M := M) (i := 0) (by decide) hX
    refine zpE_call rfl (show zcallV 0 10 243 12 (.ref (X.1 0) :: _) (zy S0 M X) = _ from zcallV_eq rfl lc1 (Nat.le_of_ble_eq_true rfl)) (zul_243 (i := 0) (by decide) hX) (fun v h1 nc1 ns1 q8 => ?_) (fun E h1 nc1 ns1 q8 => by cases q8)
    cases q8
    refine zpE_icmp rfl (fun q12 => ?_) (fun q12 => ?_)
    · have z12_0 := Int.not_lt.mpr (zF_ge_t q12)
      refine zpE_run 1 (L' := [some (.ref 44), some (.ref (zel X 1 x1)), some (.int (Int32.ofNat k))]) (st' := [.int (Int32.ofInt 0)]) rfl ?_
      exact zpE_end rfl rfl (by rw [zlp_o2 z12_0 hk]; exact zOq_v (by first | rfl | done))
    · have z12_0 := zF_ge_f q12
      obtain ⟨m, rfl⟩ := zlp_i2 z12_0 hk
      have eQ : q181 x1 M (m + 1) k = if (zgt ((M.2.2.1 0).getD (Int32.toNatClampNeg ((Int32.ofNat k))) []) (Int32.ofInt 0)) = (zgt ((M.2.2.1 1).getD (Int32.toNatClampNeg x1) []) (Int32.ofInt 0)) then (if (zgt ((M.2.2.1 0).getD (Int32.toNatClampNeg ((Int32.ofNat k))) []) (Int32.ofInt 1)) = (zgt ((M.2.2.1 1).getD (Int32.toNatClampNeg x1) []) (Int32.ofInt 1)) then (if (zgt ((M.2.2.1 0).getD (Int32.toNatClampNeg ((Int32.ofNat k))) []) (Int32.ofInt 2)) = (zgt ((M.2.2.1 1).getD (Int32.toNatClampNeg x1) []) (Int32.ofInt 2)) then ((Int32.ofInt 1)) else (q181 x1 M m (k + 1))) else (q181 x1 M m (k + 1))) else (q181 x1 M m (k + 1)) := rfl
      refine zpE_run 3 (L' := [some (.ref 44), some (.ref (zel X 1 x1)), some (.int (Int32.ofNat k))]) (st' := [.int (Int32.ofNat k), .ref (X.1 0)]) rfl ?_
      have n2 : ¬ (Int32.ofNat k) < 0 ∧ (Int32.toNatClampNeg (Int32.ofNat k)) < (M.2.2.1 0).length := zlp_rg2 (i := 0) (by decide) hX z12_0 hk
      obtain ⟨vs3, lc3⟩ := zUX_lc (S0 := S0) (M := M) (i := 0) (by decide) hX
      refine zpE_call rfl (show zcallV 1 10 239 25 (.int (Int32.ofNat k) :: .ref (X.1 0) :: _) (zy S0 M X) = _ from zcallV_eq rfl lc3 (Nat.le_of_ble_eq_true rfl)) (zul_239 (i := 0) (j := Int32.ofNat k) (by decide) hX n2) (fun v h1 nc1 ns1 q8 => ?_) (fun E h1 nc1 ns1 q8 => by cases q8)
      cases q8
      refine zpE_chk rfl (zUX_e hX n2) ?_
      refine zpE_run 1 (L' := [some (.ref 44), some (.ref (zel X 1 x1)), some (.int (Int32.ofNat k))]) (st' := [.int (Int32.ofInt 0), .ref (zel X 0 (Int32.ofNat k))]) rfl ?_
      refine zpE_aly rfl (zUX_e hX n2) (fun _ _ => ?_)
      refine zpE_gen (fun nc ns => ?_)
      refine zpE_run 2 (L' := [some (.ref 44), some (.ref (zel X 1 x1)), some (.int (Int32.ofNat k))]) (st' := [.int (Int32.ofInt 0), .ref (zel X 1 x1), .int (zgt ((M.2.2.1 0).getD (Int32.toNatClampNeg (Int32.ofNat k)) []) (Int32.ofInt 0))]) rfl ?_
      refine zpE_aly rfl (zUX_e hX n0) (fun _ _ => ?_)
      refine zpE_gen (fun nc ns => ?_)
      refine zpE_icmp rfl (fun q33 => ?_) (fun q33 => ?_)
      · have z33_1 := zF_n1 q33
        refine zpE_run 2 (L' := [some (.ref 44), some (.ref (zel X 1 x1)), some (.int ((Int32.ofNat k) + Int32.ofInt 1))]) (st' := []) rfl ?_
        have K := fun nc ns => l_r181 (x1 := x1) hX n0 N (k + 1) m nc ns (by omega)
        rw [← zof1] at K
        rw [eQ, if_neg z33_1]
        exact K _ _
      · have z33_1 := zF_n0 q33
        refine zpE_run 3 (L' := [some (.ref 44), some (.ref (zel X 1 x1)), some (.int (Int32.ofNat k))]) (st' := [.int (Int32.ofNat k), .ref (X.1 0)]) rfl ?_
        have n4 : ¬ (Int32.ofNat k) < 0 ∧ (Int32.toNatClampNeg (Int32.ofNat k)) < (M.2.2.1 0).length := zlp_rg2 (i := 0) (by decide) hX z12_0 hk
        obtain ⟨vs5, lc5⟩ := zUX_lc (S0 := S0) (M := M) (i := 0) (by decide) hX
        refine zpE_call rfl (show zcallV 1 10 239 46 (.int (Int32.ofNat k) :: .ref (X.1 0) :: _) (zy S0 M X) = _ from zcallV_eq rfl lc5 (Nat.le_of_ble_eq_true rfl)) (zul_239 (i := 0) (j := Int32.ofNat k) (by decide) hX n4) (fun v h1 nc1 ns1 q8 => ?_) (fun E h1 nc1 ns1 q8 => by cases q8)
        cases q8
        refine zpE_chk rfl (zUX_e hX n4) ?_
        refine zpE_run 1 (L' := [some (.ref 44), some (.ref (zel X 1 x1)), some (.int (Int32.ofNat k))]) (st' := [.int (Int32.ofInt 1), .ref (zel X 0 (Int32.ofNat k))]) rfl ?_
        refine zpE_aly rfl (zUX_e hX n4) (fun _ _ => ?_)
        refine zpE_gen (fun nc ns => ?_)
        refine zpE_run 2 (L' := [some (.ref 44), some (.ref (zel X 1 x1)), some (.int (Int32.ofNat k))]) (st' := [.int (Int32.ofInt 1), .ref (zel X 1 x1), .int (zgt ((M.2.2.1 0).getD (Int32.toNatClampNeg (Int32.ofNat k)) []) (Int32.ofInt 1))]) rfl ?_
        refine zpE_aly rfl (zUX_e hX n0) (fun _ _ => ?_)
        refine zpE_gen (fun nc ns => ?_)
        refine zpE_icmp rfl (fun q54 => ?_) (fun q54 => ?_)
        · have z54_2 := zF_n1 q54
          refine zpE_run 2 (L' := [some (.ref 44), some (.ref (zel X 1 x1)), some (.int ((Int32.ofNat k) + Int32.ofInt 1))]) (st' := []) rfl ?_
          have K := fun nc ns => l_r181 (x1 := x1) hX n0 N (k + 1) m nc ns (by omega)
          rw [← zof1] at K
          rw [eQ, if_pos z33_1, if_neg z54_2]
          exact K _ _
        · have z54_2 := zF_n0 q54
          refine zpE_run 3 (L' := [some (.ref 44), some (.ref (zel X 1 x1)), some (.int (Int32.ofNat k))]) (st' := [.int (Int32.ofNat k), .ref (X.1 0)]) rfl ?_
          have n6 : ¬ (Int32.ofNat k) < 0 ∧ (Int32.toNatClampNeg (Int32.ofNat k)) < (M.2.2.1 0).length := zlp_rg2 (i := 0) (by decide) hX z12_0 hk
          obtain ⟨vs7, lc7⟩ := zUX_lc (S0 := S0) (M := M) (i := 0) (by decide) hX
          refine zpE_call rfl (show zcallV 1 10 239 67 (.int (Int32.ofNat k) :: .ref (X.1 0) :: _) (zy S0 M X) = _ from zcallV_eq rfl lc7 (Nat.le_of_ble_eq_true rfl)) (zul_239 (i := 0) (j := Int32.ofNat k) (by decide) hX n6) (fun v h1 nc1 ns1 q8 => ?_) (fun E h1 nc1 ns1 q8 => by cases q8)
          cases q8
          refine zpE_chk rfl (zUX_e hX n6) ?_
          refine zpE_run 1 (L' := [some (.ref 44), some (.ref (zel X 1 x1)), some (.int (Int32.ofNat k))]) (st' := [.int (Int32.ofInt 2), .ref (zel X 0 (Int32.ofNat k))]) rfl ?_
          refine zpE_aly rfl (zUX_e hX n6) (fun _ _ => ?_)
          refine zpE_gen (fun nc ns => ?_)
          refine zpE_run 2 (L' := [some (.ref 44), some (.ref (zel X 1 x1)), some (.int (Int32.ofNat k))]) (st' := [.int (Int32.ofInt 2), .ref (zel X 1 x1), .int (zgt ((M.2.2.1 0).getD (Int32.toNatClampNeg (Int32.ofNat k)) []) (Int32.ofInt 2))]) rfl ?_
          refine zpE_aly rfl (zUX_e hX n0) (fun _ _ => ?_)
          refine zpE_gen (fun nc ns => ?_)
          refine zpE_icmp rfl (fun q75 => ?_) (fun q75 => ?_)
          · have z75_3 := zF_n1 q75
            refine zpE_run 2 (L' := [some (.ref 44), some (.ref (zel X 1 x1)), some (.int ((Int32.ofNat k) + Int32.ofInt 1))]) (st' := []) rfl ?_
            have K := fun nc ns => l_r181 (x1 := x1) hX n0 N (k + 1) m nc ns (by omega)
            rw [← zof1] at K
            rw [eQ, if_pos z33_1, if_pos z54_2, if_neg z75_3]
            exact K _ _
          · have z75_3 := zF_n0 q75
            refine zpE_run 1 (L' := [some (.ref 44), some (.ref (zel X 1 x1)), some (.int (Int32.ofNat k))]) (st' := [.int (Int32.ofInt 1)]) rfl ?_
            exact zpE_end rfl rfl (zOq_v (by rw [eQ, if_pos z33_1, if_pos z54_2, if_pos z75_3]))
def v181 (x1 : Int32) (M : zRt) : Int32 := q181 x1 M (Int32.ofNat (M.2.2.1 0).length).toInt.toNat 0
theorem f_181 {x1 : Int32} (hX : zUX kq X M.2.2) (n0 : ¬ x1 < 0 ∧ (Int32.toNatClampNeg x1) < (M.2.2.1 1).length) : zpM xs N 181 [.ref 44, .ref (zel X 1 x1)] (zy S0 M X) nc ns (zOq (.inl (some (.int (v181 x1 M)))) (zy S0 M X)) := by
  intro L0 e
  cases e
  refine zpE_run 2 (L' := [some (.ref 44), some (.ref (zel X 1 x1)), some (.int (Int32.ofNat 0))]) (st' := []) rfl ?_
  exact l_r181 (x1 := x1) hX n0 N 0 _ _ _ (Nat.zero_add _)
def v184 (x1 x2 : Int32) (M : zRt) : Int32 := if (zgt ((M.2.2.1 1).getD (Int32.toNatClampNeg x1) []) (Int32.ofInt 0)) = (zgt ((M.2.2.1 1).getD (Int32.toNatClampNeg x2) []) (Int32.ofInt 0)) then (if (zgt ((M.2.2.1 1).getD (Int32.toNatClampNeg x1) []) (Int32.ofInt 1)) = (zgt ((M.2.2.1 1).getD (Int32.toNatClampNeg x2) []) (Int32.ofInt 1)) then (if (zgt ((M.2.2.1 1).getD (Int32.toNatClampNeg x1) []) (Int32.ofInt 2)) = (zgt ((M.2.2.1 1).getD (Int32.toNatClampNeg x2) []) (Int32.ofInt 2)) then ((Int32.ofInt 1)) else ((Int32.ofInt 0))) else ((Int32.ofInt 0))) else ((Int32.ofInt 0))
theorem f_184 {x1 x2 : Int32} (hX : zUX kq X M.2.2) (n0 : ¬ x1 < 0 ∧ (Int32.toNatClampNeg x1) < (M.2.2.1 1).length) (n9 : ¬ x2 < 0 ∧ (Int32.toNatClampNeg x2) < (M.2.2.1 1).length) : zpM xs N 184 [.ref (zel X 1 x1), .ref (zel X 1 x2)] (zy S0 M X) nc ns (zOq (.inl (some (.int (v184 x1 x2 M)))) (zy S0 M X)) := by
  intro L0 e
  cases e
  refine zpE_run 2 (L' := [some (.ref (zel X 1 x1)), some (.ref (zel X 1 x2))]) (st' := [.int (Int32.ofInt 0), .ref (zel X 1 x1)]) rfl ?_
  refine zpE_aly rfl (zUX_e hX n0) (fun _ _ => ?_)
  refine zpE_gen (fun nc ns => ?_)
  refine zpE_run 2 (L' := [some (.ref (zel X 1 x1)), some (.ref (zel X 1 x2))]) (st' := [.int (Int32.ofInt 0), .ref (zel X 1 x2), .int (zgt ((M.2.2.1 1).getD (Int32.toNatClampNeg x1) []) (Int32.ofInt 0))]) rfl ?_
  refine zpE_aly rfl (zUX_e hX n9) (fun _ _ => ?_)
  refine zpE_gen (fun nc ns => ?_)
  refine zpE_icmp rfl (fun q6 => ?_) (fun q6 => ?_)
  · have z6_0 := zF_n1 q6
    refine zpE_run 1 (L' := [some (.ref (zel X 1 x1)), some (.ref (zel X 1 x2))]) (st' := [.int (Int32.ofInt 0)]) rfl ?_
    exact zpE_end rfl rfl (zOq_v (by unfold v184; rw [if_neg z6_0]))
  · have z6_0 := zF_n0 q6
    refine zpE_run 2 (L' := [some (.ref (zel X 1 x1)), some (.ref (zel X 1 x2))]) (st' := [.int (Int32.ofInt 1), .ref (zel X 1 x1)]) rfl ?_
    refine zpE_aly rfl (zUX_e hX n0) (fun _ _ => ?_)
    refine zpE_gen (fun nc ns => ?_)
    refine zpE_run 2 (L' := [some (.ref (zel X 1 x1)), some (.ref (zel X 1 x2))]) (st' := [.int (Int32.ofInt 1), .ref (zel X 1 x2), .int (zgt ((M.2.2.1 1).getD (Int32.toNatClampNeg x1) []) (Int32.ofInt 1))]) rfl ?_
    refine zpE_aly rfl (zUX_e hX n9) (fun _ _ => ?_)
    refine zpE_gen (fun nc ns => ?_)
    refine zpE_icmp rfl (fun q15 => ?_) (fun q15 => ?_)
    · have z15_1 := zF_n1 q15
      refine zpE_run 1 (L' := [some (.ref (zel X 1 x1)), some (.ref (zel X 1 x2))]) (st' := [.int (Int32.ofInt 0)]) rfl ?_
      exact zpE_end rfl rfl (zOq_v (by unfold v184; rw [if_pos z6_0, if_neg z15_1]))
    · have z15_1 := zF_n0 q15
      refine zpE_run 2 (L' := [some (.ref (zel X 1 x1)), some (.ref (zel X 1 x2))]) (st' := [.int (Int32.ofInt 2), .ref (zel X 1 x1)]) rfl ?_
      refine zpE_aly rfl (zUX_e hX n0) (fun _ _ => ?_)
      refine zpE_gen (fun nc ns => ?_)
      refine zpE_run 2 (L' := [some (.ref (zel X 1 x1)), some (.ref (zel X 1 x2))]) (st' := [.int (Int32.ofInt 2), .ref (zel X 1 x2), .int (zgt ((M.2.2.1 1).getD (Int32.toNatClampNeg x1) []) (Int32.ofInt 2))]) rfl ?_
      refine zpE_aly rfl (zUX_e hX n9) (fun _ _ => ?_)
      refine zpE_gen (fun nc ns => ?_)
      refine zpE_icmp rfl (fun q24 => ?_) (fun q24 => ?_)
      · have z24_2 := zF_n1 q24
        refine zpE_run 1 (L' := [some (.ref (zel X 1 x1)), some (.ref (zel X 1 x2))]) (st' := [.int (Int32.ofInt 0)]) rfl ?_
        exact zpE_end rfl rfl (zOq_v (by unfold v184; rw [if_pos z6_0, if_pos z15_1, if_neg z24_2]))
      · have z24_2 := zF_n0 q24
        refine zpE_run 2 (L' := [some (.ref (zel X 1 x1)), some (.ref (zel X 1 x2))]) (st' := [.int (Int32.ofInt 1)]) rfl ?_
        exact zpE_end rfl rfl (zOq_v (by unfold v184; rw [if_pos z6_0, if_pos z15_1, if_pos z24_2]))
def q182 (x1 x2 : Int32) (M : zRt) : Nat → Nat → Int32 → Int32
  | 0, _, _ => (Int32.ofInt 0)
  | m + 1, k, u => if (((Int32.ofNat k)) - u).toInt < (zgt ((M.2.2.1 1).getD (Int32.toNatClampNeg x1) []) (Int32.ofInt 3)).toInt then (if (zrmd ((Int32.ofNat k)) (M.1 5)) = ((0 : Int32)) then (q182 x1 x2 M m (k + 1) ((Int32.ofNat k))) else (q182 x1 x2 M m (k + 1) u)) else ((Int32.ofInt 1))
theorem l_r182 {x1 x2 : Int32} (hX : zUX kq X M.2.2) (n0 : ¬ x1 < 0 ∧ (Int32.toNatClampNeg x1) < (M.2.2.1 1).length) (hb : 0 ≤ (M.1 4 + x2).toInt ∧ (M.1 4 + x2).toInt < 100000) : ∀ (N k m : Nat) (u : Int32) (nc ns : Nat), k + m = (M.1 4 + x2).toInt.toNat + 1 → zpE xs N 182 48 [some (.ref 44), some (.ref (zel X 1 x1)), some (.int x2), some (.int u), some (.int (Int32.ofNat k))] [] (zy S0 M X) nc ns (zOq (.inl (some (.int (q182 x1 x2 M m k u)))) (zy S0 M X))
  | 0, _, _, _, _, _, _ => zpE_0
  | N + 1, k, m0, u, nc, ns, hk => by
    refine zpE_run1 4 (L' := [some (.ref 44), some (.ref (zel X 1 x1)), some (.int x2), some (.int u), some (.int (Int32.ofNat k))]) (st' := [.int ((M.1 4) + x2), .int (Int32.ofNat k)]) rfl ?_
    refine zpE_icmp rfl (fun q56 => ?_) (fun q56 => ?_)
    · have z56_0 := zF_gt_t q56
      refine zpE_run 1 (L' := [some (.ref 44), some (.ref (zel X 1 x1)), some (.int x2), some (.int u), some (.int (Int32.ofNat k))]) (st' := [.int (Int32.ofInt 0)]) rfl ?_
      exact zpE_end rfl rfl (by rw [zlp_o3 z56_0 hb hk]; exact zOq_v (by first | rfl | done))
    · have z56_0 := Int.not_lt.mpr (zF_gt_f q56)
      obtain ⟨m, rfl⟩ := zlp_i3 z56_0 hb hk
      have eQ : q182 x1 x2 M (m + 1) k u = if (((Int32.ofNat k)) - u).toInt < (zgt ((M.2.2.1 1).getD (Int32.toNatClampNeg x1) []) (Int32.ofInt 3)).toInt then (if (zrmd ((Int32.ofNat k)) (M.1 5)) = ((0 : Int32)) then (q182 x1 x2 M m (k + 1) ((Int32.ofNat k))) else (q182 x1 x2 M m (k + 1) u)) else ((Int32.ofInt 1)) := rfl
      refine zpE_run 5 (L' := [some (.ref 44), some (.ref (zel X 1 x1)), some (.int x2), some (.int u), some (.int (Int32.ofNat k))]) (st' := [.int (Int32.ofInt 3), .ref (zel X 1 x1), .int ((Int32.ofNat k) - u)]) rfl ?_
      refine zpE_aly rfl (zUX_e hX n0) (fun _ _ => ?_)
      refine zpE_gen (fun nc ns => ?_)
      refine zpE_icmp rfl (fun q66 => ?_) (fun q66 => ?_)
      · have z66_1 := zF_lt_t q66
        refine zpE_run 3 (L' := [some (.ref 44), some (.ref (zel X 1 x1)), some (.int x2), some (.int u), some (.int (Int32.ofNat k))]) (st' := [.int (M.1 5), .int (Int32.ofNat k)]) rfl ?_
        refine zpE_irem rfl (fun _ => ?_)
        refine zpE_if rfl (fun q78 => ?_) (fun q78 => ?_)
        · have z78_2 := zF_n1 q78
          refine zpE_run 2 (L' := [some (.ref 44), some (.ref (zel X 1 x1)), some (.int x2), some (.int u), some (.int ((Int32.ofNat k) + Int32.ofInt 1))]) (st' := []) rfl ?_
          have K := fun nc ns => l_r182 hX n0 hb N (k + 1) m u nc ns (by omega)
          rw [← zof1] at K
          rw [eQ, if_pos z66_1, if_neg z78_2]
          exact K _ _
        · have z78_2 := zF_n0 q78
          refine zpE_run 4 (L' := [some (.ref 44), some (.ref (zel X 1 x1)), some (.int x2), some (.int (Int32.ofNat k)), some (.int ((Int32.ofNat k) + Int32.ofInt 1))]) (st' := []) rfl ?_
          have K := fun nc ns => l_r182 hX n0 hb N (k + 1) m (Int32.ofNat k) nc ns (by omega)
          rw [← zof1] at K
          rw [eQ, if_pos z66_1, if_pos z78_2]
          exact K _ _
      · have z66_1 := Int.not_lt.mpr (zF_lt_f q66)
        refine zpE_run 1 (L' := [some (.ref 44), some (.ref (zel X 1 x1)), some (.int x2), some (.int u), some (.int (Int32.ofNat k))]) (st' := [.int (Int32.ofInt 1)]) rfl ?_
        exact zpE_end rfl rfl (zOq_v (by rw [eQ, if_neg z66_1]))
def v182 (x1 x2 : Int32) (M : zRt) : Int32 := if (v113 (zgt (M.2.1 (Int32.toNatClampNeg (zgt ((M.2.2.1 1).getD (Int32.toNatClampNeg x1) []) (Int32.ofInt 0)))) (zgt ((M.2.2.1 1).getD (Int32.toNatClampNeg x1) []) (Int32.ofInt 1))) (zgt ((M.2.2.1 1).getD (Int32.toNatClampNeg x1) []) (Int32.ofInt 2)) M) = ((0 : Int32)) then ((Int32.ofInt 0)) else (if (v181 x1 M) = ((0 : Int32)) then (q182 x1 x2 M x2.toInt.toNat ((M.1 4).toInt.toNat + 1) (zgt (M.2.1 21) (zgt ((M.2.2.1 1).getD (Int32.toNatClampNeg x1) []) (Int32.ofInt 0)))) else ((Int32.ofInt 0)))
theorem f_182 {x1 x2 : Int32} (hX : zUX kq X M.2.2) (n0 : ¬ x1 < 0 ∧ (Int32.toNatClampNeg x1) < (M.2.2.1 1).length) (hs : 0 ≤ (M.1 4).toInt ∧ (M.1 4).toInt ≤ 5000) (hx : 1 ≤ x2.toInt ∧ x2.toInt ≤ 100) : zpM xs N 182 [.ref 44, .ref (zel X 1 x1), .int x2] (zy S0 M X) nc ns (zOq (.inl (some (.int (v182 x1 x2 M)))) (zy S0 M X)) := by
  have e1 : M.1 4 + Int32.ofInt 1 = Int32.ofNat ((M.1 4).toInt.toNat + 1) := by
    obtain ⟨t, ht, ht2⟩ := znat hs.1
    rw [ht, zof1, zof_0 (by omega), Int.toNat_natCast]
  have e2 : (M.1 4 + x2).toInt = (M.1 4).toInt + x2.toInt := by
    rw [Int32.toInt_add, Int.bmod_eq_of_le (by omega) (by omega)]
  intro L0 e
  cases e
  refine zpE_run 4 (L' := [some (.ref 44), some (.ref (zel X 1 x1)), some (.int x2), none, none]) (st' := [.int (Int32.ofInt 0), .ref (zel X 1 x1), .ref 46]) rfl ?_
  refine zpE_aly rfl (zUX_e hX n0) (fun _ _ => ?_)
  refine zpE_gen (fun nc ns => ?_)
  refine zpE_aaw rfl rfl (fun n1a n1 => ?_)
  replace n1 := And.intro n1a n1
  refine zpE_run 2 (L' := [some (.ref 44), some (.ref (zel X 1 x1)), some (.int x2), none, none]) (st' := [.int (Int32.ofInt 1), .ref (zel X 1 x1), .ref (47 + Int32.toNatClampNeg (zgt ((M.2.2.1 1).getD (Int32.toNatClampNeg x1) []) (Int32.ofInt 0)))]) rfl ?_
  refine zpE_aly rfl (zUX_e hX n0) (fun _ _ => ?_)
  refine zpE_gen (fun nc ns => ?_)
  refine zpE_aly rfl (zy_row n1.2) (fun _ _ => ?_)
  refine zpE_gen (fun nc ns => ?_)
  refine zpE_run 2 (L' := [some (.ref 44), some (.ref (zel X 1 x1)), some (.int x2), none, none]) (st' := [.int (Int32.ofInt 2), .ref (zel X 1 x1), .int (zgt (M.2.1 (Int32.toNatClampNeg (zgt ((M.2.2.1 1).getD (Int32.toNatClampNeg x1) []) (Int32.ofInt 0)))) (zgt ((M.2.2.1 1).getD (Int32.toNatClampNeg x1) []) (Int32.ofInt 1)))]) rfl ?_
  refine zpE_aly rfl (zUX_e hX n0) (fun _ _ => ?_)
  refine zpE_gen (fun nc ns => ?_)
  refine zpE_call rfl rfl (f_113 (M := M) (x1 := zgt (M.2.1 (Int32.toNatClampNeg (zgt ((M.2.2.1 1).getD (Int32.toNatClampNeg x1) []) (Int32.ofInt 0)))) (zgt ((M.2.2.1 1).getD (Int32.toNatClampNeg x1) []) (Int32.ofInt 1))) (x2 := zgt ((M.2.2.1 1).getD (Int32.toNatClampNeg x1) []) (Int32.ofInt 2)) hX) (fun v h1 nc1 ns1 q8 => ?_) (fun E h1 nc1 ns1 q8 => by cases q8.1)
  obtain ⟨q8, q9⟩ := q8
  cases q8
  cases q9
  refine zpE_if rfl (fun q18 => ?_) (fun q18 => ?_)
  · have z18_0 := zF_e1 q18
    refine zpE_run 1 (L' := [some (.ref 44), some (.ref (zel X 1 x1)), some (.int x2), none, none]) (st' := [.int (Int32.ofInt 0)]) rfl ?_
    exact zpE_end rfl rfl (zOq_v (by unfold v182; rw [if_pos z18_0]))
  · have z18_0 := zF_e0 q18
    refine zpE_run 2 (L' := [some (.ref 44), some (.ref (zel X 1 x1)), some (.int x2), none, none]) (st' := [.ref (zel X 1 x1), .ref 44]) rfl ?_
    refine zpE_call rfl rfl (f_181 (M := M) (x1 := x1) hX n0) (fun v h1 nc1 ns1 q8 => ?_) (fun E h1 nc1 ns1 q8 => by cases q8.1)
    obtain ⟨q8, q9⟩ := q8
    cases q8
    cases q9
    refine zpE_if rfl (fun q26 => ?_) (fun q26 => ?_)
    · have z26_1 := zF_e1 q26
      refine zpE_run 4 (L' := [some (.ref 44), some (.ref (zel X 1 x1)), some (.int x2), none, none]) (st' := [.int (Int32.ofInt 0), .ref (zel X 1 x1), .ref 68]) rfl ?_
      refine zpE_aly rfl (zUX_e hX n0) (fun _ _ => ?_)
      refine zpE_gen (fun nc ns => ?_)
      refine zpE_aly rfl (zy_g68 (M := M)) (fun _ _ => ?_)
      refine zpE_gen (fun nc ns => ?_)
      refine zpE_run 6 (L' := [some (.ref 44), some (.ref (zel X 1 x1)), some (.int x2), some (.int (zgt (M.2.1 21) (zgt ((M.2.2.1 1).getD (Int32.toNatClampNeg x1) []) (Int32.ofInt 0)))), some (.int ((M.1 4) + (Int32.ofInt 1)))]) (st' := []) rfl ?_
      rw [show v182 x1 x2 M = q182 x1 x2 M x2.toInt.toNat ((M.1 4).toInt.toNat + 1) (zgt (M.2.1 21) (zgt ((M.2.2.1 1).getD (Int32.toNatClampNeg x1) []) (Int32.ofInt 0))) from by
        unfold v182
        rw [if_neg z18_0, if_pos z26_1]]
      rw [e1]
      exact l_r182 hX n0 (by omega) N _ _ _ _ _ (by rw [e2]; omega)
    · have z26_1 := zF_e0 q26
      refine zpE_run 1 (L' := [some (.ref 44), some (.ref (zel X 1 x1)), some (.int x2), none, none]) (st' := [.int (Int32.ofInt 0)]) rfl ?_
      exact zpE_end rfl rfl (zOq_v (by unfold v182; rw [if_neg z18_0, if_neg z26_1]))
def p183 (x1 : Int32) (a : Nat) (M : zRt) : Nat → Nat → Int32 → Int32
  | 0, _, u => u
  | m + 1, k, u => if u = ((0 : Int32)) then u else (if (v184 ((Int32.ofNat k)) (Int32.ofNat a) M) = ((0 : Int32)) then (p183 x1 a M m (k + 1) (Int32.ofInt 1)) else (if (v182 ((Int32.ofNat k)) x1 M) = ((0 : Int32)) then (p183 x1 a M m (k + 1) (Int32.ofInt 1)) else (p183 x1 a M m (k + 1) (Int32.ofInt 0))))
theorem zin_b {n k a m : Nat} (hR : ¬ Int32.ofNat a < 0 ∧ (Int32.ofNat a).toNatClampNeg < n) (h : (Int32.ofNat k).toInt < (Int32.ofNat a).toInt) (hk : k + m = (Int32.ofNat a).toInt.toNat) : ¬ Int32.ofNat k < 0 ∧ (Int32.ofNat k).toNatClampNeg < n := by
  have h2 := hR.2
  have e : (Int32.ofNat a).toNatClampNeg = (Int32.ofNat a).toInt.toNat := rfl
  rw [e] at h2
  have l := Int32.toInt_lt (Int32.ofNat a)
  rw [zcl_of (by omega)]
  refine ⟨fun z => ?_, by omega⟩
  have z9 := Int32.lt_iff_toInt_lt.mp z
  rw [zof_0 (by omega), show (0 : Int32).toInt = 0 by decide] at z9
  omega
theorem l_183i {x1 w : Int32} {a N0 : Nat} {P : zO → Prop} (hX : zUX kq X M.2.2) (hs : 0 ≤ (M.1 4).toInt ∧ (M.1 4).toInt ≤ 5000) (hx : 1 ≤ x1.toInt ∧ x1.toInt ≤ 100) (hR : ¬ Int32.ofNat a < 0 ∧ (Int32.ofNat a).toNatClampNeg < (M.2.2.1 1).length) : ∀ (N k m : Nat) (u : Int32) (nc ns : Nat), N ≤ N0 → k + m = (Int32.ofNat a).toInt.toNat → (∀ (o5 : Option Value) (nc ns : Nat), zpE xs N0 183 119 [some (.ref 44), some (.int x1), some (.int w), some (.int (Int32.ofNat a)), some (.int (p183 x1 a M m k u)), o5] [] (zy S0 M X) nc ns P) → zpE xs N 183 40 [some (.ref 44), some (.int x1), some (.int w), some (.int (Int32.ofNat a)), some (.int u), some (.int (Int32.ofNat k))] [] (zy S0 M X) nc ns P
  | 0, _, _, _, _, _, _, _, _ => zpE_0
  | N + 1, k, m0, u, nc, ns, hN, hk, K => by
    refine zpE_run1 1 (L' := [some (.ref 44), some (.int x1), some (.int w), some (.int (Int32.ofNat a)), some (.int u), some (.int (Int32.ofNat k))]) (st' := [.int (Int32.ofNat a), .int (Int32.ofNat k)]) rfl ?_
    refine zpE_icmp rfl (fun q43 => ?_) (fun q43 => ?_)
    · have z43_0 := Int.not_lt.mpr (zF_ge_t q43)
      rw [zlp_o2 z43_0 hk] at K
      exact zpE_le (by omega) (K _ _ _)
    · have z43_0 := zF_ge_f q43
      obtain ⟨m, rfl⟩ := zlp_i2 z43_0 hk
      have eQ : p183 x1 a M (m + 1) k u = if u = ((0 : Int32)) then u else (if (v184 ((Int32.ofNat k)) (Int32.ofNat a) M) = ((0 : Int32)) then (p183 x1 a M m (k + 1) (Int32.ofInt 1)) else (if (v182 ((Int32.ofNat k)) x1 M) = ((0 : Int32)) then (p183 x1 a M m (k + 1) (Int32.ofInt 1)) else (p183 x1 a M m (k + 1) (Int32.ofInt 0)))) := rfl
      refine zpE_run 1 (L' := [some (.ref 44), some (.int x1), some (.int w), some (.int (Int32.ofNat a)), some (.int u), some (.int (Int32.ofNat k))]) (st' := [.int u]) rfl ?_
      refine zpE_if rfl (fun q48 => ?_) (fun q48 => ?_)
      · have z48_1 := zF_e1 q48
        rw [eQ, if_pos z48_1] at K
        exact zpE_le (by omega) (K _ _ _)
      · have z48_1 := zF_e0 q48
        refine zpE_run 3 (L' := [some (.ref 44), some (.int x1), some (.int w), some (.int (Int32.ofNat a)), some (.int u), some (.int (Int32.ofNat k))]) (st' := [.int (Int32.ofNat k), .ref (X.1 1)]) rfl ?_
        have n1 : ¬ (Int32.ofNat k) < 0 ∧ (Int32.toNatClampNeg (Int32.ofNat k)) < (M.2.2.1 1).length := zin_b hR z43_0 hk
        obtain ⟨vs2, lc2⟩ := zUX_lc (S0 := S0) (M := M) (i := 1) (by decide) hX
        refine zpE_call rfl (show zcallV 1 10 239 62 (.int (Int32.ofNat k) :: .ref (X.1 1) :: _) (zy S0 M X) = _ from zcallV_eq rfl lc2 (Nat.le_of_ble_eq_true rfl)) (zul_239 (i := 1) (j := Int32.ofNat k) (by decide) hX n1) (fun v h1 nc1 ns1 q8 => ?_) (fun E h1 nc1 ns1 q8 => by cases q8)
        cases q8
        refine zpE_chk rfl (zUX_e hX n1) ?_
        refine zpE_run 3 (L' := [some (.ref 44), some (.int x1), some (.int w), some (.int (Int32.ofNat a)), some (.int u), some (.int (Int32.ofNat k))]) (st' := [.int (Int32.ofNat a), .ref (X.1 1), .ref (zel X 1 (Int32.ofNat k))]) rfl ?_
        have n3 : ¬ (Int32.ofNat a) < 0 ∧ (Int32.toNatClampNeg (Int32.ofNat a)) < (M.2.2.1 1).length := hR
        obtain ⟨vs4, lc4⟩ := zUX_lc (S0 := S0) (M := M) (i := 1) (by decide) hX
        refine zpE_call rfl (show zcallV 1 10 239 75 (.int (Int32.ofNat a) :: .ref (X.1 1) :: _) (zy S0 M X) = _ from zcallV_eq rfl lc4 (Nat.le_of_ble_eq_true rfl)) (zul_239 (i := 1) (j := Int32.ofNat a) (by decide) hX n3) (fun v h1 nc1 ns1 q8 => ?_) (fun E h1 nc1 ns1 q8 => by cases q8)
        cases q8
        refine zpE_chk rfl (zUX_e hX n3) ?_
        refine zpE_call rfl rfl (f_184 (M := M) (x1 := Int32.ofNat k) (x2 := Int32.ofNat a) hX (zin_b hR z43_0 hk) hR) (fun v h1 nc1 ns1 q8 => ?_) (fun E h1 nc1 ns1 q8 => by cases q8.1)
        obtain ⟨q8, q9⟩ := q8
        cases q8
        cases q9
        refine zpE_if rfl (fun q81 => ?_) (fun q81 => ?_)
        · have z81_2 := zF_e1 q81
          refine zpE_run 5 (L' := [some (.ref 44), some (.int x1), some (.int w), some (.int (Int32.ofNat a)), some (.int (Int32.ofInt 1)), some (.int ((Int32.ofNat k) + Int32.ofInt 1))]) (st' := []) rfl ?_
          rw [eQ, if_neg z48_1, if_pos z81_2] at K
          have K9 := fun nc ns => l_183i hX hs hx hR N (k + 1) m (Int32.ofInt 1) nc ns (by omega) (by omega) K
          rw [← zof1] at K9
          exact K9 _ _
        · have z81_2 := zF_e0 q81
          refine zpE_run 4 (L' := [some (.ref 44), some (.int x1), some (.int w), some (.int (Int32.ofNat a)), some (.int u), some (.int (Int32.ofNat k))]) (st' := [.int (Int32.ofNat k), .ref (X.1 1), .ref 44]) rfl ?_
          have n5 : ¬ (Int32.ofNat k) < 0 ∧ (Int32.toNatClampNeg (Int32.ofNat k)) < (M.2.2.1 1).length := zin_b hR z43_0 hk
          obtain ⟨vs6, lc6⟩ := zUX_lc (S0 := S0) (M := M) (i := 1) (by decide) hX
          refine zpE_call rfl (show zcallV 1 10 239 96 (.int (Int32.ofNat k) :: .ref (X.1 1) :: _) (zy S0 M X) = _ from zcallV_eq rfl lc6 (Nat.le_of_ble_eq_true rfl)) (zul_239 (i := 1) (j := Int32.ofNat k) (by decide) hX n5) (fun v h1 nc1 ns1 q8 => ?_) (fun E h1 nc1 ns1 q8 => by cases q8)
          cases q8
          refine zpE_chk rfl (zUX_e hX n5) ?_
          refine zpE_run 1 (L' := [some (.ref 44), some (.int x1), some (.int w), some (.int (Int32.ofNat a)), some (.int u), some (.int (Int32.ofNat k))]) (st' := [.int x1, .ref (zel X 1 (Int32.ofNat k)), .ref 44]) rfl ?_
          refine zpE_call rfl rfl (f_182 (M := M) (x1 := Int32.ofNat k) (x2 := x1) hX (zin_b hR z43_0 hk) hs hx) (fun v h1 nc1 ns1 q8 => ?_) (fun E h1 nc1 ns1 q8 => by cases q8.1)
          obtain ⟨q8, q9⟩ := q8
          cases q8
          cases q9
          refine zpE_if rfl (fun q103 => ?_) (fun q103 => ?_)
          · have z103_3 := zF_n1 q103
            refine zpE_run 4 (L' := [some (.ref 44), some (.int x1), some (.int w), some (.int (Int32.ofNat a)), some (.int (Int32.ofInt 0)), some (.int ((Int32.ofNat k) + Int32.ofInt 1))]) (st' := []) rfl ?_
            rw [eQ, if_neg z48_1, if_neg z81_2, if_neg z103_3] at K
            have K9 := fun nc ns => l_183i hX hs hx hR N (k + 1) m (Int32.ofInt 0) nc ns (by omega) (by omega) K
            rw [← zof1] at K9
            exact K9 _ _
          · have z103_3 := zF_n0 q103
            refine zpE_run 5 (L' := [some (.ref 44), some (.int x1), some (.int w), some (.int (Int32.ofNat a)), some (.int (Int32.ofInt 1)), some (.int ((Int32.ofNat k) + Int32.ofInt 1))]) (st' := []) rfl ?_
            rw [eQ, if_neg z48_1, if_neg z81_2, if_pos z103_3] at K
            have K9 := fun nc ns => l_183i hX hs hx hR N (k + 1) m (Int32.ofInt 1) nc ns (by omega) (by omega) K
            rw [← zof1] at K9
            exact K9 _ _
def w183 (x1 : Int32) (M : zRt) : Nat → Int32
  | 0 => Int32.ofInt 0
  | a + 1 => if p183 x1 a M a 0 (v182 (Int32.ofNat a) x1 M) = ((0 : Int32)) then w183 x1 M a + Int32.ofInt 0 else w183 x1 M a + Int32.ofInt 1
def v183 (x1 : Int32) (M : zRt) : Int32 := w183 x1 M (M.2.2.1 1).length
theorem l_183 {x1 : Int32} (hX : zUX kq X M.2.2) (hs : 0 ≤ (M.1 4).toInt ∧ (M.1 4).toInt ≤ 5000) (hx : 1 ≤ x1.toInt ∧ x1.toInt ≤ 100) : ∀ (N a : Nat) (o4 o5 : Option Value) (nc ns : Nat), a ≤ (M.2.2.1 1).length → zpE xs N 183 4 [some (.ref 44), some (.int x1), some (.int (w183 x1 M a)), some (.int (Int32.ofNat a)), o4, o5] [] (zy S0 M X) nc ns (zOq (.inl (some (.int (v183 x1 M)))) (zy S0 M X))
  | 0, _, _, _, _, _, _ => zpE_0
  | N + 1, a, o4, o5, nc, ns, hk => by
    have hl : (M.2.2.1 1).length ≤ 40 := Nat.le_trans (hX.2.1 1 (by decide)).2.1 (zlm_le 1)
    refine zpE_run1 2 (L' := [some (.ref 44), some (.int x1), some (.int (w183 x1 M a)), some (.int (Int32.ofNat a)), o4, o5]) (st' := [.ref (X.1 1), .int (Int32.ofNat a)]) rfl ?_
    obtain ⟨vs, lc⟩ := zUX_lc (S0 := S0) (M := M) (i := 1) (by decide) hX
    refine zpE_call rfl (show zcallV 0 10 243 14 (.ref (X.1 1) :: _) (zy S0 M X) = _ from zcallV_eq rfl lc (Nat.le_of_ble_eq_true rfl)) (zul_243 (i := 1) (by decide) hX) (fun v h1 nc1 ns1 q8 => ?_) (fun E h1 nc1 ns1 q8 => by cases q8)
    cases q8
    refine zpE_icmp rfl (fun q => ?_) (fun q => ?_)
    · have z := zF_ge_t q
      rw [zof_0 (by omega), zof_0 (by omega)] at z
      have e9 : a = (M.2.2.1 1).length := by omega
      refine zpE_run 1 (L' := [some (.ref 44), some (.int x1), some (.int (w183 x1 M a)), some (.int (Int32.ofNat a)), o4, o5]) (st' := [.int (w183 x1 M a)]) rfl ?_
      exact zpE_end rfl rfl (zOq_v (by rw [e9]; rfl))
    · have z := zF_ge_f q
      rw [zof_0 (by omega), zof_0 (by omega)] at z
      have hR : ¬ Int32.ofNat a < 0 ∧ (Int32.ofNat a).toNatClampNeg < (M.2.2.1 1).length := by
        rw [zcl_of (by omega)]
        refine ⟨fun z9 => ?_, by omega⟩
        have z8 := Int32.lt_iff_toInt_lt.mp z9
        rw [zof_0 (by omega), show (0 : Int32).toInt = 0 by decide] at z8
        omega
      refine zpE_run 4 (L' := [some (.ref 44), some (.int x1), some (.int ((w183 x1 M a))), some (.int (Int32.ofNat a)), o4, o5]) (st' := [.int (Int32.ofNat a), .ref (X.1 1), .ref 44]) rfl ?_
      have n1 : ¬ (Int32.ofNat a) < 0 ∧ (Int32.toNatClampNeg (Int32.ofNat a)) < (M.2.2.1 1).length := hR
      obtain ⟨vs2, lc2⟩ := zUX_lc (S0 := S0) (M := M) (i := 1) (by decide) hX
      refine zpE_call rfl (show zcallV 1 10 239 28 (.int (Int32.ofNat a) :: .ref (X.1 1) :: _) (zy S0 M X) = _ from zcallV_eq rfl lc2 (Nat.le_of_ble_eq_true rfl)) (zul_239 (i := 1) (j := Int32.ofNat a) (by decide) hX n1) (fun v h1 nc1 ns1 q8 => ?_) (fun E h1 nc1 ns1 q8 => by cases q8)
      cases q8
      refine zpE_chk rfl (zUX_e hX n1) ?_
      refine zpE_run 1 (L' := [some (.ref 44), some (.int x1), some (.int ((w183 x1 M a))), some (.int (Int32.ofNat a)), o4, o5]) (st' := [.int x1, .ref (zel X 1 (Int32.ofNat a)), .ref 44]) rfl ?_
      refine zpE_call rfl rfl (f_182 (M := M) (x1 := Int32.ofNat a) (x2 := x1) hX hR hs hx) (fun v h1 nc1 ns1 q8 => ?_) (fun E h1 nc1 ns1 q8 => by cases q8.1)
      obtain ⟨q8, q9⟩ := q8
      cases q8
      cases q9
      refine zpE_run 3 (L' := [some (.ref 44), some (.int x1), some (.int ((w183 x1 M a))), some (.int (Int32.ofNat a)), some (.int (v182 (Int32.ofNat a) x1 M)), some (.int (Int32.ofNat 0))]) (st' := []) rfl ?_
      refine l_183i (N0 := N) (w := w183 x1 M a) hX hs hx hR N 0 a _ _ _ (Nat.le_refl _) (by rw [zof_0 (by omega)]; omega) (fun o5 nc ns => ?_)
      refine zpE_run 2 (L' := [some (.ref 44), some (.int x1), some (.int ((w183 x1 M a))), some (.int (Int32.ofNat a)), some (.int (p183 x1 a M a 0 (v182 (Int32.ofNat a) x1 M))), o5]) (st' := [.int (p183 x1 a M a 0 (v182 (Int32.ofNat a) x1 M)), .int ((w183 x1 M a))]) rfl ?_
      refine zpE_if rfl (fun q122 => ?_) (fun q122 => ?_)
      · have z122_0 := zF_e1 q122
        refine zpE_run 5 (L' := [some (.ref 44), some (.int x1), some (.int (((w183 x1 M a)) + (Int32.ofInt 0))), some (.int ((Int32.ofNat a) + Int32.ofInt 1)), some (.int (p183 x1 a M a 0 (v182 (Int32.ofNat a) x1 M))), o5]) (st' := []) rfl ?_
        rw [zof1, show ((w183 x1 M a)) + (Int32.ofInt 0) = w183 x1 M (a + 1) from (if_pos z122_0).symm]
        exact l_183 hX hs hx N (a + 1) _ _ _ _ (by omega)
      · have z122_0 := zF_e0 q122
        refine zpE_run 6 (L' := [some (.ref 44), some (.int x1), some (.int (((w183 x1 M a)) + (Int32.ofInt 1))), some (.int ((Int32.ofNat a) + Int32.ofInt 1)), some (.int (p183 x1 a M a 0 (v182 (Int32.ofNat a) x1 M))), o5]) (st' := []) rfl ?_
        rw [zof1, show ((w183 x1 M a)) + (Int32.ofInt 1) = w183 x1 M (a + 1) from (if_neg z122_0).symm]
        exact l_183 hX hs hx N (a + 1) _ _ _ _ (by omega)
theorem f_183 {x1 : Int32} (hX : zUX kq X M.2.2) (hs : 0 ≤ (M.1 4).toInt ∧ (M.1 4).toInt ≤ 5000) (hx : 1 ≤ x1.toInt ∧ x1.toInt ≤ 100) : zpM xs N 183 [.ref 44, .int x1] (zy S0 M X) nc ns (zOq (.inl (some (.int (v183 x1 M)))) (zy S0 M X)) := by
  intro L0 e
  cases e
  refine zpE_run 4 (L' := [some (.ref 44), some (.int x1), some (.int (Int32.ofInt 0)), some (.int (Int32.ofNat 0)), none, none]) (st' := []) rfl ?_
  exact l_183 hX hs hx N 0 _ _ _ _ (Nat.zero_le _)
theorem v112_9 {x1 : Int32} (hb : ¬ v112 x1 (Int32.ofInt 1) (Int32.ofInt 100) M = 0) : 1 ≤ x1.toInt ∧ x1.toInt ≤ 100 := by
  have z : (Int32.ofInt 1).toInt ≤ x1.toInt ∧ x1.toInt ≤ (Int32.ofInt 100).toInt := Classical.byContradiction (fun q => hb (v112_1.mpr q))
  rw [show (Int32.ofInt 1).toInt = 1 by decide, show (Int32.ofInt 100).toInt = 100 by decide] at z
  exact z
def v185 (x1 : Int32) (M : zRt) : Int32 := if (v112 x1 (Int32.ofInt 1) (Int32.ofInt 100) (zmS M 0 (Int32.ofInt 0))) = ((0 : Int32)) then ((v111 (Int32.ofInt 1) (zmS M 0 (Int32.ofInt 0)))) else ((v183 x1 (zmS M 0 (Int32.ofInt 0))))
def r185 (x1 : Int32) (M : zRt) : zRt := if (v112 x1 (Int32.ofInt 1) (Int32.ofInt 100) (zmS M 0 (Int32.ofInt 0))) = ((0 : Int32)) then ((r111 (Int32.ofInt 1) (zmS M 0 (Int32.ofInt 0)))) else (zmS M 0 (Int32.ofInt 0))
theorem f_185 {x1 : Int32} (hX : zUX kq X M.2.2) (hs : 0 ≤ (M.1 4).toInt ∧ (M.1 4).toInt ≤ 5000) : zpM xs N 185 [.ref 44, .int x1] (zy S0 M X) nc ns (zOq (.inl (some (.int (v185 x1 M)))) (zy S0 (r185 x1 M) X)) := by
  intro L0 e
  cases e
  refine zpE_run 6 (L' := [some (.ref 44), some (.int x1)]) (st' := [.int (Int32.ofInt 100), .int (Int32.ofInt 1), .int x1]) (h' := zy S0 (zmS M 0 (Int32.ofInt 0)) X) rfl ?_
  refine zpE_call rfl rfl (f_112 (M := zmS M 0 (Int32.ofInt 0)) (x1 := x1) (x2 := Int32.ofInt 1) (x3 := Int32.ofInt 100) hX) (fun v h1 nc1 ns1 q8 => ?_) (fun E h1 nc1 ns1 q8 => by cases q8.1)
  obtain ⟨q8, q9⟩ := q8
  cases q8
  cases q9
  refine zpE_if rfl (fun q12 => ?_) (fun q12 => ?_)
  · have z12_0 := zF_n1 q12
    refine zpE_run 2 (L' := [some (.ref 44), some (.int x1)]) (st' := [.int x1, .ref 44]) rfl ?_
    refine zpE_call rfl rfl (f_183 (M := zmS M 0 (Int32.ofInt 0)) (x1 := x1) hX hs (v112_9 (by assumption))) (fun v h1 nc1 ns1 q8 => ?_) (fun E h1 nc1 ns1 q8 => by cases q8.1)
    obtain ⟨q8, q9⟩ := q8
    cases q8
    cases q9
    exact zpE_end rfl rfl (zOr_w (M' := zmS M 0 (Int32.ofInt 0)) (by unfold v185; rw [if_neg z12_0]) (by unfold r185; rw [if_neg z12_0]))
  · have z12_0 := zF_n0 q12
    refine zpE_run 2 (L' := [some (.ref 44), some (.int x1)]) (st' := [.int (Int32.ofInt 1), .ref 44]) rfl ?_
    refine zpE_call rfl rfl (f_111 (M := zmS M 0 (Int32.ofInt 0)) (x1 := Int32.ofInt 1) hX) (fun v h1 nc1 ns1 q8 => ?_) (fun E h1 nc1 ns1 q8 => by cases q8.1)
    obtain ⟨q8, q9⟩ := q8
    cases q8
    cases q9
    obtain ⟨Z1, hZ1⟩ : ∃ Z, Z = r111 (Int32.ofInt 1) (zmS M 0 (Int32.ofInt 0)) := ⟨_, rfl⟩
    rw [← hZ1]
    have hY1 : zUX kq X Z1.2.2 := by
      rw [hZ1, rl_111]
      exact hX
    exact zpE_end rfl rfl (zOr_w (M' := Z1) (by unfold v185; (try rw [← hZ1]); rw [if_pos z12_0]) (by unfold r185; (try rw [← hZ1]); rw [if_pos z12_0]))
theorem gr_185 {x1 : Int32} : zfrM [0] [] [] (r185 x1 M) M := by
  unfold r185
  exact (gm_ite (gm_c gr_111 (gm_c gm_S gm_rf (by decide) (by decide) (by decide)) (by decide) (by decide) (by decide)) (gm_c gm_S gm_rf (by decide) (by decide) (by decide)))
theorem rl_185 {x1 : Int32} : (r185 x1 M).2.2 = M.2.2 := gm_l gr_185
end ZRE
set_option maxRecDepth 20000
section ZRE
variable {S0 : zSt} {M : zRt} {X : zXt} {kq : Nat × Nat × List Value} {xs : List Int32} {N : Nat} {nc ns : Nat}
def t186 (M : zRt) : Int32 := if (Int32.ofInt 40).toInt < (Int32.ofNat (M.2.2.1 2).length).toInt then ((Int32.ofInt 0)) else (if ((M.1 14) + (M.1 15)).toInt < (Int32.ofNat (M.2.2.1 2).length).toInt then ((Int32.ofInt 0)) else ((Int32.ofInt 1)))
theorem e_186t {o1 o2 o3 o4 : Option Value} (hX : zUX kq X M.2.2) : zpE xs N 186 318 [some (.ref 44), o1, o2, o3, o4] [] (zy S0 M X) nc ns (zOq (.inl (some (.int (t186 M)))) (zy S0 M X)) := by
  refine zpE_run 2 (L' := [some (.ref 44), o1, o2, o3, o4]) (st' := [.ref (X.1 2)]) rfl ?_
  obtain ⟨vs1, lc1⟩ := zUX_lc (S0 := S0) (M := M) (i := 2) (by decide) hX
  refine zpE_call rfl (show zcallV 0 10 243 327 (.ref (X.1 2) :: _) (zy S0 M X) = _ from zcallV_eq rfl lc1 (Nat.le_of_ble_eq_true rfl)) (zul_243 (i := 2) (by decide) hX) (fun v h1 nc1 ns1 q8 => ?_) (fun E h1 nc1 ns1 q8 => by cases q8)
  cases q8
  refine zpE_run 1 (L' := [some (.ref 44), o1, o2, o3, o4]) (st' := [.int (Int32.ofInt 40), .int (Int32.ofNat (M.2.2.1 2).length)]) rfl ?_
  refine zpE_icmp rfl (fun q329 => ?_) (fun q329 => ?_)
  · have z329_0 := zF_gt_t q329
    refine zpE_run 1 (L' := [some (.ref 44), o1, o2, o3, o4]) (st' := [.int (Int32.ofInt 0)]) rfl ?_
    exact zpE_end rfl rfl (zOq_v (by unfold t186; rw [if_pos z329_0]))
  · have z329_0 := Int.not_lt.mpr (zF_gt_f q329)
    refine zpE_run 2 (L' := [some (.ref 44), o1, o2, o3, o4]) (st' := [.ref (X.1 2)]) rfl ?_
    obtain ⟨vs2, lc2⟩ := zUX_lc (S0 := S0) (M := M) (i := 2) (by decide) hX
    refine zpE_call rfl (show zcallV 0 10 243 341 (.ref (X.1 2) :: _) (zy S0 M X) = _ from zcallV_eq rfl lc2 (Nat.le_of_ble_eq_true rfl)) (zul_243 (i := 2) (by decide) hX) (fun v h1 nc1 ns1 q8 => ?_) (fun E h1 nc1 ns1 q8 => by cases q8)
    cases q8
    refine zpE_run 5 (L' := [some (.ref 44), o1, o2, o3, o4]) (st' := [.int ((M.1 14) + (M.1 15)), .int (Int32.ofNat (M.2.2.1 2).length)]) rfl ?_
    refine zpE_icmp rfl (fun q350 => ?_) (fun q350 => ?_)
    · have z350_1 := zF_gt_t q350
      refine zpE_run 1 (L' := [some (.ref 44), o1, o2, o3, o4]) (st' := [.int (Int32.ofInt 0)]) rfl ?_
      exact zpE_end rfl rfl (zOq_v (by unfold t186; rw [if_neg z329_0, if_pos z350_1]))
    · have z350_1 := Int.not_lt.mpr (zF_gt_f q350)
      refine zpE_run 2 (L' := [some (.ref 44), o1, o2, o3, o4]) (st' := [.int (Int32.ofInt 1)]) rfl ?_
      exact zpE_end rfl rfl (zOq_v (by unfold t186; rw [if_neg z329_0, if_neg z350_1]))
def q186d (M : zRt) : Nat → Nat → Int32
  | 0, _ => t186 M
  | m + 1, k => if (zgt (M.2.1 20) ((Int32.ofNat k))).toInt < ((0 : Int32)).toInt then ((Int32.ofInt 0)) else (q186d M m (k + 1))
theorem l_186d (hX : zUX kq X M.2.2) : ∀ (N k m : Nat) (o4 : Option Value) (nc ns : Nat), k + m = (Int32.ofNat (M.2.1 20).length).toInt.toNat → zpE xs N 186 295 [some (.ref 44), some (.ref 67), some (.int (Int32.ofNat (M.2.1 20).length)), some (.int (Int32.ofNat k)), o4] [] (zy S0 M X) nc ns (zOq (.inl (some (.int (q186d M m k)))) (zy S0 M X))
  | 0, _, _, _, _, _, _ => zpE_0
  | N + 1, k, m0, o4, nc, ns, hk => by
    refine zpE_run1 1 (L' := [some (.ref 44), some (.ref 67), some (.int (Int32.ofNat (M.2.1 20).length)), some (.int (Int32.ofNat k)), o4]) (st' := [.int (Int32.ofNat (M.2.1 20).length), .int (Int32.ofNat k)]) rfl ?_
    refine zpE_icmp rfl (fun q297 => ?_) (fun q297 => ?_)
    · have z297_0 := Int.not_lt.mpr (zF_ge_t q297)
      rw [show q186d M m0 k = t186 M from by rw [zlp_o2 z297_0 hk]; rfl]
      exact e_186t hX
    · have z297_0 := zF_ge_f q297
      obtain ⟨m, rfl⟩ := zlp_i2 z297_0 hk
      have eQ : q186d M (m + 1) k = if (zgt (M.2.1 20) ((Int32.ofNat k))).toInt < ((0 : Int32)).toInt then ((Int32.ofInt 0)) else (q186d M m (k + 1)) := rfl
      refine zpE_run 2 (L' := [some (.ref 44), some (.ref 67), some (.int (Int32.ofNat (M.2.1 20).length)), some (.int (Int32.ofNat k)), o4]) (st' := [.int (Int32.ofNat k), .ref 67]) rfl ?_
      refine zpE_aly rfl (zy_g67 (M := M)) (fun _ _ => ?_)
      refine zpE_gen (fun nc ns => ?_)
      refine zpE_run 2 (L' := [some (.ref 44), some (.ref 67), some (.int (Int32.ofNat (M.2.1 20).length)), some (.int (Int32.ofNat k)), some (.int (zgt (M.2.1 20) (Int32.ofNat k)))]) (st' := [.int (zgt (M.2.1 20) (Int32.ofNat k))]) rfl ?_
      refine zpE_if rfl (fun q307 => ?_) (fun q307 => ?_)
      · have z307_1 := Int.not_lt.mpr (zF_ge_t q307)
        refine zpE_run 2 (L' := [some (.ref 44), some (.ref 67), some (.int (Int32.ofNat (M.2.1 20).length)), some (.int ((Int32.ofNat k) + Int32.ofInt 1)), some (.int (zgt (M.2.1 20) (Int32.ofNat k)))]) (st' := []) rfl ?_
        have K := fun o4 nc ns => l_186d hX N (k + 1) m o4 nc ns (by omega)
        rw [← zof1] at K
        rw [eQ, if_neg z307_1]
        exact K _ _ _
      · have z307_1 := zF_ge_f q307
        refine zpE_run 1 (L' := [some (.ref 44), some (.ref 67), some (.int (Int32.ofNat (M.2.1 20).length)), some (.int (Int32.ofNat k)), some (.int (zgt (M.2.1 20) (Int32.ofNat k)))]) (st' := [.int (Int32.ofInt 0)]) rfl ?_
        exact zpE_end rfl rfl (by rw [eQ, if_pos z307_1]; exact zOq_v rfl)
def v186d (M : zRt) : Int32 := q186d M (Int32.ofNat (M.2.1 20).length).toInt.toNat 0
theorem e_186d {o1 o2 o3 o4 : Option Value} (hX : zUX kq X M.2.2) : zpE xs N 186 285 [some (.ref 44), o1, o2, o3, o4] [] (zy S0 M X) nc ns (zOq (.inl (some (.int (v186d M)))) (zy S0 M X)) := by
  refine zpE_run 4 (L' := [some (.ref 44), some (.ref 67), o2, o3, o4]) (st' := [.ref 67]) rfl ?_
  refine zpE_alen rfl rfl (by decide) ?_
  rw [List.length_map]
  refine zpE_run 3 rfl ?_
  exact l_186d hX N 0 _ _ _ _ (Nat.zero_add _)
def p186c (a : Nat) (M : zRt) : Nat → Nat → Bool
  | 0, _ => true
  | m + 1, k => if (zgt (M.2.1 22) (Int32.ofNat a)) = (zgt (M.2.1 22) ((Int32.ofNat k))) then false else (p186c a M m (k + 1))
theorem l_186ci {a N0 k0 m0 : Nat} {o3 o4 : Option Value} {P : zO → Prop} (hX : zUX kq X M.2.2) (K : p186c a M m0 k0 = true → ∀ (o2 : Option Value) (nc ns : Nat), zpE xs N0 186 279 [some (.ref 44), some (.int (Int32.ofNat a)), o2, o3, o4] [] (zy S0 M X) nc ns P) (H : p186c a M m0 k0 = false → ∀ o, zOq (.inl (some (.int (Int32.ofInt 0)))) (zy S0 M X) o → P o) : ∀ (N k m : Nat) (nc ns : Nat), N ≤ N0 → k + m = (Int32.ofNat a).toInt.toNat → p186c a M m0 k0 = p186c a M m k → zpE xs N 186 251 [some (.ref 44), some (.int (Int32.ofNat a)), some (.int (Int32.ofNat k)), o3, o4] [] (zy S0 M X) nc ns P
  | 0, _, _, _, _, _, _, _ => zpE_0
  | N + 1, k, m0, nc, ns, hN, hk, hq => by
    refine zpE_run1 1 (L' := [some (.ref 44), some (.int (Int32.ofNat a)), some (.int (Int32.ofNat k)), o3, o4]) (st' := [.int (Int32.ofNat a), .int (Int32.ofNat k)]) rfl ?_
    refine zpE_icmp rfl (fun q253 => ?_) (fun q253 => ?_)
    · have z253_0 := Int.not_lt.mpr (zF_ge_t q253)
      rw [zlp_o2 z253_0 hk] at hq
      exact zpE_le (by omega) (K hq _ _ _)
    · have z253_0 := zF_ge_f q253
      obtain ⟨m, rfl⟩ := zlp_i2 z253_0 hk
      have eQ : p186c a M (m + 1) k = if (zgt (M.2.1 22) (Int32.ofNat a)) = (zgt (M.2.1 22) ((Int32.ofNat k))) then false else (p186c a M m (k + 1)) := rfl
      refine zpE_run 3 (L' := [some (.ref 44), some (.int (Int32.ofNat a)), some (.int (Int32.ofNat k)), o3, o4]) (st' := [.int (Int32.ofNat a), .ref 69]) rfl ?_
      refine zpE_aly rfl (zy_g69 (M := M)) (fun _ _ => ?_)
      refine zpE_gen (fun nc ns => ?_)
      refine zpE_run 3 (L' := [some (.ref 44), some (.int (Int32.ofNat a)), some (.int (Int32.ofNat k)), o3, o4]) (st' := [.int (Int32.ofNat k), .ref 69, .int (zgt (M.2.1 22) (Int32.ofNat a))]) rfl ?_
      refine zpE_aly rfl (zy_g69 (M := M)) (fun _ _ => ?_)
      refine zpE_gen (fun nc ns => ?_)
      refine zpE_icmp rfl (fun q268 => ?_) (fun q268 => ?_)
      · have z268_1 := zF_n1 q268
        refine zpE_run 2 (L' := [some (.ref 44), some (.int (Int32.ofNat a)), some (.int ((Int32.ofNat k) + Int32.ofInt 1)), o3, o4]) (st' := []) rfl ?_
        have K9 := fun nc ns => l_186ci hX K H N (k + 1) m nc ns (by omega) (by omega) (hq.trans (by rw [eQ, if_neg z268_1]))
        rw [← zof1] at K9
        exact K9 _ _
      · have z268_1 := zF_n0 q268
        refine zpE_run 1 (L' := [some (.ref 44), some (.int (Int32.ofNat a)), some (.int (Int32.ofNat k)), o3, o4]) (st' := [.int (Int32.ofInt 0)]) rfl ?_
        exact zpE_end rfl rfl (H (hq.trans (by rw [eQ, if_pos z268_1])) _ (zOq_v rfl))
def q186c (M : zRt) : Nat → Nat → Int32
  | 0, _ => v186d M
  | m + 1, k => if p186c k M (Int32.ofNat k).toInt.toNat 0 = true then q186c M m (k + 1) else Int32.ofInt 0
theorem l_186c (hX : zUX kq X M.2.2) : ∀ (N k m : Nat) (o2 : Option Value) (o3 : Option Value) (o4 : Option Value) (nc ns : Nat), k + m = (Int32.ofNat (M.2.1 22).length).toInt.toNat → zpE xs N 186 240 [some (.ref 44), some (.int (Int32.ofNat k)), o2, o3, o4] [] (zy S0 M X) nc ns (zOq (.inl (some (.int (q186c M m k)))) (zy S0 M X))
  | 0, _, _, _, _, _, _, _, _ => zpE_0
  | N + 1, k, m0, o2, o3, o4, nc, ns, hk => by
    refine zpE_run1 2 (L' := [some (.ref 44), some (.int (Int32.ofNat k)), o2, o3, o4]) (st' := [.ref 69, .int (Int32.ofNat k)]) rfl ?_
    refine zpE_alen rfl rfl (by decide) ?_
    rw [List.length_map]
    refine zpE_icmp rfl (fun q246 => ?_) (fun q246 => ?_)
    · have z246_0 := Int.not_lt.mpr (zF_ge_t q246)
      rw [show q186c M m0 k = v186d M from by rw [zlp_o2 z246_0 hk]; rfl]
      exact e_186d hX
    · have z246_0 := zF_ge_f q246
      obtain ⟨m, rfl⟩ := zlp_i2 z246_0 hk
      have eQ : q186c M (m + 1) k = if p186c k M (Int32.ofNat k).toInt.toNat 0 = true then q186c M m (k + 1) else Int32.ofInt 0 := rfl
      refine zpE_run 2 (L' := [some (.ref 44), some (.int (Int32.ofNat k)), some (.int (Int32.ofNat 0)), o3, o4]) (st' := []) rfl ?_
      rw [eQ]
      refine l_186ci (a := k) (N0 := N) (m0 := (Int32.ofNat k).toInt.toNat) (k0 := 0) hX (fun e o2 nc ns => ?_) (fun e o ho => ?_) N _ _ _ _ (Nat.le_refl _) (Nat.zero_add _) rfl
      · rw [if_pos e]
        refine zpE_run 2 (L' := [some (.ref 44), some (.int (Int32.ofNat k + Int32.ofInt 1)), o2, o3, o4]) (st' := []) rfl ?_
        rw [zof1]
        exact l_186c hX N (k + 1) m _ _ _ _ _ (by omega)
      · rw [if_neg (by rw [e]; exact Bool.false_ne_true)]
        exact ho
def v186c (M : zRt) : Int32 := q186c M (Int32.ofNat (M.2.1 22).length).toInt.toNat 0
theorem e_186c {o1 o2 o3 o4 : Option Value} (hX : zUX kq X M.2.2) : zpE xs N 186 238 [some (.ref 44), o1, o2, o3, o4] [] (zy S0 M X) nc ns (zOq (.inl (some (.int (v186c M)))) (zy S0 M X)) := by
  refine zpE_run 2 (L' := [some (.ref 44), some (.int (Int32.ofNat 0)), o2, o3, o4]) (st' := []) rfl ?_
  exact l_186c hX N 0 _ _ _ _ _ _ (Nat.zero_add _)
def p186b (a : Nat) (M : zRt) : Nat → Nat → Int32 → Int32
  | 0, _, u => u
  | m + 1, k, u => if (zgt ((M.2.2.1 0).getD (Int32.toNatClampNeg ((Int32.ofNat k))) []) (Int32.ofInt 0)) = (zgt ((M.2.2.1 0).getD (Int32.toNatClampNeg (Int32.ofNat a)) []) (Int32.ofInt 0)) then (if (zgt ((M.2.2.1 0).getD (Int32.toNatClampNeg ((Int32.ofNat k))) []) (Int32.ofInt 1)) = (zgt ((M.2.2.1 0).getD (Int32.toNatClampNeg (Int32.ofNat a)) []) (Int32.ofInt 1)) then (if (zgt ((M.2.2.1 0).getD (Int32.toNatClampNeg ((Int32.ofNat k))) []) (Int32.ofInt 2)) = (zgt ((M.2.2.1 0).getD (Int32.toNatClampNeg (Int32.ofNat a)) []) (Int32.ofInt 2)) then (p186b a M m (k + 1) (u &&& (Int32.ofInt 0))) else (p186b a M m (k + 1) (u &&& (Int32.ofInt 1)))) else (p186b a M m (k + 1) (u &&& (Int32.ofInt 1)))) else (p186b a M m (k + 1) (u &&& (Int32.ofInt 1)))
theorem l_186bi {a N0 : Nat} {P : zO → Prop} (hX : zUX kq X M.2.2) (hR : ¬ Int32.ofNat a < 0 ∧ (Int32.toNatClampNeg (Int32.ofNat a)) < (M.2.2.1 0).length) : ∀ (N k m : Nat) (u : Int32) (nc ns : Nat), N ≤ N0 → k + m = (Int32.ofNat (M.2.2.1 0).length).toInt.toNat → (∀ (o4 : Option Value) (nc ns : Nat), zpE xs N0 186 193 [some (.ref 44), some (.int (Int32.ofNat a)), some (.ref (zel X 0 (Int32.ofNat a))), some (.int (p186b a M m k u)), o4] [] (zy S0 M X) nc ns P) → zpE xs N 186 99 [some (.ref 44), some (.int (Int32.ofNat a)), some (.ref (zel X 0 (Int32.ofNat a))), some (.int u), some (.int (Int32.ofNat k))] [] (zy S0 M X) nc ns P
  | 0, _, _, _, _, _, _, _, _ => zpE_0
  | N + 1, k, m0, u, nc, ns, hN, hk, K => by
    refine zpE_run1 2 (L' := [some (.ref 44), some (.int (Int32.ofNat a)), some (.ref (zel X 0 (Int32.ofNat a))), some (.int u), some (.int (Int32.ofNat k))]) (st' := [.ref (X.1 0), .int (Int32.ofNat k)]) rfl ?_
    obtain ⟨vs1, lc1⟩ := zUX_lc (S0 := S0) (M := M) (i := 0) (by decide) hX
    refine zpE_call rfl (show zcallV 0 10 243 110 (.ref (X.1 0) :: _) (zy S0 M X) = _ from zcallV_eq rfl lc1 (Nat.le_of_ble_eq_true rfl)) (zul_243 (i := 0) (by decide) hX) (fun v h1 nc1 ns1 q8 => ?_) (fun E h1 nc1 ns1 q8 => by cases q8)
    cases q8
    refine zpE_icmp rfl (fun q110 => ?_) (fun q110 => ?_)
    · have z110_0 := Int.not_lt.mpr (zF_ge_t q110)
      rw [zlp_o2 z110_0 hk] at K
      exact zpE_le (by omega) (K _ _ _)
    · have z110_0 := zF_ge_f q110
      obtain ⟨m, rfl⟩ := zlp_i2 z110_0 hk
      have eQ : p186b a M (m + 1) k u = if (zgt ((M.2.2.1 0).getD (Int32.toNatClampNeg ((Int32.ofNat k))) []) (Int32.ofInt 0)) = (zgt ((M.2.2.1 0).getD (Int32.toNatClampNeg (Int32.ofNat a)) []) (Int32.ofInt 0)) then (if (zgt ((M.2.2.1 0).getD (Int32.toNatClampNeg ((Int32.ofNat k))) []) (Int32.ofInt 1)) = (zgt ((M.2.2.1 0).getD (Int32.toNatClampNeg (Int32.ofNat a)) []) (Int32.ofInt 1)) then (if (zgt ((M.2.2.1 0).getD (Int32.toNatClampNeg ((Int32.ofNat k))) []) (Int32.ofInt 2)) = (zgt ((M.2.2.1 0).getD (Int32.toNatClampNeg (Int32.ofNat a)) []) (Int32.ofInt 2)) then (p186b a M m (k + 1) (u &&& (Int32.ofInt 0))) else (p186b a M m (k + 1) (u &&& (Int32.ofInt 1)))) else (p186b a M m (k + 1) (u &&& (Int32.ofInt 1)))) else (p186b a M m (k + 1) (u &&& (Int32.ofInt 1))) := rfl
      refine zpE_run 4 (L' := [some (.ref 44), some (.int (Int32.ofNat a)), some (.ref (zel X 0 (Int32.ofNat a))), some (.int u), some (.int (Int32.ofNat k))]) (st' := [.int (Int32.ofNat k), .ref (X.1 0), .int u]) rfl ?_
      have n2 : ¬ (Int32.ofNat k) < 0 ∧ (Int32.toNatClampNeg (Int32.ofNat k)) < (M.2.2.1 0).length := zlp_rg2 (n := 3) (i := 0) (by decide) hX z110_0 hk
      obtain ⟨vs3, lc3⟩ := zUX_lc (S0 := S0) (M := M) (i := 0) (by decide) hX
      refine zpE_call rfl (show zcallV 1 10 239 125 (.int (Int32.ofNat k) :: .ref (X.1 0) :: _) (zy S0 M X) = _ from zcallV_eq rfl lc3 (Nat.le_of_ble_eq_true rfl)) (zul_239 (i := 0) (j := Int32.ofNat k) (by decide) hX n2) (fun v h1 nc1 ns1 q8 => ?_) (fun E h1 nc1 ns1 q8 => by cases q8)
      cases q8
      refine zpE_chk rfl (zUX_e hX n2) ?_
      refine zpE_run 1 (L' := [some (.ref 44), some (.int (Int32.ofNat a)), some (.ref (zel X 0 (Int32.ofNat a))), some (.int u), some (.int (Int32.ofNat k))]) (st' := [.int (Int32.ofInt 0), .ref (zel X 0 (Int32.ofNat k)), .int u]) rfl ?_
      refine zpE_aly rfl (zUX_e hX n2) (fun _ _ => ?_)
      refine zpE_gen (fun nc ns => ?_)
      refine zpE_run 2 (L' := [some (.ref 44), some (.int (Int32.ofNat a)), some (.ref (zel X 0 (Int32.ofNat a))), some (.int u), some (.int (Int32.ofNat k))]) (st' := [.int (Int32.ofInt 0), .ref (zel X 0 (Int32.ofNat a)), .int (zgt ((M.2.2.1 0).getD (Int32.toNatClampNeg (Int32.ofNat k)) []) (Int32.ofInt 0)), .int u]) rfl ?_
      refine zpE_aly rfl (zUX_e hX hR) (fun _ _ => ?_)
      refine zpE_gen (fun nc ns => ?_)
      refine zpE_icmp rfl (fun q133 => ?_) (fun q133 => ?_)
      · have z133_1 := zF_n1 q133
        refine zpE_run 6 (L' := [some (.ref 44), some (.int (Int32.ofNat a)), some (.ref (zel X 0 (Int32.ofNat a))), some (.int (u &&& (Int32.ofInt 1))), some (.int ((Int32.ofNat k) + Int32.ofInt 1))]) (st' := []) rfl ?_
        rw [eQ, if_neg z133_1] at K
        have K9 := fun nc ns => l_186bi hX hR N (k + 1) m (u &&& (Int32.ofInt 1)) nc ns (by omega) (by omega) K
        rw [← zof1] at K9
        exact K9 _ _
      · have z133_1 := zF_n0 q133
        refine zpE_run 3 (L' := [some (.ref 44), some (.int (Int32.ofNat a)), some (.ref (zel X 0 (Int32.ofNat a))), some (.int u), some (.int (Int32.ofNat k))]) (st' := [.int (Int32.ofNat k), .ref (X.1 0), .int u]) rfl ?_
        have n4 : ¬ (Int32.ofNat k) < 0 ∧ (Int32.toNatClampNeg (Int32.ofNat k)) < (M.2.2.1 0).length := zlp_rg2 (n := 3) (i := 0) (by decide) hX z110_0 hk
        obtain ⟨vs5, lc5⟩ := zUX_lc (S0 := S0) (M := M) (i := 0) (by decide) hX
        refine zpE_call rfl (show zcallV 1 10 239 147 (.int (Int32.ofNat k) :: .ref (X.1 0) :: _) (zy S0 M X) = _ from zcallV_eq rfl lc5 (Nat.le_of_ble_eq_true rfl)) (zul_239 (i := 0) (j := Int32.ofNat k) (by decide) hX n4) (fun v h1 nc1 ns1 q8 => ?_) (fun E h1 nc1 ns1 q8 => by cases q8)
        cases q8
        refine zpE_chk rfl (zUX_e hX n4) ?_
        refine zpE_run 1 (L' := [some (.ref 44), some (.int (Int32.ofNat a)), some (.ref (zel X 0 (Int32.ofNat a))), some (.int u), some (.int (Int32.ofNat k))]) (st' := [.int (Int32.ofInt 1), .ref (zel X 0 (Int32.ofNat k)), .int u]) rfl ?_
        refine zpE_aly rfl (zUX_e hX n4) (fun _ _ => ?_)
        refine zpE_gen (fun nc ns => ?_)
        refine zpE_run 2 (L' := [some (.ref 44), some (.int (Int32.ofNat a)), some (.ref (zel X 0 (Int32.ofNat a))), some (.int u), some (.int (Int32.ofNat k))]) (st' := [.int (Int32.ofInt 1), .ref (zel X 0 (Int32.ofNat a)), .int (zgt ((M.2.2.1 0).getD (Int32.toNatClampNeg (Int32.ofNat k)) []) (Int32.ofInt 1)), .int u]) rfl ?_
        refine zpE_aly rfl (zUX_e hX hR) (fun _ _ => ?_)
        refine zpE_gen (fun nc ns => ?_)
        refine zpE_icmp rfl (fun q155 => ?_) (fun q155 => ?_)
        · have z155_2 := zF_n1 q155
          refine zpE_run 6 (L' := [some (.ref 44), some (.int (Int32.ofNat a)), some (.ref (zel X 0 (Int32.ofNat a))), some (.int (u &&& (Int32.ofInt 1))), some (.int ((Int32.ofNat k) + Int32.ofInt 1))]) (st' := []) rfl ?_
          rw [eQ, if_pos z133_1, if_neg z155_2] at K
          have K9 := fun nc ns => l_186bi hX hR N (k + 1) m (u &&& (Int32.ofInt 1)) nc ns (by omega) (by omega) K
          rw [← zof1] at K9
          exact K9 _ _
        · have z155_2 := zF_n0 q155
          refine zpE_run 3 (L' := [some (.ref 44), some (.int (Int32.ofNat a)), some (.ref (zel X 0 (Int32.ofNat a))), some (.int u), some (.int (Int32.ofNat k))]) (st' := [.int (Int32.ofNat k), .ref (X.1 0), .int u]) rfl ?_
          have n6 : ¬ (Int32.ofNat k) < 0 ∧ (Int32.toNatClampNeg (Int32.ofNat k)) < (M.2.2.1 0).length := zlp_rg2 (n := 3) (i := 0) (by decide) hX z110_0 hk
          obtain ⟨vs7, lc7⟩ := zUX_lc (S0 := S0) (M := M) (i := 0) (by decide) hX
          refine zpE_call rfl (show zcallV 1 10 239 169 (.int (Int32.ofNat k) :: .ref (X.1 0) :: _) (zy S0 M X) = _ from zcallV_eq rfl lc7 (Nat.le_of_ble_eq_true rfl)) (zul_239 (i := 0) (j := Int32.ofNat k) (by decide) hX n6) (fun v h1 nc1 ns1 q8 => ?_) (fun E h1 nc1 ns1 q8 => by cases q8)
          cases q8
          refine zpE_chk rfl (zUX_e hX n6) ?_
          refine zpE_run 1 (L' := [some (.ref 44), some (.int (Int32.ofNat a)), some (.ref (zel X 0 (Int32.ofNat a))), some (.int u), some (.int (Int32.ofNat k))]) (st' := [.int (Int32.ofInt 2), .ref (zel X 0 (Int32.ofNat k)), .int u]) rfl ?_
          refine zpE_aly rfl (zUX_e hX n6) (fun _ _ => ?_)
          refine zpE_gen (fun nc ns => ?_)
          refine zpE_run 2 (L' := [some (.ref 44), some (.int (Int32.ofNat a)), some (.ref (zel X 0 (Int32.ofNat a))), some (.int u), some (.int (Int32.ofNat k))]) (st' := [.int (Int32.ofInt 2), .ref (zel X 0 (Int32.ofNat a)), .int (zgt ((M.2.2.1 0).getD (Int32.toNatClampNeg (Int32.ofNat k)) []) (Int32.ofInt 2)), .int u]) rfl ?_
          refine zpE_aly rfl (zUX_e hX hR) (fun _ _ => ?_)
          refine zpE_gen (fun nc ns => ?_)
          refine zpE_icmp rfl (fun q177 => ?_) (fun q177 => ?_)
          · have z177_3 := zF_e1 q177
            refine zpE_run 5 (L' := [some (.ref 44), some (.int (Int32.ofNat a)), some (.ref (zel X 0 (Int32.ofNat a))), some (.int (u &&& (Int32.ofInt 0))), some (.int ((Int32.ofNat k) + Int32.ofInt 1))]) (st' := []) rfl ?_
            rw [eQ, if_pos z133_1, if_pos z155_2, if_pos z177_3] at K
            have K9 := fun nc ns => l_186bi hX hR N (k + 1) m (u &&& (Int32.ofInt 0)) nc ns (by omega) (by omega) K
            rw [← zof1] at K9
            exact K9 _ _
          · have z177_3 := zF_e0 q177
            refine zpE_run 6 (L' := [some (.ref 44), some (.int (Int32.ofNat a)), some (.ref (zel X 0 (Int32.ofNat a))), some (.int (u &&& (Int32.ofInt 1))), some (.int ((Int32.ofNat k) + Int32.ofInt 1))]) (st' := []) rfl ?_
            rw [eQ, if_pos z133_1, if_pos z155_2, if_neg z177_3] at K
            have K9 := fun nc ns => l_186bi hX hR N (k + 1) m (u &&& (Int32.ofInt 1)) nc ns (by omega) (by omega) K
            rw [← zof1] at K9
            exact K9 _ _
def q186b (M : zRt) : Nat → Nat → Int32
  | 0, _ => v186c M
  | m + 1, k => if ((p186b k M ((Int32.ofNat (M.2.2.1 0).length).toInt.toNat - (k + 1)) (k + 1) (Int32.ofInt 1))) = ((0 : Int32)) then (q186b M m (k + 1)) else (if (zgt ((M.2.2.1 0).getD (Int32.toNatClampNeg (Int32.ofNat k)) []) (Int32.ofInt 3)) = (Int32.ofInt 1) then (if (v113 (zgt (M.2.1 (Int32.toNatClampNeg (zgt ((M.2.2.1 0).getD (Int32.toNatClampNeg (Int32.ofNat k)) []) (Int32.ofInt 0)))) (zgt ((M.2.2.1 0).getD (Int32.toNatClampNeg (Int32.ofNat k)) []) (Int32.ofInt 1))) (zgt ((M.2.2.1 0).getD (Int32.toNatClampNeg (Int32.ofNat k)) []) (Int32.ofInt 2)) M) = (Int32.ofInt 1) then (q186b M m (k + 1)) else ((Int32.ofInt 0))) else (if (v113 (zgt (M.2.1 (Int32.toNatClampNeg (zgt ((M.2.2.1 0).getD (Int32.toNatClampNeg (Int32.ofNat k)) []) (Int32.ofInt 0)))) (zgt ((M.2.2.1 0).getD (Int32.toNatClampNeg (Int32.ofNat k)) []) (Int32.ofInt 1))) (zgt ((M.2.2.1 0).getD (Int32.toNatClampNeg (Int32.ofNat k)) []) (Int32.ofInt 2)) M) = (Int32.ofInt 0) then (q186b M m (k + 1)) else ((Int32.ofInt 0))))
theorem l_186b (hX : zUX kq X M.2.2) : ∀ (N k m : Nat) (o2 : Option Value) (o3 : Option Value) (o4 : Option Value) (nc ns : Nat), k + m = (Int32.ofNat (M.2.2.1 0).length).toInt.toNat → zpE xs N 186 65 [some (.ref 44), some (.int (Int32.ofNat k)), o2, o3, o4] [] (zy S0 M X) nc ns (zOq (.inl (some (.int (q186b M m k)))) (zy S0 M X))
  | 0, _, _, _, _, _, _, _, _ => zpE_0
  | N + 1, k, m0, o2, o3, o4, nc, ns, hk => by
    refine zpE_run1 2 (L' := [some (.ref 44), some (.int (Int32.ofNat k)), o2, o3, o4]) (st' := [.ref (X.1 0), .int (Int32.ofNat k)]) rfl ?_
    obtain ⟨vs1, lc1⟩ := zUX_lc (S0 := S0) (M := M) (i := 0) (by decide) hX
    refine zpE_call rfl (show zcallV 0 10 243 75 (.ref (X.1 0) :: _) (zy S0 M X) = _ from zcallV_eq rfl lc1 (Nat.le_of_ble_eq_true rfl)) (zul_243 (i := 0) (by decide) hX) (fun v h1 nc1 ns1 q8 => ?_) (fun E h1 nc1 ns1 q8 => by cases q8)
    cases q8
    refine zpE_icmp rfl (fun q75 => ?_) (fun q75 => ?_)
    · have z75_0 := Int.not_lt.mpr (zF_ge_t q75)
      rw [show q186b M m0 k = v186c M from by rw [zlp_o2 z75_0 hk]; rfl]
      exact e_186c hX
    · have z75_0 := zF_ge_f q75
      obtain ⟨m, rfl⟩ := zlp_i2 z75_0 hk
      have eQ : q186b M (m + 1) k = if ((p186b k M ((Int32.ofNat (M.2.2.1 0).length).toInt.toNat - (k + 1)) (k + 1) (Int32.ofInt 1))) = ((0 : Int32)) then (q186b M m (k + 1)) else (if (zgt ((M.2.2.1 0).getD (Int32.toNatClampNeg (Int32.ofNat k)) []) (Int32.ofInt 3)) = (Int32.ofInt 1) then (if (v113 (zgt (M.2.1 (Int32.toNatClampNeg (zgt ((M.2.2.1 0).getD (Int32.toNatClampNeg (Int32.ofNat k)) []) (Int32.ofInt 0)))) (zgt ((M.2.2.1 0).getD (Int32.toNatClampNeg (Int32.ofNat k)) []) (Int32.ofInt 1))) (zgt ((M.2.2.1 0).getD (Int32.toNatClampNeg (Int32.ofNat k)) []) (Int32.ofInt 2)) M) = (Int32.ofInt 1) then (q186b M m (k + 1)) else ((Int32.ofInt 0))) else (if (v113 (zgt (M.2.1 (Int32.toNatClampNeg (zgt ((M.2.2.1 0).getD (Int32.toNatClampNeg (Int32.ofNat k)) []) (Int32.ofInt 0)))) (zgt ((M.2.2.1 0).getD (Int32.toNatClampNeg (Int32.ofNat k)) []) (Int32.ofInt 1))) (zgt ((M.2.2.1 0).getD (Int32.toNatClampNeg (Int32.ofNat k)) []) (Int32.ofInt 2)) M) = (Int32.ofInt 0) then (q186b M m (k + 1)) else ((Int32.ofInt 0)))) := rfl
      refine zpE_run 3 (L' := [some (.ref 44), some (.int (Int32.ofNat k)), o2, o3, o4]) (st' := [.int (Int32.ofNat k), .ref (X.1 0)]) rfl ?_
      have n2 : ¬ (Int32.ofNat k) < 0 ∧ (Int32.toNatClampNeg (Int32.ofNat k)) < (M.2.2.1 0).length := zlp_rg2 (n := 3) (i := 0) (by decide) hX z75_0 hk
      obtain ⟨vs3, lc3⟩ := zUX_lc (S0 := S0) (M := M) (i := 0) (by decide) hX
      refine zpE_call rfl (show zcallV 1 10 239 88 (.int (Int32.ofNat k) :: .ref (X.1 0) :: _) (zy S0 M X) = _ from zcallV_eq rfl lc3 (Nat.le_of_ble_eq_true rfl)) (zul_239 (i := 0) (j := Int32.ofNat k) (by decide) hX n2) (fun v h1 nc1 ns1 q8 => ?_) (fun E h1 nc1 ns1 q8 => by cases q8)
      cases q8
      refine zpE_chk rfl (zUX_e hX n2) ?_
      refine zpE_run 7 (L' := [some (.ref 44), some (.int (Int32.ofNat k)), some (.ref (zel X 0 (Int32.ofNat k))), some (.int (Int32.ofInt 1)), some (.int (Int32.ofNat k + Int32.ofInt 1))]) (st' := []) rfl ?_
      rw [zof1]
      have hR : ¬ Int32.ofNat k < 0 ∧ (Int32.toNatClampNeg (Int32.ofNat k)) < (M.2.2.1 0).length := zlp_rg2 (n := 3) (i := 0) (by decide) hX z75_0 hk
      refine l_186bi (N0 := N) hX hR N (k + 1) ((Int32.ofNat (M.2.2.1 0).length).toInt.toNat - (k + 1)) _ _ _ (Nat.le_refl _) (by omega) (fun o4 nc ns => ?_)
      refine zpE_run 1 (L' := [some (.ref 44), some (.int (Int32.ofNat k)), some (.ref (zel X 0 (Int32.ofNat k))), some (.int ((p186b k M ((Int32.ofNat (M.2.2.1 0).length).toInt.toNat - (k + 1)) (k + 1) (Int32.ofInt 1)))), o4]) (st' := [.int ((p186b k M ((Int32.ofNat (M.2.2.1 0).length).toInt.toNat - (k + 1)) (k + 1) (Int32.ofInt 1)))]) rfl ?_
      refine zpE_if rfl (fun q194 => ?_) (fun q194 => ?_)
      · have z194_0 := zF_e1 q194
        refine zpE_run 2 (L' := [some (.ref 44), some (.int ((Int32.ofNat k) + Int32.ofInt 1)), some (.ref (zel X 0 (Int32.ofNat k))), some (.int ((p186b k M ((Int32.ofNat (M.2.2.1 0).length).toInt.toNat - (k + 1)) (k + 1) (Int32.ofInt 1)))), o4]) (st' := []) rfl ?_
        rw [zof1, eQ, if_pos z194_0]
        exact l_186b hX N (k + 1) m _ _ _ _ _ (by omega)
      · have z194_0 := zF_e0 q194
        refine zpE_run 4 (L' := [some (.ref 44), some (.int (Int32.ofNat k)), some (.ref (zel X 0 (Int32.ofNat k))), some (.int ((p186b k M ((Int32.ofNat (M.2.2.1 0).length).toInt.toNat - (k + 1)) (k + 1) (Int32.ofInt 1)))), o4]) (st' := [.int (Int32.ofInt 0), .ref (zel X 0 (Int32.ofNat k)), .ref 46]) rfl ?_
        refine zpE_aly rfl (zUX_e hX hR) (fun _ _ => ?_)
        refine zpE_gen (fun nc ns => ?_)
        refine zpE_aaw rfl rfl (fun n1a n1 => ?_)
        replace n1 := And.intro n1a n1
        refine zpE_run 2 (L' := [some (.ref 44), some (.int (Int32.ofNat k)), some (.ref (zel X 0 (Int32.ofNat k))), some (.int ((p186b k M ((Int32.ofNat (M.2.2.1 0).length).toInt.toNat - (k + 1)) (k + 1) (Int32.ofInt 1)))), o4]) (st' := [.int (Int32.ofInt 1), .ref (zel X 0 (Int32.ofNat k)), .ref (47 + Int32.toNatClampNeg (zgt ((M.2.2.1 0).getD (Int32.toNatClampNeg (Int32.ofNat k)) []) (Int32.ofInt 0)))]) rfl ?_
        refine zpE_aly rfl (zUX_e hX hR) (fun _ _ => ?_)
        refine zpE_gen (fun nc ns => ?_)
        refine zpE_aly rfl (zy_row n1.2) (fun _ _ => ?_)
        refine zpE_gen (fun nc ns => ?_)
        refine zpE_run 2 (L' := [some (.ref 44), some (.int (Int32.ofNat k)), some (.ref (zel X 0 (Int32.ofNat k))), some (.int ((p186b k M ((Int32.ofNat (M.2.2.1 0).length).toInt.toNat - (k + 1)) (k + 1) (Int32.ofInt 1)))), o4]) (st' := [.int (Int32.ofInt 2), .ref (zel X 0 (Int32.ofNat k)), .int (zgt (M.2.1 (Int32.toNatClampNeg (zgt ((M.2.2.1 0).getD (Int32.toNatClampNeg (Int32.ofNat k)) []) (Int32.ofInt 0)))) (zgt ((M.2.2.1 0).getD (Int32.toNatClampNeg (Int32.ofNat k)) []) (Int32.ofInt 1)))]) rfl ?_
        refine zpE_aly rfl (zUX_e hX hR) (fun _ _ => ?_)
        refine zpE_gen (fun nc ns => ?_)
        refine zpE_call rfl rfl (f_113 (M := M) (x1 := zgt (M.2.1 (Int32.toNatClampNeg (zgt ((M.2.2.1 0).getD (Int32.toNatClampNeg (Int32.ofNat k)) []) (Int32.ofInt 0)))) (zgt ((M.2.2.1 0).getD (Int32.toNatClampNeg (Int32.ofNat k)) []) (Int32.ofInt 1))) (x2 := zgt ((M.2.2.1 0).getD (Int32.toNatClampNeg (Int32.ofNat k)) []) (Int32.ofInt 2)) hX) (fun v h1 nc1 ns1 q8 => ?_) (fun E h1 nc1 ns1 q8 => by cases q8.1)
        obtain ⟨q8, q9⟩ := q8
        cases q8
        cases q9
        refine zpE_run 2 (L' := [some (.ref 44), some (.int (Int32.ofNat k)), some (.ref (zel X 0 (Int32.ofNat k))), some (.int ((p186b k M ((Int32.ofNat (M.2.2.1 0).length).toInt.toNat - (k + 1)) (k + 1) (Int32.ofInt 1)))), o4]) (st' := [.int (Int32.ofInt 3), .ref (zel X 0 (Int32.ofNat k)), .int (v113 (zgt (M.2.1 (Int32.toNatClampNeg (zgt ((M.2.2.1 0).getD (Int32.toNatClampNeg (Int32.ofNat k)) []) (Int32.ofInt 0)))) (zgt ((M.2.2.1 0).getD (Int32.toNatClampNeg (Int32.ofNat k)) []) (Int32.ofInt 1))) (zgt ((M.2.2.1 0).getD (Int32.toNatClampNeg (Int32.ofNat k)) []) (Int32.ofInt 2)) M)]) rfl ?_
        refine zpE_aly rfl (zUX_e hX hR) (fun _ _ => ?_)
        refine zpE_gen (fun nc ns => ?_)
        refine zpE_run 1 (L' := [some (.ref 44), some (.int (Int32.ofNat k)), some (.ref (zel X 0 (Int32.ofNat k))), some (.int ((p186b k M ((Int32.ofNat (M.2.2.1 0).length).toInt.toNat - (k + 1)) (k + 1) (Int32.ofInt 1)))), o4]) (st' := [.int (Int32.ofInt 1), .int (zgt ((M.2.2.1 0).getD (Int32.toNatClampNeg (Int32.ofNat k)) []) (Int32.ofInt 3)), .int (v113 (zgt (M.2.1 (Int32.toNatClampNeg (zgt ((M.2.2.1 0).getD (Int32.toNatClampNeg (Int32.ofNat k)) []) (Int32.ofInt 0)))) (zgt ((M.2.2.1 0).getD (Int32.toNatClampNeg (Int32.ofNat k)) []) (Int32.ofInt 1))) (zgt ((M.2.2.1 0).getD (Int32.toNatClampNeg (Int32.ofNat k)) []) (Int32.ofInt 2)) M)]) rfl ?_
        refine zpE_icmp rfl (fun q219 => ?_) (fun q219 => ?_)
        · have z219_1 := zF_n1 q219
          refine zpE_run 1 (L' := [some (.ref 44), some (.int (Int32.ofNat k)), some (.ref (zel X 0 (Int32.ofNat k))), some (.int ((p186b k M ((Int32.ofNat (M.2.2.1 0).length).toInt.toNat - (k + 1)) (k + 1) (Int32.ofInt 1)))), o4]) (st' := [.int (Int32.ofInt 0), .int (v113 (zgt (M.2.1 (Int32.toNatClampNeg (zgt ((M.2.2.1 0).getD (Int32.toNatClampNeg (Int32.ofNat k)) []) (Int32.ofInt 0)))) (zgt ((M.2.2.1 0).getD (Int32.toNatClampNeg (Int32.ofNat k)) []) (Int32.ofInt 1))) (zgt ((M.2.2.1 0).getD (Int32.toNatClampNeg (Int32.ofNat k)) []) (Int32.ofInt 2)) M)]) rfl ?_
          refine zpE_icmp rfl (fun q227 => ?_) (fun q227 => ?_)
          · have z227_2 := zF_e1 q227
            refine zpE_run 2 (L' := [some (.ref 44), some (.int ((Int32.ofNat k) + Int32.ofInt 1)), some (.ref (zel X 0 (Int32.ofNat k))), some (.int ((p186b k M ((Int32.ofNat (M.2.2.1 0).length).toInt.toNat - (k + 1)) (k + 1) (Int32.ofInt 1)))), o4]) (st' := []) rfl ?_
            rw [zof1, eQ, if_neg z194_0, if_neg z219_1, if_pos z227_2]
            exact l_186b hX N (k + 1) m _ _ _ _ _ (by omega)
          · have z227_2 := zF_e0 q227
            refine zpE_run 1 (L' := [some (.ref 44), some (.int (Int32.ofNat k)), some (.ref (zel X 0 (Int32.ofNat k))), some (.int ((p186b k M ((Int32.ofNat (M.2.2.1 0).length).toInt.toNat - (k + 1)) (k + 1) (Int32.ofInt 1)))), o4]) (st' := [.int (Int32.ofInt 0)]) rfl ?_
            exact zpE_end rfl rfl (by rw [eQ, if_neg z194_0, if_neg z219_1, if_neg z227_2]; exact zOq_v rfl)
        · have z219_1 := zF_n0 q219
          refine zpE_run 2 (L' := [some (.ref 44), some (.int (Int32.ofNat k)), some (.ref (zel X 0 (Int32.ofNat k))), some (.int ((p186b k M ((Int32.ofNat (M.2.2.1 0).length).toInt.toNat - (k + 1)) (k + 1) (Int32.ofInt 1)))), o4]) (st' := [.int (Int32.ofInt 1), .int (v113 (zgt (M.2.1 (Int32.toNatClampNeg (zgt ((M.2.2.1 0).getD (Int32.toNatClampNeg (Int32.ofNat k)) []) (Int32.ofInt 0)))) (zgt ((M.2.2.1 0).getD (Int32.toNatClampNeg (Int32.ofNat k)) []) (Int32.ofInt 1))) (zgt ((M.2.2.1 0).getD (Int32.toNatClampNeg (Int32.ofNat k)) []) (Int32.ofInt 2)) M)]) rfl ?_
          refine zpE_icmp rfl (fun q227 => ?_) (fun q227 => ?_)
          · have z227_2 := zF_e1 q227
            refine zpE_run 2 (L' := [some (.ref 44), some (.int ((Int32.ofNat k) + Int32.ofInt 1)), some (.ref (zel X 0 (Int32.ofNat k))), some (.int ((p186b k M ((Int32.ofNat (M.2.2.1 0).length).toInt.toNat - (k + 1)) (k + 1) (Int32.ofInt 1)))), o4]) (st' := []) rfl ?_
            rw [zof1, eQ, if_neg z194_0, if_pos z219_1, if_pos z227_2]
            exact l_186b hX N (k + 1) m _ _ _ _ _ (by omega)
          · have z227_2 := zF_e0 q227
            refine zpE_run 1 (L' := [some (.ref 44), some (.int (Int32.ofNat k)), some (.ref (zel X 0 (Int32.ofNat k))), some (.int ((p186b k M ((Int32.ofNat (M.2.2.1 0).length).toInt.toNat - (k + 1)) (k + 1) (Int32.ofInt 1)))), o4]) (st' := [.int (Int32.ofInt 0)]) rfl ?_
            exact zpE_end rfl rfl (by rw [eQ, if_neg z194_0, if_pos z219_1, if_neg z227_2]; exact zOq_v rfl)
def v186b (M : zRt) : Int32 := q186b M (Int32.ofNat (M.2.2.1 0).length).toInt.toNat 0
theorem e_186b {o1 o2 o3 o4 : Option Value} (hX : zUX kq X M.2.2) : zpE xs N 186 63 [some (.ref 44), o1, o2, o3, o4] [] (zy S0 M X) nc ns (zOq (.inl (some (.int (v186b M)))) (zy S0 M X)) := by
  refine zpE_run 2 (L' := [some (.ref 44), some (.int (Int32.ofNat 0)), o2, o3, o4]) (st' := []) rfl ?_
  exact l_186b hX N 0 _ _ _ _ _ _ (Nat.zero_add _)
def p186a (a : Nat) (M : zRt) : Nat → Nat → Bool
  | 0, _ => true
  | m + 1, k => if (zgt M.2.2.2 (Int32.ofNat a)) = (zgt M.2.2.2 ((Int32.ofNat k))) then false else (p186a a M m (k + 1))
theorem l_186ai {a N0 k0 m0 : Nat} {o3 o4 : Option Value} {P : zO → Prop} (hX : zUX kq X M.2.2) (K : p186a a M m0 k0 = true → ∀ (o2 : Option Value) (nc ns : Nat), zpE xs N0 186 57 [some (.ref 44), some (.int (Int32.ofNat a)), o2, o3, o4] [] (zy S0 M X) nc ns P) (H : p186a a M m0 k0 = false → ∀ o, zOq (.inl (some (.int (Int32.ofInt 0)))) (zy S0 M X) o → P o) : ∀ (N k m : Nat) (nc ns : Nat), N ≤ N0 → k + m = (Int32.ofNat a).toInt.toNat → p186a a M m0 k0 = p186a a M m k → zpE xs N 186 29 [some (.ref 44), some (.int (Int32.ofNat a)), some (.int (Int32.ofNat k)), o3, o4] [] (zy S0 M X) nc ns P
  | 0, _, _, _, _, _, _, _ => zpE_0
  | N + 1, k, m0, nc, ns, hN, hk, hq => by
    refine zpE_run1 1 (L' := [some (.ref 44), some (.int (Int32.ofNat a)), some (.int (Int32.ofNat k)), o3, o4]) (st' := [.int (Int32.ofNat a), .int (Int32.ofNat k)]) rfl ?_
    refine zpE_icmp rfl (fun q31 => ?_) (fun q31 => ?_)
    · have z31_0 := Int.not_lt.mpr (zF_ge_t q31)
      rw [zlp_o2 z31_0 hk] at hq
      exact zpE_le (by omega) (K hq _ _ _)
    · have z31_0 := zF_ge_f q31
      obtain ⟨m, rfl⟩ := zlp_i2 z31_0 hk
      have eQ : p186a a M (m + 1) k = if (zgt M.2.2.2 (Int32.ofNat a)) = (zgt M.2.2.2 ((Int32.ofNat k))) then false else (p186a a M m (k + 1)) := rfl
      refine zpE_run 3 (L' := [some (.ref 44), some (.int (Int32.ofNat a)), some (.int (Int32.ofNat k)), o3, o4]) (st' := [.int (Int32.ofNat a), .ref (X.1 9)]) rfl ?_
      refine zpE_aly rfl (zUX_c hX) (fun _ _ => ?_)
      refine zpE_gen (fun nc ns => ?_)
      refine zpE_run 3 (L' := [some (.ref 44), some (.int (Int32.ofNat a)), some (.int (Int32.ofNat k)), o3, o4]) (st' := [.int (Int32.ofNat k), .ref (X.1 9), .int (zgt M.2.2.2 (Int32.ofNat a))]) rfl ?_
      refine zpE_aly rfl (zUX_c hX) (fun _ _ => ?_)
      refine zpE_gen (fun nc ns => ?_)
      refine zpE_icmp rfl (fun q46 => ?_) (fun q46 => ?_)
      · have z46_1 := zF_n1 q46
        refine zpE_run 2 (L' := [some (.ref 44), some (.int (Int32.ofNat a)), some (.int ((Int32.ofNat k) + Int32.ofInt 1)), o3, o4]) (st' := []) rfl ?_
        have K9 := fun nc ns => l_186ai hX K H N (k + 1) m nc ns (by omega) (by omega) (hq.trans (by rw [eQ, if_neg z46_1]))
        rw [← zof1] at K9
        exact K9 _ _
      · have z46_1 := zF_n0 q46
        refine zpE_run 1 (L' := [some (.ref 44), some (.int (Int32.ofNat a)), some (.int (Int32.ofNat k)), o3, o4]) (st' := [.int (Int32.ofInt 0)]) rfl ?_
        exact zpE_end rfl rfl (H (hq.trans (by rw [eQ, if_pos z46_1])) _ (zOq_v rfl))
def q186a (M : zRt) : Nat → Nat → Int32
  | 0, _ => v186b M
  | m + 1, k => if (zrmd (zwg 31 (Int32.ofInt 0) (zgt M.2.2.2 ((Int32.ofNat k)))) (Int32.ofInt 2)) = ((0 : Int32)) then ((Int32.ofInt 0)) else (if p186a k M (Int32.ofNat k).toInt.toNat 0 = true then q186a M m (k + 1) else Int32.ofInt 0)
theorem l_186a (hX : zUX kq X M.2.2) : ∀ (N k m : Nat) (o2 : Option Value) (o3 : Option Value) (o4 : Option Value) (nc ns : Nat), k + m = (Int32.ofNat M.2.2.2.length).toInt.toNat → zpE xs N 186 2 [some (.ref 44), some (.int (Int32.ofNat k)), o2, o3, o4] [] (zy S0 M X) nc ns (zOq (.inl (some (.int (q186a M m k)))) (zy S0 M X))
  | 0, _, _, _, _, _, _, _, _ => zpE_0
  | N + 1, k, m0, o2, o3, o4, nc, ns, hk => by
    refine zpE_run1 2 (L' := [some (.ref 44), some (.int (Int32.ofNat k)), o2, o3, o4]) (st' := [.ref (X.1 9), .int (Int32.ofNat k)]) rfl ?_
    refine zpE_alen rfl (zUX_c hX) (by decide) ?_
    rw [List.length_map]
    refine zpE_icmp rfl (fun q8 => ?_) (fun q8 => ?_)
    · have z8_0 := Int.not_lt.mpr (zF_ge_t q8)
      rw [show q186a M m0 k = v186b M from by rw [zlp_o2 z8_0 hk]; rfl]
      exact e_186b hX
    · have z8_0 := zF_ge_f q8
      obtain ⟨m, rfl⟩ := zlp_i2 z8_0 hk
      have eQ : q186a M (m + 1) k = if (zrmd (zwg 31 (Int32.ofInt 0) (zgt M.2.2.2 ((Int32.ofNat k)))) (Int32.ofInt 2)) = ((0 : Int32)) then ((Int32.ofInt 0)) else (if p186a k M (Int32.ofNat k).toInt.toNat 0 = true then q186a M m (k + 1) else Int32.ofInt 0) := rfl
      refine zpE_run 3 (L' := [some (.ref 44), some (.int (Int32.ofNat k)), o2, o3, o4]) (st' := [.int (Int32.ofNat k), .ref (X.1 9)]) rfl ?_
      refine zpE_aly rfl (zUX_c hX) (fun _ _ => ?_)
      refine zpE_gen (fun nc ns => ?_)
      refine zpE_call rfl rfl (g_wg (x := zgt M.2.2.2 (Int32.ofNat k))) (fun v h1 nc1 ns1 q8 => ?_) (fun E h1 nc1 ns1 q8 => by cases q8.1)
      obtain ⟨q8, q9⟩ := q8
      cases q8
      cases q9
      refine zpE_run 1 (L' := [some (.ref 44), some (.int (Int32.ofNat k)), o2, o3, o4]) (st' := [.int (Int32.ofInt 2), .int (zwg 31 (Int32.ofInt 0) (zgt M.2.2.2 (Int32.ofNat k)))]) rfl ?_
      refine zpE_irem rfl (fun _ => ?_)
      refine zpE_if rfl (fun q22 => ?_) (fun q22 => ?_)
      · have z22_1 := zF_n1 q22
        refine zpE_run 2 (L' := [some (.ref 44), some (.int (Int32.ofNat k)), some (.int (Int32.ofNat 0)), o3, o4]) (st' := []) rfl ?_
        rw [eQ, if_neg z22_1]
        refine l_186ai (a := k) (N0 := N) (m0 := (Int32.ofNat k).toInt.toNat) (k0 := 0) hX (fun e o2 nc ns => ?_) (fun e o ho => ?_) N _ _ _ _ (Nat.le_refl _) (Nat.zero_add _) rfl
        · rw [if_pos e]
          refine zpE_run 2 (L' := [some (.ref 44), some (.int (Int32.ofNat k + Int32.ofInt 1)), o2, o3, o4]) (st' := []) rfl ?_
          rw [zof1]
          exact l_186a hX N (k + 1) m _ _ _ _ _ (by omega)
        · rw [if_neg (by rw [e]; exact Bool.false_ne_true)]
          exact ho
      · have z22_1 := zF_n0 q22
        refine zpE_run 1 (L' := [some (.ref 44), some (.int (Int32.ofNat k)), o2, o3, o4]) (st' := [.int (Int32.ofInt 0)]) rfl ?_
        exact zpE_end rfl rfl (by rw [eQ, if_pos z22_1]; exact zOq_v rfl)
def v186 (M : zRt) : Int32 := q186a M (Int32.ofNat M.2.2.2.length).toInt.toNat 0
theorem f_186 (hX : zUX kq X M.2.2) : zpM xs N 186 [.ref 44] (zy S0 M X) nc ns (zOq (.inl (some (.int (v186 M)))) (zy S0 M X)) := by
  intro L0 e
  cases e
  refine zpE_run 2 (L' := [some (.ref 44), some (.int (Int32.ofNat 0)), none, none, none]) (st' := []) rfl ?_
  exact l_186a hX N 0 _ _ _ _ _ _ (Nat.zero_add _)
def v187  (M : zRt) : Int32 := (v186 (zmS M 0 (Int32.ofInt 0)))
def r187  (M : zRt) : zRt := zmS M 0 (Int32.ofInt 0)
theorem f_187 (hX : zUX kq X M.2.2) : zpM xs N 187 [.ref 44] (zy S0 M X) nc ns (zOq (.inl (some (.int (v187 M)))) (zy S0 (r187 M) X)) := by
  intro L0 e
  cases e
  refine zpE_run 4 (L' := [some (.ref 44)]) (st' := [.ref 44]) (h' := zy S0 (zmS M 0 (Int32.ofInt 0)) X) rfl ?_
  refine zpE_call rfl rfl (f_186 (M := zmS M 0 (Int32.ofInt 0)) hX) (fun v h1 nc1 ns1 q8 => ?_) (fun E h1 nc1 ns1 q8 => by cases q8.1)
  obtain ⟨q8, q9⟩ := q8
  cases q8
  cases q9
  exact zpE_retb rfl (fun _ => (zOr_w (M' := zmS M 0 (Int32.ofInt 0)) (by unfold v187; (first | done | rfl)) (by unfold r187; (first | done | rfl))))
theorem gr_187 : zfrM [0] [] [] (r187 M) M := by
  unfold r187
  exact (gm_c gm_S gm_rf (by decide) (by decide) (by decide))
theorem rl_187 : (r187 M).2.2 = M.2.2 := gm_l gr_187
end ZRE
